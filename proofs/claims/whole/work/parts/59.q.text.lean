set_option maxRecDepth 100000
/-! the program of a text: what the layouts of both sides want -/
section PLs
variable {K : Nat → Int32} {P : Nat → Nat} {sp : Nat → Nat → Bool} {N m : Nat} {T : tr} {h : mh_H} {Sc : cps} {nm : Nat → Nat} {KN : Nat → Prop}
theorem PF_all (Z : fnZ sp Sc N T 0 0 (Sc.1 9) (Sc.1 8)) (G : fgZ K P T) : tlc T = Sc.1 9 ∧ ∃ xs ys : Nat → Nat, ∀ g, g < Sc.1 9 → (xs g ≤ ys g ∧ ys g ≤ Sc.1 8) ∧ ∃ i, FPK K P sp Sc N (prX (tT (fnA T g)) []) (blX (tT (fnA T g))) (fnA T g) g i (xs g) (ys g) := by
  obtain ⟨⟨zc, -⟩, xs, ys, atz⟩ := fnZ_at T 0 0 _ _ Z
  rw [Nat.zero_add] at zc
  refine ⟨zc.symm, xs, ys, fun g hg => ?_⟩
  obtain ⟨⟨-, a2, a3⟩, fnn, -⟩ := atz g (by omega)
  rw [Nat.zero_add] at fnn
  exact ⟨⟨a2, a3⟩, FP_of fnn (fgZ_at T G g (by omega))⟩
theorem ST_all (Z : fnZ sp Sc N T 0 0 (Sc.1 9) (Sc.1 8)) (G : fgZ K P T) (h8 : Sc.1 8 < 20000) : ∀ g, g < (lyDs sp (Sc.2 15) P T (Sc.1 9)).c → ∃ k', stR (lyDs sp (Sc.2 15) P T (Sc.1 9)).sp Sc g N true ((lyDs sp (Sc.2 15) P T (Sc.1 9)).FT g) ((lyDs sp (Sc.2 15) P T (Sc.1 9)).S g) k' ((lyDs sp (Sc.2 15) P T (Sc.1 9)).FP g) ((lyDs sp (Sc.2 15) P T (Sc.1 9)).FP g).length := fun g hg => by
  obtain ⟨-, xs, ys, w⟩ := PF_all Z G
  obtain ⟨⟨a1, a2⟩, i, F⟩ := w g hg
  have eS : (lyDs sp (Sc.2 15) P T (Sc.1 9)).S g = xs g := by
    show (Sc.2 15 (6 * g + 3)).toNatClampNeg = xs g
    rw [F.h3]
    exact nn_clamp (by omega)
  rw [eS]
  exact ⟨ys g, F.s⟩
theorem ls_all (Z : fnZ sp Sc N T 0 0 (Sc.1 9) (Sc.1 8)) (G : fgZ K P T) (hc : 0 < Sc.1 9) : lsI T 1 = some (poZ T 1 (Sc.1 9 - 1)) := by
  obtain ⟨tc, -⟩ := PF_all Z G
  rw [lsI_p T 1 (by omega), tc]
/-- where main's name stands -/
theorem nP_all (Z : fnZ sp Sc N T 0 0 (Sc.1 9) (Sc.1 8)) (G : fgZ K P T) (hz : ∀ i, K i = 2 → i < m) (hm : m ≤ 20000) {g : Nat} (hg : g < Sc.1 9) {o : Int32} (tR : trR h nm T 1 o) : mh_i h 94 (poZ T 1 g + 1) = Int32.ofNat (P (Sc.2 15 (6 * g)).toNatClampNeg) := by
  obtain ⟨tc, xs, ys, w⟩ := PF_all Z G
  obtain ⟨-, i, F⟩ := w g hg
  obtain ⟨a, r, b0, ecs, ka, ti, pm, kb0, eL, pa⟩ := F.c
  obtain ⟨⟨nn, t1⟩, -, -⟩ := trR_at T 1 tR g (by omega)
  rw [ecs] at t1
  obtain ⟨-, ⟨⟨y1, y2, -⟩, -⟩, -⟩ := t1
  have hi := hz i F.k
  rw [y2, pa, F.h0, nn_clamp (by omega)]
end PLs
