set_option maxRecDepth 100000
/-! the program of a text is in order -/
section PHs2
variable {K : Nat → Int32} {P U : Nat → Nat} {sp : Nat → Nat → Bool} {N m n : Nat} {T : tr} {Sc : cps} {NL : List Nat} {Bt : Nat → Int32} {KN : Nat → Prop}
theorem prL_k : ∀ r i (L : cen), pmT K P r i → nmK KN r → (∀ a z, (a, z) ∈ L → KN a) → ∀ a z, (a, z) ∈ prL r L → KN a := by
  intro r
  induction r with
  | leaf x => exact fun i L _ _ w => w
  | branch a cs r _ ih =>
    intro i L p nk w
    obtain ⟨⟨p1, p2, p3, p4, p5⟩, p6⟩ := p
    subst p3
    obtain ⟨n1, -, n3⟩ := nk
    have e : prL (.branch a (.leaf ()) r) L = prL r (((tV a).toNat, 0) :: L) := rfl
    rw [e]
    refine ih _ _ p6 n3 (fun b z q => ?_)
    rcases List.mem_cons.mp q with q | q
    · injection q with q1 q2
      rw [q1]
      exact n1 p1
    · exact w b z q
theorem PGH_of (hsp : sp = spe Bt n P U) (Z : fnZ sp Sc N T 0 0 (Sc.1 9) (Sc.1 8)) (G : fgZ K P T) (sy : syT T) (kn : knT sp NL T) (hT : ts T ≤ 26000) (hz : ∀ i, K i = 2 → i < m) (hm : m ≤ 20000) : PGH sp NL (lyDs sp (Sc.2 15) P T (Sc.1 9)) := by
  obtain ⟨-, xs, ys, w⟩ := PF_all Z G
  refine PGH.of ⟨fun a v ka => ?_, rfl, fun g hg => ?_⟩
  · subst hsp
    exact nix_w ka
  · obtain ⟨-, i, F⟩ := w g hg
    have kng : nmK (fun a => nix sp NL a < NL.length) (fnA T g) := knT_K _ (sub_fn (Φ := knT sp NL) (fun _ => trivial) (fun n cs r w => ⟨w.2.1, w.2.2⟩) T kn g)
    have knb : nmK (fun a => nix sp NL a < NL.length) (blX (tT (fnA T g))) := knT_K _ (sub_bl (Φ := knT sp NL) (fun _ => trivial) (fun n cs r w => ⟨w.2.1, w.2.2⟩) T kn g)
    have syb : syT (blX (tT (fnA T g))) := sub_bl (Φ := syT) (fun _ => trivial) (fun n cs r w => ⟨w.2.1, w.2.2⟩) T sy g
    have tb := ts_bl T g
    obtain ⟨a, r, b0, ecs, ka, ti, pm, kb0, eL, pa⟩ := F.c
    rw [ecs] at kng
    obtain ⟨k1, -, k2⟩ := kng
    obtain ⟨k3, -⟩ := nmK_C _ _ k2
    have hi := hz i F.k
    have len : (prX (tT (fnA T g)) []).length < 50000 := by
      by_cases c : 0 < (prX (tT (fnA T g)) []).length
      · have := hz _ (F.l c)
        omega
      · omega
    have all : ∀ a z, (a, z) ∈ prX (tT (fnA T g)) [] → nix sp NL a < NL.length := fun b z q => by
      rw [eL] at q
      exact prL_k (KN := fun a => nix sp NL a < NL.length) r _ [] pm k3 (fun _ _ q => absurd q (by simp)) b z q
    refine ⟨⟨F.g, syb, knb, Nat.le_trans tb hT⟩, fun b z q => ⟨all b z q, ?_⟩, fun b z q => (F.m b z q).2, F.h1, len, ?_⟩
    · rw [(F.m b z q).2]
      exact Nat.zero_le _
    · show nix sp NL (Sc.2 15 (6 * g)).toNatClampNeg < NL.length
      rw [F.h0, nn_clamp (by omega)]
      have := k1 ka
      rw [ti] at this
      exact this
end PHs2
