set_option maxRecDepth 100000
/-! the program of a text, as the reference holds it -/
section PGs
variable {K : Nat → Int32} {P U : Nat → Nat} {V : Nat → Int} {N m n j : Nat} {Bt : Nat → Int32} {T : tr} {h : mh_H} {Sc : cps} {NL : List Nat}
theorem pgZ_v (hz : ∀ i, K i = 2 → i < m ∧ P i < 65536) : ∀ f i, tvR K m (pgZ K P V N f i) := by
  intro f
  induction f with
  | zero => exact fun i => tv_no
  | succ f ih => exact fun i => tv_bnd (pgF_v hz i) fun t j w => tv_if (fun _ => tv_so w) (fun _ => tv_bnd (ih j) fun r k w2 => tv_so (tv_A w w2))
theorem tkPl_0 : ∀ (T : tks) i, ¬ i < T.length → tkPl T i = 0 := by
  intro T
  induction T with
  | nil => exact fun _ _ => rfl
  | cons x r ih =>
    intro i hi
    cases i with
    | zero => exact absurd (Nat.succ_pos _) hi
    | succ i => exact ih i (fun z => hi (Nat.succ_lt_succ z))
theorem tkPl_n (i : Nat) : tkPl (toks Bt n) i ≤ n := by
  by_cases c : i < (toks Bt n).length
  · have := (tkG_i _ 0 i toks_G c).2.1
    omega
  · rw [tkPl_0 _ i c]
    exact Nat.zero_le _
theorem tk_2 (i : Nat) (k2 : tkK (toks Bt n) i = 2) : i < (toks Bt n).length := by
  by_cases c : i < (toks Bt n).length
  · exact c
  · rw [tkK_0 _ i c] at k2
    exact absurd k2 (by decide)
/-- what is known of the tree of a text -/
theorem TX_of (hn : n ≤ 10300) {f : Nat} (e : pgZ (tkK (toks Bt n)) (tkPl (toks Bt n)) (fun i => nvl Bt (n - tkPl (toks Bt n) i) (tkPl (toks Bt n) i) 0) N f 0 = (j, some T)) : fgZ (tkK (toks Bt n)) (tkPl (toks Bt n)) T ∧ tvT (tkK (toks Bt n)) (toks Bt n).length T ∧ syT T ∧ ts T ≤ 2 * (n + 1) := by
  have tl := toks_len (Bt := Bt) (n := n)
  have gd := pgZ_b (P := tkPl (toks Bt n)) (V := fun i => nvl Bt (n - tkPl (toks Bt n) i) (tkPl (toks Bt n) i) 0) (N := N) (toks_M (B := Bt) (n := n)) f 0 toks_pos
  have gq := pgZ_q (K := tkK (toks Bt n)) (P := tkPl (toks Bt n)) (V := fun i => nvl Bt (n - tkPl (toks Bt n) i) (tkPl (toks Bt n) i) 0) (N := N) (fun i k3 => by
    by_cases c : i < (toks Bt n).length
    · exact (tkG_i _ 0 i toks_G c).2.2.2.1 k3
    · rw [tkK_0 _ i c] at k3
      exact absurd k3 (by decide)) (fun i => by have := tkPl_n (Bt := Bt) (n := n) i; omega) f 0
  have gv := pgZ_v (K := tkK (toks Bt n)) (P := tkPl (toks Bt n)) (m := (toks Bt n).length) (V := fun i => nvl Bt (n - tkPl (toks Bt n) i) (tkPl (toks Bt n) i) 0) (N := N) (fun i k2 => ⟨tk_2 i k2, by have := tkPl_n (Bt := Bt) (n := n) i; omega⟩) f 0
  have gy := pgZ_y (K := tkK (toks Bt n)) (P := tkPl (toks Bt n)) (V := fun i => nvl Bt (n - tkPl (toks Bt n) i) (tkPl (toks Bt n) i) 0) (N := N) f 0
  rw [e] at gd gq gv gy
  obtain ⟨-, g2, g3⟩ := gd
  have g2' : j < (toks Bt n).length := g2
  obtain ⟨-, g4, -⟩ := g3 T rfl
  have g4' : ts T ≤ 2 * (j - 0) := g4
  exact ⟨(gq T rfl).2 (by show j ≤ 11990; omega), gv T rfl, gy T rfl, by omega⟩
/-- the reference's rows: whatever else changes -/
theorem RLT_of (hn : n ≤ 10300) (I : KPI h n (toks Bt n).length Bt (tkK (toks Bt n)) (tkPl (toks Bt n)) (tkWd (toks Bt n)) NL (1 + ts T)) (kn : knT (spe Bt n (tkPl (toks Bt n)) (tkWd (toks Bt n))) NL T) (nd1 : nd (mh_i h 93) (mh_i h 95) (mh_i h 97) 1 (rn (spe Bt n (tkPl (toks Bt n)) (tkWd (toks Bt n))) NL T)) (pw1 : pw (mh_i h 96) (mh_i h 94) T 1 (Int32.ofNat 0)) (G : fgZ (tkK (toks Bt n)) (tkPl (toks Bt n)) T) (tv : tvT (tkK (toks Bt n)) (toks Bt n).length T) (sy : syT T) (tsT : ts T ≤ 2 * (n + 1)) (Z : fnZ (spe Bt n (tkPl (toks Bt n)) (tkWd (toks Bt n))) Sc N T 0 0 (Sc.1 9) (Sc.1 8)) (h8 : Sc.1 8 < 20000) (hc : 0 < Sc.1 9) : NL.length < 8299 ∧ ∀ h2, (∀ b j, 93 ≤ b → b ≤ 97 → mh_i h2 b j = mh_i h b j) → mh_i h2 81 24 = mh_i h 81 24 → RLC h2 (fun a => nix (spe Bt n (tkPl (toks Bt n)) (tkWd (toks Bt n))) NL a) (fun a => nix (spe Bt n (tkPl (toks Bt n)) (tkWd (toks Bt n))) NL a < NL.length) (lyDs (spe Bt n (tkPl (toks Bt n)) (tkWd (toks Bt n))) (Sc.2 15) (tkPl (toks Bt n)) T (Sc.1 9)) (tkK (toks Bt n)) (toks Bt n).length (1 + ts T) (poZ T 1) T := by
  have tl := toks_len (Bt := Bt) (n := n)
  have rm := nm_room I.2.2.1
  refine ⟨by omega, fun h2 e9 e24 => ?_⟩
  have row : ∀ b, 93 ≤ b → b ≤ 97 → mh_i h2 b = mh_i h b := fun b u1 u2 => funext fun j => e9 b j u1 u2
  exact RLC_m (Bt := Bt) (n := n) (U := tkWd (toks Bt n)) rfl (by rw [row 93 (by omega) (by omega), row 95 (by omega) (by omega), row 97 (by omega) (by omega)]; exact nd1) (by rw [row 96 (by omega) (by omega), row 94 (by omega) (by omega)]; exact pw1) kn (e24.trans I.2.2.2) Z G tv sy (fun i k2 => tk_2 i k2) (by omega) (by omega) h8 (by omega) hc
end PGs
