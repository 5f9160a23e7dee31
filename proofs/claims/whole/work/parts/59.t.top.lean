set_option maxRecDepth 100000
/-! each point of the program, in the class's source -/
section TPs
variable {sp : Nat → Nat → Bool} {NL : List Nat} {D : lyD} {Pt : Nat → lpt} {FK : Nat → Nat} {Sc : cps} {N f k w e : Nat}
theorem PTO_of (H : PGH sp NL D) (hc : 0 < D.c) (f0 : (D.FP (D.c - 1)).length = 0) (ly : LYR D Pt f true (D.FT (D.c - 1)) k w (D.S (D.c - 1)) 0 e [] 0 (lyX0 D)) (he : e ≤ 249) (STg : ∀ g, g < D.c → ∃ k', stR D.sp Sc g N true (D.FT g) (D.S g) k' (D.FP g) (D.FP g).length) : PTO sp NL Pt (E00 (pD sp NL D FK)) D Sc e := by
  have hM : D.c - 1 < D.c := by omega
  obtain ⟨k', Sg⟩ := STg (D.c - 1) hM
  have fp0 : D.FP (D.c - 1) = [] := List.eq_nil_of_length_eq_zero f0
  rw [fp0] at Sg
  have P := PT_top (FK := FK) H hc ly he
  refine PTO.of ⟨H.s, H.q, fun q hq => (P q hq).b, fun q hq => (P q hq).k, fun q hq => (P q hq).l, fun q hq => (P q hq).Q, fun q hq => (P q hq).t, fun q hq => ?_, fun q hq => ?_⟩
  · obtain ⟨⟨b1, b2, b3⟩, b4⟩ := LYR_bd ly (Nat.zero_le q) hq
    exact ⟨b1, Nat.le_trans b2 b3, b4⟩
  · obtain ⟨-, N', s1, b, rl, st, -⟩ := LYR_st STg f true _ k w _ 0 e [] 0 (lyX0 D) N k' ly Sg hM q (Nat.zero_le _) hq
    exact ⟨_, s1, b, rl, st⟩
end TPs
