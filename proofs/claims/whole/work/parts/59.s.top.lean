set_option maxRecDepth 100000
/-! a layout where nothing is wrong: what all of it rests on -/
section TOs
variable {sp : Nat → Nat → Bool} {NL : List Nat} {D : lyD} {Pt : Nat → lpt} {FK : Nat → Nat} {f k w s e : Nat}
theorem RW_top (H : PGH sp NL D) (hc : 0 < D.c) : RWx sp NL Pt (E00 (pD sp NL D FK)) D [] (lyX0 D) (D.FT (D.c - 1)) 0 := by
  have hM : D.c - 1 < D.c := by omega
  obtain ⟨⟨h1, h2, h3, h4⟩, -⟩ := H.f (D.c - 1) hM
  have b0 : bsF sp NL Pt (E00 (pD sp NL D FK)) 250 (lyX0 D) = E00 (pD sp NL D FK) := bs_n (f := 249) rfl
  have x1 : (lyX0 D).nb = 0 := rfl
  have x2 : (lyX0 D).na = 0 := rfl
  have z1 : cnZl [] = 0 := rfl
  have z2 : cnAl [] = 0 := rfl
  refine RWx.of ⟨?_, fun a z q => absurd q (by simp), fun o ho => (by cases ho), hM, ⟨by rw [x1, z1]; decide, by rw [x2, z2]; decide⟩, ⟨h1, h2, h3⟩, h4, fun y hy => (by cases hy)⟩
  rw [b0]
  exact EQx.of ⟨rfl, rfl, fun x hx => absurd hx (Nat.not_lt_zero _), rfl, rfl, rfl⟩
theorem ow_top (ly : LYR D Pt f true (D.FT (D.c - 1)) k w s 0 e [] 0 (lyX0 D)) : ∀ q o, q < e → (Pt q).X.ow = some o → o < q := fun q o hq ho => by
  rcases LYR_ow f true _ k w s 0 e [] 0 (lyX0 D) ly q (Nat.zero_le _) hq with ⟨w1, -⟩ | ⟨o', -, w2⟩
  · rw [w1] at ho
    have n0 : (lyX0 D).ow = none := rfl
    rw [n0] at ho
    cases ho
  · obtain ⟨v1, v2, -⟩ := w2
    rw [v1] at ho
    injection ho with ho
    rw [← ho]
    exact v2
theorem LW_top (H : PGH sp NL D) (hc : 0 < D.c) (ly : LYR D Pt f true (D.FT (D.c - 1)) k w s 0 e [] 0 (lyX0 D)) (he : e ≤ 249) : LW (pgG sp NL Pt (E00 (pD sp NL D FK)) e) (pJ sp NL Pt (E00 (pD sp NL D FK))) (pD sp NL D FK) f ((pD sp NL D FK).t ((pD sp NL D FK).c - 1)) 0 e (E00 (pD sp NL D FK)) := by
  have b0 : bsF sp NL Pt (E00 (pD sp NL D FK)) 250 (lyX0 D) = E00 (pD sp NL D FK) := bs_n (f := 249) rfl
  have := LW_of (FK := FK) (E0 := E00 (pD sp NL D FK)) (e0 := e) H he (ow_top ly) f true _ k w s 0 e 0 [] (lyX0 D) ly (Nat.le_refl _) (RW_top H hc)
  rw [b0] at this
  exact this
theorem PT_top (H : PGH sp NL D) (hc : 0 < D.c) (ly : LYR D Pt f true (D.FT (D.c - 1)) k w s 0 e [] 0 (lyX0 D)) (he : e ≤ 249) : ∀ q, q < e → PTp sp NL Pt (E00 (pD sp NL D FK)) D q := fun q hq => RW_at H he (ow_top ly) f true _ k w s 0 e 0 [] (lyX0 D) ly (Nat.le_refl _) (RW_top H hc) q (Nat.zero_le _) hq
end TOs
