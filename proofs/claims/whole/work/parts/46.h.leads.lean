set_option maxRecDepth 100000
/-! what leads on has the slots of where it leads (DMS), from the layout -/
section DMs
variable {G : pgm} {fst oth : Nat → Nat}
theorem WB_1 {f p e n a : Nat} {r : Nat → Nat} (w : WB G f p e n a r) (h : p < e) : G.n p = n ∧ G.a p = a := by
  cases f with
  | zero => have : p = e := w; omega
  | succ f =>
    rcases w with w | w
    · omega
    · exact ⟨w.2.1, w.2.2.1⟩
def DM1 (G : pgm) (fst oth : Nat → Nat) (p : Nat) : Prop := ∀ A, shp (G.n p) (G.a p) (G.rm p) (some A) → (∀ X, (G.fx p A).1 = some X → G.n (fst p) ≤ X.n ∧ G.a (fst p) ≤ X.a) ∧ (G.kd p = 5 ∨ G.kd p = 6 → ∀ X, (G.fx p A).2.1 = some X → G.n (oth p) ≤ X.n ∧ G.a (oth p) ≤ X.a)
theorem dm_le {n a n' a' to : Nat} {r : Nat → Nat} {s : Option ab} (sh : shp n' a' r s) (h1 : G.n to ≤ n ∧ G.a to ≤ a) (h2 : n ≤ n') (h3 : a ≤ a') : ∀ X, s = some X → G.n to ≤ X.n ∧ G.a to ≤ X.a := fun X e => by
  obtain ⟨-, q1, q2, -⟩ := sh X e
  omega
/-- where a row goes on: its next point, or what is behind it -/
theorem dm_to {f q e nx n a : Nat} {r : Nat → Nat} (w : WB G f q e n a r) (hn : G.n nx ≤ n ∧ G.a nx ≤ a) : G.n (if q < e then q else nx) ≤ n ∧ G.a (if q < e then q else nx) ≤ a := by
  split
  · next c =>
    obtain ⟨w1, w2⟩ := WB_1 w c
    omega
  · exact hn
theorem WB_dm : ∀ f p e n a r nx, WB G f p e n a r → SUC G fst oth f p e nx → (G.n nx ≤ n ∧ G.a nx ≤ a) → ∀ q, p ≤ q → q < e → DM1 G fst oth q := by
  intro f
  induction f with
  | zero =>
    intro p e n a r nx w _ _ q q1 q2
    have : p = e := w
    omega
  | succ f ih =>
    intro p e n a r nx w u hn q q1 q2
    rcases w with w | ⟨hpe, e1, e2, e3, hE1, hE2, w⟩
    · omega
    obtain ⟨u1, u2⟩ := u hpe
    have sh' : q = p → ∀ A, shp (G.n q) (G.a q) (G.rm q) (some A) → shp n a r (some A) := fun eq A sh B e => by
      subst eq
      obtain ⟨T', a1, a2, a3⟩ := sh B e
      exact ⟨T', a1.trans e1, a2.trans e2, fun x hx => (a3 x (by omega)).trans (e3 x hx).symm⟩
    by_cases k4 : G.kd p = 4
    · rw [if_pos k4] at w u1
      obtain ⟨n', w1, w2, w3, w4⟩ := w
      have hto := dm_to w4 hn
      by_cases cE : G.E p ≤ q
      · exact ih _ _ _ _ _ _ w4 u2 hn q cE q2
      · by_cases cq : q = p
        · intro A sh
          have f1 := w2 A (sh' cq A sh)
          subst cq
          refine ⟨?_, fun z => by omega⟩
          rw [u1.1]
          exact dm_le f1 (dm_to w3 (by omega)) (Nat.le_refl _) (Nat.le_refl _)
        · exact ih _ _ _ _ _ _ w3 u1.2 (by omega) q (by omega) (by omega)
    · rw [if_neg k4] at w u1
      by_cases k5 : G.kd p = 5
      · rw [if_pos k5] at w u1
        obtain ⟨w0, w1, w2, w3, w4, w5⟩ := w
        have hto := dm_to w5 hn
        by_cases cE : G.E p ≤ q
        · exact ih _ _ _ _ _ _ w5 u2 hn q cE q2
        · by_cases cq : q = p
          · intro A sh
            obtain ⟨f1, f2⟩ := w2 A (sh' cq A sh)
            subst cq
            refine ⟨?_, fun _ => ?_⟩
            · rw [u1.1]
              exact dm_le f1 (dm_to w3 hto) (Nat.le_refl _) (Nat.le_refl _)
            · rw [u1.2.1]
              exact dm_le f2 (dm_to w4 hto) (Nat.le_refl _) (Nat.le_refl _)
          · by_cases cM : q < G.M p
            · exact ih _ _ _ _ _ _ w3 u1.2.2.1 hto q (by omega) cM
            · exact ih _ _ _ _ _ _ w4 u1.2.2.2 hto q (by omega) (by omega)
      · rw [if_neg k5] at w u1
        by_cases k6 : G.kd p = 6
        · rw [if_pos k6] at w u1
          obtain ⟨w2, w3, w5⟩ := w
          have hto := dm_to w5 hn
          by_cases cE : G.E p ≤ q
          · exact ih _ _ _ _ _ _ w5 u2 hn q cE q2
          · by_cases cq : q = p
            · intro A sh
              obtain ⟨f1, f2⟩ := w2 A (sh' cq A sh)
              subst cq
              refine ⟨?_, fun _ => ?_⟩
              · rw [u1.1]
                exact dm_le f1 (dm_to w3 (by omega)) (Nat.le_refl _) (Nat.le_refl _)
              · rw [u1.2.1]
                exact dm_le f2 hto (Nat.le_refl _) (Nat.le_refl _)
            · exact ih _ _ _ _ _ _ w3 u1.2.2 (by omega) q (by omega) (by omega)
        · rw [if_neg k6] at w u1
          obtain ⟨hE, n', a', r', w1, w2, w3, w4, w5⟩ := w
          by_cases cE : G.E p ≤ q
          · exact ih _ _ _ _ _ _ w5 u2 (by omega) q cE q2
          · have cq : q = p := by omega
            intro A sh
            have f1 := w4 A (sh' cq A sh)
            subst cq
            refine ⟨?_, fun z => by omega⟩
            rw [u1]
            exact dm_le f1 (dm_to w5 (by omega)) (Nat.le_refl _) (Nat.le_refl _)
theorem DMS_of {J : pin} {D : fd} {f cnt : Nat} {t : tr} (hG : G.fx = fxJ J) (L : LW G J D f t 0 (cnt - 1) (E00 D)) (U : SUC G fst oth f 0 (cnt - 1) (cnt - 1)) (gz : G.n (cnt - 1) = 0 ∧ G.a (cnt - 1) = 0) : DMS G fst oth cnt := fun p A hp sh => WB_dm f 0 (cnt - 1) _ _ _ (cnt - 1) (LW_WB hG f t 0 (cnt - 1) _ L) U (by omega) p (Nat.zero_le _) (by omega) A sh
end DMs
