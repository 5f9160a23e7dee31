set_option maxRecDepth 100000
/-! the grammar's bounds: CONDs, statements, functions -/
section GEs
variable {K : Nat → Int32} {P : Nat → Nat} {V : Nat → Int} {m N : Nat}
theorem pgC_0 {f d i : Nat} : pgC K P V N (f + 1) 0 d i = if 60 < d then (i, none) else bnd (pgC K P V N f 1 d i) fun t j => if K j = 133 then bnd (pgC K P V N f 3 d j) fun r k => (k, some (tNd (tE 24 (tR t) 0) (tA t r))) else (j, some t) := rfl
theorem pgC_1 {f d i : Nat} : pgC K P V N (f + 1) 1 d i = bnd (pgC K P V N f 2 d i) fun t j => if K j = 132 then bnd (pgC K P V N f 4 d j) fun r k => (k, some (tNd (tE 25 (tR t) 0) (tA t r))) else (j, some t) := rfl
theorem pgC_3 {f d i : Nat} : pgC K P V N (f + 1) 3 d i = if K i = 133 then bnd (pgC K P V N f 1 d (i + 1)) fun t j => bnd (pgC K P V N f 3 d j) fun r k => (k, some (tA t r)) else (i, some (.leaf ())) := rfl
theorem pgC_4 {f d i : Nat} : pgC K P V N (f + 1) 4 d i = if K i = 132 then bnd (pgC K P V N f 2 d (i + 1)) fun t j => bnd (pgC K P V N f 4 d j) fun r k => (k, some (tA t r)) else (i, some (.leaf ())) := rfl
theorem pgC_2 {f d i : Nat} : pgC K P V N (f + 1) 2 d i = if K i = 33 then (if 60 < d + 1 then (i + 1, none) else bnd (pgC K P V N f 2 (d + 1) (i + 1)) fun t j => (j, some (tNd (tE 26 (P i) 0) t)))
    else if K i = 91 then bnd (pgC K P V N f 0 (d + 1) (i + 1)) fun t j => tak K 93 j (j + 1, some t)
    else bnd (pgX K P V N 0 (d + 1) i) fun t j => if relK (K j) = 0 then (j, none) else bnd (pgX K P V N 0 (d + 1) (j + 1)) fun u k => (k, some (tNd (tE (relK (K j)) (tR t) 0) (tA t u))) := rfl
theorem tA_1 {n : Nat} {cs r : tr} : 1 ≤ ts (tA (tNd n cs) r) := by rw [ts_A]; omega
theorem relK_k {k : Int32} (h : ¬ relK k = 0) : k ≠ 0 ∧ k ≠ 1 := ⟨fun z => h (by rw [z]; rfl), fun z => h (by rw [z]; rfl)⟩
theorem relK_b (k : Int32) : relK k ≤ 32 := by
  unfold relK
  repeat' split
  all_goals omega
theorem pgX_n (hm : tkM K m) {f s d i k : Nat} {t : tr} (hs : s < 3) (hi : i < m) (e : pgX K P V f s d i = (k, some t)) : ∃ n cs, t = tNd n cs := by
  have g := pgX_b (P := P) (V := V) hm f s d i (by omega) hi
  rw [e, if_pos hs] at g
  exact ((g.2.2 t rfl).1 rfl).2
theorem pgC_b (hm : tkM K m) : ∀ f s d i, s < 5 → i < m → gdr i m (if s < 3 then 0 else 2) (pgC K P V N f s d i) ∧ (3 ≤ s → ∀ k t, pgC K P V N f s d i = (k, some t) → ts t ≤ 2 * (k - i) - 1 ∧ (K i = (if s = 3 then 133 else 132) → i < k)) := by
  intro f
  induction f with
  | zero => exact fun s d i _ hi => ⟨gd_no (Nat.le_refl _) hi, fun _ k t e => by cases e⟩
  | succ f ih =>
    intro s d i hs hi
    have hs' : s = 0 ∨ s = 1 ∨ s = 2 ∨ s = 3 ∨ s = 4 := by omega
    rcases hs' with e | e | e | e | e <;> subst e
    · refine ⟨?_, fun z => absurd z (by decide)⟩
      rw [pgC_0]
      show gdr i m 0 _
      by_cases c : 60 < d
      · rw [if_pos c]; exact gd_no (Nat.le_refl _) hi
      · rw [if_neg c]
        refine gd_bnd (Nat.le_refl _) (ih 1 d i (by omega) hi).1 (fun t j _ a1 a2 a3 a4 _ => ?_)
        obtain ⟨a5, n, cs, a6⟩ := a3 rfl
        subst a6
        rw [ts_N] at a4
        by_cases c2 : K j = 133
        · rw [if_pos c2]
          refine gd_bnd (i' := j) (by omega) (ih 3 d j (by omega) a2).1 (fun r k e b1 b2 b3 b4 b5 => ?_)
          obtain ⟨b6, b7⟩ := (ih 3 d j (by omega) a2).2 (by decide) k r e
          have b8 := b7 c2
          exact gd_0 (by omega) b2 (by rw [ts_A]; omega)
        · rw [if_neg c2]
          exact gd_0 (by omega) a2 (by omega)
    · refine ⟨?_, fun z => absurd z (by decide)⟩
      rw [pgC_1]
      show gdr i m 0 _
      refine gd_bnd (Nat.le_refl _) (ih 2 d i (by omega) hi).1 (fun t j _ a1 a2 a3 a4 _ => ?_)
      obtain ⟨a5, n, cs, a6⟩ := a3 rfl
      subst a6
      rw [ts_N] at a4
      by_cases c2 : K j = 132
      · rw [if_pos c2]
        refine gd_bnd (i' := j) (by omega) (ih 4 d j (by omega) a2).1 (fun r k e b1 b2 b3 b4 b5 => ?_)
        obtain ⟨b6, b7⟩ := (ih 4 d j (by omega) a2).2 (by decide) k r e
        have b8 := b7 c2
        exact gd_0 (by omega) b2 (by rw [ts_A]; omega)
      · rw [if_neg c2]
        exact gd_0 (by omega) a2 (by omega)
    · refine ⟨?_, fun z => absurd z (by decide)⟩
      rw [pgC_2]
      show gdr i m 0 _
      by_cases c1 : K i = 33
      · rw [if_pos c1]
        have h1 := tkM_s hm hi c1 (by decide) (by decide)
        by_cases c4 : 60 < d + 1
        · rw [if_pos c4]; exact gd_no (by omega) h1
        · rw [if_neg c4]
          refine gd_bnd (i' := i + 1) (by omega) (ih 2 (d + 1) (i + 1) (by omega) h1).1 (fun t j _ a1 a2 a3 a4 _ => ?_)
          exact gd_0 (by omega) a2 (by omega)
      rw [if_neg c1]
      by_cases c2 : K i = 91
      · rw [if_pos c2]
        have h1 := tkM_s hm hi c2 (by decide) (by decide)
        refine gd_bnd (i' := i + 1) (by omega) (ih 0 (d + 1) (i + 1) (by omega) h1).1 (fun t j _ a1 a2 a3 a4 _ => ?_)
        obtain ⟨a5, n, cs, a6⟩ := a3 rfl
        subst a6
        rw [ts_N] at a4
        refine gd_tak (by omega) a2 (fun c6 => ?_)
        have h3 := tkM_s hm a2 c6 (by decide) (by decide)
        exact gd_0 (by omega) h3 (by omega)
      rw [if_neg c2]
      refine gd_bnd (Nat.le_refl _) (pgX_b hm N 0 (d + 1) i (by omega) hi) (fun t j _ a1 a2 a3 a4 _ => ?_)
      obtain ⟨a5, n, cs, a6⟩ := a3 rfl
      subst a6
      rw [ts_N] at a4
      by_cases c3 : relK (K j) = 0
      · rw [if_pos c3]; exact gd_no (by omega) a2
      · rw [if_neg c3]
        have h1 := tkM_s hm a2 rfl (relK_k c3).1 (relK_k c3).2
        refine gd_bnd (i' := j + 1) (by omega) (pgX_b hm N 0 (d + 1) (j + 1) (by omega) h1) (fun u k _ b1 b2 b3 b4 _ => ?_)
        exact gd_0 (by omega) b2 (by rw [ts_A]; omega)
    · rw [pgC_3]
      show gdr i m 2 _ ∧ _
      by_cases c : K i = 133
      · rw [if_pos c]
        have h1 := tkM_s hm hi c (by decide) (by decide)
        refine ⟨gd_bnd (i' := i + 1) (by omega) (ih 1 d (i + 1) (by omega) h1).1 (fun t j _ a1 a2 a3 a4 _ => gd_bnd (i' := j) (by omega) (ih 3 d j (by omega) a2).1 (fun r k e b1 b2 b3 b4 b5 => ?_)), fun _ k t e => ?_⟩
        · obtain ⟨a5, n, cs, a6⟩ := a3 rfl
          subst a6
          rw [ts_N] at a4
          exact gd_2 (by omega) b2 (by rw [ts_A]; omega)
        · obtain ⟨j1, t1, e1, e⟩ := bnd_s e
          obtain ⟨j2, t2, e2, e⟩ := bnd_s e
          have g1 := (ih 1 d (i + 1) (by omega) h1).1
          rw [e1] at g1
          obtain ⟨x1, x2, x3⟩ := g1
          obtain ⟨x4, x5, -⟩ := x3 t1 rfl
          obtain ⟨x6, n, cs, x7⟩ := x4 rfl
          have g2 := (ih 3 d j1 (by omega) x2).1
          rw [e2] at g2
          obtain ⟨y1, y2, y3⟩ := g2
          obtain ⟨-, y5, -⟩ := y3 t2 rfl
          subst x7
          rw [ts_N] at x5
          cases e
          rw [ts_A]
          have z1 : i + 1 ≤ j1 := x1
          have z2 : j1 ≤ k := y1
          have z3 : 1 + ts cs ≤ 2 * (j1 - (i + 1)) := x5
          have z4 : ts t2 ≤ 2 * (k - j1) := y5
          exact ⟨by omega, fun _ => by omega⟩
      · rw [if_neg c]
        exact ⟨gd_2 (Nat.le_refl _) hi (Nat.zero_le _), fun _ k t e => by cases e; exact ⟨Nat.zero_le _, fun z => absurd z c⟩⟩
    · rw [pgC_4]
      show gdr i m 2 _ ∧ _
      by_cases c : K i = 132
      · rw [if_pos c]
        have h1 := tkM_s hm hi c (by decide) (by decide)
        refine ⟨gd_bnd (i' := i + 1) (by omega) (ih 2 d (i + 1) (by omega) h1).1 (fun t j _ a1 a2 a3 a4 _ => gd_bnd (i' := j) (by omega) (ih 4 d j (by omega) a2).1 (fun r k e b1 b2 b3 b4 b5 => ?_)), fun _ k t e => ?_⟩
        · obtain ⟨a5, n, cs, a6⟩ := a3 rfl
          subst a6
          rw [ts_N] at a4
          exact gd_2 (by omega) b2 (by rw [ts_A]; omega)
        · obtain ⟨j1, t1, e1, e⟩ := bnd_s e
          obtain ⟨j2, t2, e2, e⟩ := bnd_s e
          have g1 := (ih 2 d (i + 1) (by omega) h1).1
          rw [e1] at g1
          obtain ⟨x1, x2, x3⟩ := g1
          obtain ⟨x4, x5, -⟩ := x3 t1 rfl
          obtain ⟨x6, n, cs, x7⟩ := x4 rfl
          have g2 := (ih 4 d j1 (by omega) x2).1
          rw [e2] at g2
          obtain ⟨y1, y2, y3⟩ := g2
          obtain ⟨-, y5, -⟩ := y3 t2 rfl
          subst x7
          rw [ts_N] at x5
          cases e
          rw [ts_A]
          have z1 : i + 1 ≤ j1 := x1
          have z2 : j1 ≤ k := y1
          have z3 : 1 + ts cs ≤ 2 * (j1 - (i + 1)) := x5
          have z4 : ts t2 ≤ 2 * (k - j1) := y5
          exact ⟨by omega, fun _ => by omega⟩
      · rw [if_neg c]
        exact ⟨gd_2 (Nat.le_refl _) hi (Nat.zero_le _), fun _ k t e => by cases e; exact ⟨Nat.zero_le _, fun z => absurd z c⟩⟩
theorem pgA_b (hm : tkM K m) : ∀ f d i, i < m → gdr i m 2 (pgA K P V N f d i) := by
  intro f
  induction f with
  | zero => exact fun d i hi => gd_no (Nat.le_refl _) hi
  | succ f ih =>
    intro d i hi
    show gdr i m 2 (if K i = 44 then bnd (pgX K P V N 0 d (i + 1)) fun t j => bnd (pgA K P V N f d j) fun r k => (k, some (tA t r)) else tak K 41 i (i + 1, some (.leaf ())))
    by_cases c : K i = 44
    · rw [if_pos c]
      have h1 := tkM_s hm hi c (by decide) (by decide)
      refine gd_bnd (i' := i + 1) (by omega) (pgX_b hm N 0 d (i + 1) (by omega) h1) (fun t j _ a1 a2 a3 a4 _ => ?_)
      obtain ⟨a5, n, cs, a6⟩ := a3 rfl
      subst a6
      rw [ts_N] at a4
      refine gd_bnd (i' := j) (by omega) (ih d j a2) (fun r k e b1 b2 b3 b4 b5 => ?_)
      exact gd_2 (by omega) b2 (by rw [ts_A]; omega)
    · rw [if_neg c]
      refine gd_tak (Nat.le_refl _) hi (fun c2 => ?_)
      have h1 := tkM_s hm hi c2 (by decide) (by decide)
      exact gd_2 (by omega) h1 (Nat.zero_le _)
theorem pgS_b (hm : tkM K m) {d i : Nat} (hi : i < m) : gdr i m 2 (pgS K P V N d i) := by
  unfold pgS
  by_cases c : K i = 41
  · rw [if_pos c]
    have h1 := tkM_s hm hi c (by decide) (by decide)
    exact gd_2 (by omega) h1 (Nat.zero_le _)
  · rw [if_neg c]
    refine gd_bnd (Nat.le_refl _) (pgX_b hm N 0 d i (by omega) hi) (fun t j _ a1 a2 a3 a4 _ => ?_)
    obtain ⟨a5, n, cs, a6⟩ := a3 rfl
    subst a6
    rw [ts_N] at a4
    refine gd_bnd (i' := j) (by omega) (pgA_b hm N d j a2) (fun r k e b1 b2 b3 b4 b5 => ?_)
    exact gd_2 (by omega) b2 (by rw [ts_A]; omega)
end GEs
