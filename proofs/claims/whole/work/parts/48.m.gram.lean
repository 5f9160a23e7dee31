set_option maxRecDepth 100000
/-! the grammar: what is read goes on, ends before the tokens' end, and has no more nodes than twice its tokens -/
def gdr (i m : Nat) (md : Nat) (r : pqr) : Prop := i ≤ r.1 ∧ r.1 < m ∧ ∀ t, r.2 = some t → (md = 0 → i < r.1 ∧ ∃ n cs, t = tNd n cs) ∧ ts t ≤ 2 * (r.1 - i) ∧ (md = 1 → ts t = 0 ∨ ts t + 1 ≤ 2 * (r.1 - i))
theorem gd_no {i j m md : Nat} (h1 : i ≤ j) (h2 : j < m) : gdr i m md (j, none) := ⟨h1, h2, fun _ z => by cases z⟩
theorem gd_0 {i j m n : Nat} {cs : tr} (h1 : i < j) (h2 : j < m) (h4 : 1 + ts cs ≤ 2 * (j - i)) : gdr i m 0 (j, some (tNd n cs)) := ⟨Nat.le_of_lt h1, h2, fun u z => by cases z; exact ⟨fun _ => ⟨h1, _, _, rfl⟩, h4, fun z => (by cases z)⟩⟩
theorem gd_1 {i j m : Nat} {t : tr} (h1 : i ≤ j) (h2 : j < m) (h4 : ts t = 0 ∨ ts t + 1 ≤ 2 * (j - i)) : gdr i m 1 (j, some t) := ⟨h1, h2, fun u z => by cases z; exact ⟨fun z => (by cases z), by show ts t ≤ 2 * (j - i); omega, fun _ => h4⟩⟩
theorem gd_2 {i j m : Nat} {t : tr} (h1 : i ≤ j) (h2 : j < m) (h4 : ts t ≤ 2 * (j - i)) : gdr i m 2 (j, some t) := ⟨h1, h2, fun u z => by cases z; exact ⟨fun z => (by cases z), h4, fun z => (by cases z)⟩⟩
theorem gd_bnd {i i' m md md' : Nat} {r : pqr} {g : tr → Nat → pqr} (hi : i ≤ i') (h1 : gdr i' m md' r) (h2 : ∀ t j, r = (j, some t) → i' ≤ j → j < m → (md' = 0 → i' < j ∧ ∃ n cs, t = tNd n cs) → ts t ≤ 2 * (j - i') → (md' = 1 → ts t = 0 ∨ ts t + 1 ≤ 2 * (j - i')) → gdr i m md (g t j)) : gdr i m md (bnd r g) := by
  obtain ⟨a, b, c⟩ := h1
  rcases r with ⟨j, _ | t⟩
  · exact gd_no (by have : i' ≤ j := a; omega) b
  · exact h2 t j rfl a b (c t rfl).1 (c t rfl).2.1 (c t rfl).2.2
theorem gd_tak {i j m md : Nat} {K : Nat → Int32} {k : Int32} {r : pqr} (h1 : i ≤ j) (h2 : j < m) (h3 : K j = k → gdr i m md r) : gdr i m md (tak K k j r) := by
  unfold tak
  by_cases c : K j = k
  · rw [if_pos c]; exact h3 c
  · rw [if_neg c]; exact gd_no h1 h2
theorem ts_L {n : Nat} : ts (tL n) = 1 := rfl
theorem ts_N {n : Nat} {cs : tr} : ts (tNd n cs) = 1 + ts cs := rfl
theorem ts_A {n : Nat} {cs r : tr} : ts (tA (tNd n cs) r) = 1 + ts cs + ts r := rfl
theorem ts_l : ts (.leaf ()) = 0 := rfl
theorem ts_b {n : Nat} {cs r : tr} : ts (.branch n cs r) = 1 + ts cs + ts r := rfl
def tkM (K : Nat → Int32) (m : Nat) : Prop := ∀ i, i < m → K i = 0 ∨ K i = 1 ∨ i + 1 < m
theorem tkM_s {K : Nat → Int32} {m i : Nat} {k : Int32} (hm : tkM K m) (hi : i < m) (e : K i = k) (h0 : k ≠ 0) (h1 : k ≠ 1) : i + 1 < m := by
  rcases hm i hi with z | z | z
  · exact absurd (e.symm.trans z) h0
  · exact absurd (e.symm.trans z) h1
  · exact z
section GDs
variable {K : Nat → Int32} {P : Nat → Nat} {V : Nat → Int} {m : Nat}
theorem pLim_b (hm : tkM K m) {i : Nat} (hi : i < m) : gdr i m 0 (pLim K P V i) := by
  unfold pLim
  by_cases c : K i = 45
  · rw [if_pos c]
    have h1 := tkM_s hm hi c (by decide) (by decide)
    refine gd_tak (by omega) h1 (fun c2 => ?_)
    have h2 := tkM_s hm h1 c2 (by decide) (by decide)
    exact gd_0 (by omega) (by omega) (by rw [ts_l]; omega)
  · rw [if_neg c]
    refine gd_tak (Nat.le_refl _) hi (fun c2 => ?_)
    have h2 := tkM_s hm hi c2 (by decide) (by decide)
    exact gd_0 (by omega) (by omega) (by rw [ts_l]; omega)
theorem pgX_0 {f d i : Nat} : pgX K P V (f + 1) 0 d i = if 60 < d then (i, none) else bnd (pgX K P V f 1 d i) fun t j => if K j = 43 ∨ K j = 45 then bnd (pgX K P V f 3 d j) fun r k => (k, some (tNd (tE 17 (tR t) 0) (tA t r))) else (j, some t) := rfl
theorem pgX_1 {f d i : Nat} : pgX K P V (f + 1) 1 d i = bnd (pgX K P V f 2 d i) fun t j => if K j = 42 ∨ K j = 47 ∨ K j = 37 then bnd (pgX K P V f 4 d j) fun r k => (k, some (tNd (tE 20 (tR t) 0) (tA t r))) else (j, some t) := rfl
theorem pgX_3 {f d i : Nat} : pgX K P V (f + 1) 3 d i = if K i = 43 ∨ K i = 45 then bnd (pgX K P V f 1 d (i + 1)) fun t j => bnd (pgX K P V f 3 d j) fun r k => (k, some (.branch (tE (if K i = 43 then 18 else 19) (P i) 0) t r)) else (i, some (.leaf ())) := rfl
theorem pgX_4 {f d i : Nat} : pgX K P V (f + 1) 4 d i = if K i = 42 ∨ K i = 47 ∨ K i = 37 then bnd (pgX K P V f 2 d (i + 1)) fun t j => bnd (pgX K P V f 4 d j) fun r k => (k, some (.branch (tE (if K i = 42 then 21 else if K i = 47 then 22 else 23) (P i) 0) t r)) else (i, some (.leaf ())) := rfl
theorem pgX_2 {f d i : Nat} : pgX K P V (f + 1) 2 d i = if K i = 3 then (i + 1, some (tL (tE 12 (P i) (V i))))
    else if K i = 2 then (if K (i + 1) = 91 then bnd (pgX K P V f 0 (d + 1) (i + 2)) fun t j => tak K 93 j (j + 1, some (tNd (tE 14 (P i) 0) (.branch (tE 13 (P i) i) (.leaf ()) t))) else (i + 1, some (tL (tE 13 (P i) i))))
    else if K i = 45 then (if 60 < d + 1 then (i + 1, none) else bnd (pgX K P V f 2 (d + 1) (i + 1)) fun t j => (j, some (tNd (tE 15 (P i) 0) t)))
    else if K i = 11 then (if K (i + 1) = 40 then bnd (pLim K P V (i + 2)) fun a j => tak K 44 j (bnd (pLim K P V (j + 1)) fun b k => tak K 41 k (k + 1, some (tNd (tE 16 (P i) 0) (tA a b)))) else (i + 1, some (tL (tE 16 (P i) 0))))
    else if K i = 40 then bnd (pgX K P V f 0 (d + 1) (i + 1)) fun t j => tak K 41 j (j + 1, some t)
    else (i, none) := rfl
theorem bnd_s {r : pqr} {g : tr → Nat → pqr} {k : Nat} {u : tr} (e : bnd r g = (k, some u)) : ∃ j t, r = (j, some t) ∧ g t j = (k, some u) := by
  rcases r with ⟨j, _ | t⟩
  · cases e
  · exact ⟨j, t, rfl, e⟩
theorem pgX_3o {f d j k : Nat} {r : tr} (c : K j = 43 ∨ K j = 45) (e : pgX K P V f 3 d j = (k, some r)) : 1 ≤ ts r := by
  cases f with
  | zero => cases e
  | succ f =>
    rw [pgX_3, if_pos c] at e
    obtain ⟨j1, t1, -, e⟩ := bnd_s e
    obtain ⟨j2, t2, -, e⟩ := bnd_s e
    cases e
    rw [ts_b]; omega
theorem pgX_4o {f d j k : Nat} {r : tr} (c : K j = 42 ∨ K j = 47 ∨ K j = 37) (e : pgX K P V f 4 d j = (k, some r)) : 1 ≤ ts r := by
  cases f with
  | zero => cases e
  | succ f =>
    rw [pgX_4, if_pos c] at e
    obtain ⟨j1, t1, -, e⟩ := bnd_s e
    obtain ⟨j2, t2, -, e⟩ := bnd_s e
    cases e
    rw [ts_b]; omega
/-- SUMs, TERMs, FACTORs -/
theorem pgX_b (hm : tkM K m) : ∀ f s d i, s < 5 → i < m → gdr i m (if s < 3 then 0 else 1) (pgX K P V f s d i) := by
  intro f
  induction f with
  | zero => exact fun s d i _ hi => gd_no (Nat.le_refl _) hi
  | succ f ih =>
    intro s d i hs hi
    have hs' : s = 0 ∨ s = 1 ∨ s = 2 ∨ s = 3 ∨ s = 4 := by omega
    rcases hs' with e | e | e | e | e <;> subst e
    · rw [pgX_0]
      show gdr i m 0 _
      by_cases c : 60 < d
      · rw [if_pos c]; exact gd_no (Nat.le_refl _) hi
      · rw [if_neg c]
        refine gd_bnd (Nat.le_refl _) (ih 1 d i (by omega) hi) (fun t j _ a1 a2 a3 a4 _ => ?_)
        obtain ⟨a5, n, cs, a6⟩ := a3 rfl
        subst a6
        rw [ts_N] at a4
        by_cases c2 : K j = 43 ∨ K j = 45
        · rw [if_pos c2]
          refine gd_bnd (i' := j) (by omega) (ih 3 d j (by omega) a2) (fun r k e b1 b2 b3 b4 b5 => ?_)
          have b6 := pgX_3o c2 e
          have b7 := b5 rfl
          exact gd_0 (by omega) b2 (by rw [ts_A]; omega)
        · rw [if_neg c2]
          exact gd_0 (by omega) a2 (by omega)
    · rw [pgX_1]
      show gdr i m 0 _
      refine gd_bnd (Nat.le_refl _) (ih 2 d i (by omega) hi) (fun t j _ a1 a2 a3 a4 _ => ?_)
      obtain ⟨a5, n, cs, a6⟩ := a3 rfl
      subst a6
      rw [ts_N] at a4
      by_cases c2 : K j = 42 ∨ K j = 47 ∨ K j = 37
      · rw [if_pos c2]
        refine gd_bnd (i' := j) (by omega) (ih 4 d j (by omega) a2) (fun r k e b1 b2 b3 b4 b5 => ?_)
        have b6 := pgX_4o c2 e
        have b7 := b5 rfl
        exact gd_0 (by omega) b2 (by rw [ts_A]; omega)
      · rw [if_neg c2]
        exact gd_0 (by omega) a2 (by omega)
    · rw [pgX_2]
      show gdr i m 0 _
      by_cases c1 : K i = 3
      · rw [if_pos c1]
        have h1 := tkM_s hm hi c1 (by decide) (by decide)
        exact gd_0 (by omega) h1 (by rw [ts_l]; omega)
      rw [if_neg c1]
      by_cases c2 : K i = 2
      · rw [if_pos c2]
        have h1 := tkM_s hm hi c2 (by decide) (by decide)
        by_cases c3 : K (i + 1) = 91
        · rw [if_pos c3]
          have h2 := tkM_s hm h1 c3 (by decide) (by decide)
          refine gd_bnd (i' := i + 2) (by omega) (ih 0 (d + 1) (i + 2) (by omega) h2) (fun t j _ a1 a2 a3 a4 _ => ?_)
          refine gd_tak (by omega) a2 (fun c4 => ?_)
          have h3 := tkM_s hm a2 c4 (by decide) (by decide)
          exact gd_0 (by omega) h3 (by rw [ts_b, ts_l]; omega)
        · rw [if_neg c3]
          exact gd_0 (by omega) h1 (by rw [ts_l]; omega)
      rw [if_neg c2]
      by_cases c3 : K i = 45
      · rw [if_pos c3]
        have h1 := tkM_s hm hi c3 (by decide) (by decide)
        by_cases c4 : 60 < d + 1
        · rw [if_pos c4]; exact gd_no (by omega) h1
        · rw [if_neg c4]
          refine gd_bnd (i' := i + 1) (by omega) (ih 2 (d + 1) (i + 1) (by omega) h1) (fun t j _ a1 a2 a3 a4 _ => ?_)
          exact gd_0 (by omega) a2 (by omega)
      rw [if_neg c3]
      by_cases c4 : K i = 11
      · rw [if_pos c4]
        have h1 := tkM_s hm hi c4 (by decide) (by decide)
        by_cases c5 : K (i + 1) = 40
        · rw [if_pos c5]
          have h2 := tkM_s hm h1 c5 (by decide) (by decide)
          refine gd_bnd (i' := i + 2) (by omega) (pLim_b hm h2) (fun t j _ a1 a2 a3 a4 _ => ?_)
          obtain ⟨a5, n, cs, a6⟩ := a3 rfl
          subst a6
          rw [ts_N] at a4
          refine gd_tak (by omega) a2 (fun c6 => ?_)
          have h3 := tkM_s hm a2 c6 (by decide) (by decide)
          refine gd_bnd (i' := j + 1) (by omega) (pLim_b hm h3) (fun u k _ b1 b2 b3 b4 _ => ?_)
          refine gd_tak (by omega) b2 (fun c7 => ?_)
          have h4 := tkM_s hm b2 c7 (by decide) (by decide)
          exact gd_0 (by omega) h4 (by rw [ts_A]; omega)
        · rw [if_neg c5]
          exact gd_0 (by omega) h1 (by rw [ts_l]; omega)
      rw [if_neg c4]
      by_cases c5 : K i = 40
      · rw [if_pos c5]
        have h1 := tkM_s hm hi c5 (by decide) (by decide)
        refine gd_bnd (i' := i + 1) (by omega) (ih 0 (d + 1) (i + 1) (by omega) h1) (fun t j _ a1 a2 a3 a4 _ => ?_)
        obtain ⟨a5, n, cs, a6⟩ := a3 rfl
        subst a6
        rw [ts_N] at a4
        refine gd_tak (by omega) a2 (fun c6 => ?_)
        have h3 := tkM_s hm a2 c6 (by decide) (by decide)
        exact gd_0 (by omega) h3 (by omega)
      rw [if_neg c5]
      exact gd_no (Nat.le_refl _) hi
    · rw [pgX_3]
      show gdr i m 1 _
      by_cases c : K i = 43 ∨ K i = 45
      · rw [if_pos c]
        have h1 : i + 1 < m := by
          rcases c with c | c
          · exact tkM_s hm hi c (by decide) (by decide)
          · exact tkM_s hm hi c (by decide) (by decide)
        refine gd_bnd (i' := i + 1) (by omega) (ih 1 d (i + 1) (by omega) h1) (fun t j _ a1 a2 a3 a4 _ => ?_)
        refine gd_bnd (i' := j) (by omega) (ih 3 d j (by omega) a2) (fun r k e b1 b2 b3 b4 b5 => ?_)
        exact gd_1 (by omega) b2 (Or.inr (by rw [ts_b]; omega))
      · rw [if_neg c]
        exact gd_1 (Nat.le_refl _) hi (Or.inl rfl)
    · rw [pgX_4]
      show gdr i m 1 _
      by_cases c : K i = 42 ∨ K i = 47 ∨ K i = 37
      · rw [if_pos c]
        have h1 : i + 1 < m := by
          rcases c with c | c | c
          · exact tkM_s hm hi c (by decide) (by decide)
          · exact tkM_s hm hi c (by decide) (by decide)
          · exact tkM_s hm hi c (by decide) (by decide)
        refine gd_bnd (i' := i + 1) (by omega) (ih 2 d (i + 1) (by omega) h1) (fun t j _ a1 a2 a3 a4 _ => ?_)
        refine gd_bnd (i' := j) (by omega) (ih 4 d j (by omega) a2) (fun r k e b1 b2 b3 b4 b5 => ?_)
        exact gd_1 (by omega) b2 (Or.inr (by rw [ts_b]; omega))
      · rw [if_neg c]
        exact gd_1 (Nat.le_refl _) hi (Or.inl rfl)
end GDs
