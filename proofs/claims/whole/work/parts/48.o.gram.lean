set_option maxRecDepth 100000
/-! the grammar's bounds: statements, functions -/
section GFs
variable {K : Nat → Int32} {P : Nat → Nat} {V : Nat → Int} {m N : Nat}
theorem pgB_0 {f d i : Nat} : pgB K P V N (f + 1) 0 d i = if K i = 125 then (i, some (.leaf ())) else bnd (pgB K P V N f 1 d i) fun t j => bnd (pgB K P V N f 0 d j) fun r k => (k, some (tA t r)) := rfl
theorem pgB_2 {f d i : Nat} : pgB K P V N (f + 1) 2 d i = if 60 < d then (i, none) else tak K 123 i (bnd (pgB K P V N f 0 d (i + 1)) fun r j => (j + 1, some (tNd (tE 2 (P i) 0) r))) := rfl
theorem pgB_1 {f d i : Nat} : pgB K P V N (f + 1) 1 d i = 
    if K i = 5 then tak K 2 (i + 1) (
      if K (i + 2) = 91 then tak K 3 (i + 3) (tak K 93 (i + 4) (tak K 59 (i + 5) (i + 6, some (tNd (tE 4 (P i) 0) (.branch (tE 13 (P (i + 1)) (i + 1)) (.leaf ()) (tL (tE 12 (P (i + 3)) (V (i + 3)))))))))
      else if K (i + 2) = 61 then bnd (pgX K P V N 0 (d + 1) (i + 3)) fun t j => tak K 59 j (j + 1, some (tNd (tE 3 (P i) 0) (.branch (tE 13 (P (i + 1)) (i + 1)) (.leaf ()) t)))
      else tak K 59 (i + 2) (i + 3, some (tNd (tE 3 (P i) 0) (tL (tE 13 (P (i + 1)) (i + 1))))))
    else if K i = 2 then (
      if K (i + 1) = 40 then bnd (pgS K P V N (d + 1) (i + 2)) fun r j => tak K 59 j (j + 1, some (tNd (tE 7 (P i) 0) (.branch (tE 33 (P i) 0) (.leaf ()) (.branch (tE 13 (P i) i) (.leaf ()) r))))
      else if K (i + 1) = 91 then bnd (pgX K P V N 0 (d + 1) (i + 2)) fun t j => tak K 93 j (tak K 61 (j + 1) (bnd (pgX K P V N 0 (d + 1) (j + 2)) fun u k => tak K 59 k (k + 1, some (tNd (tE 6 (P i) 0) (.branch (tE 13 (P i) i) (.leaf ()) (tA t u))))))
      else tak K 61 (i + 1) (
        if K (i + 2) = 2 ∧ K (i + 3) = 40 then bnd (pgS K P V N (d + 1) (i + 4)) fun r j => tak K 59 j (j + 1, some (tNd (tE 7 (P i) 0) (.branch (tE 13 (P i) i) (.leaf ()) (.branch (tE 13 (P (i + 2)) (i + 2)) (.leaf ()) r))))
        else bnd (pgX K P V N 0 (d + 1) (i + 2)) fun t j => tak K 59 j (j + 1, some (tNd (tE 5 (P i) 0) (.branch (tE 13 (P i) i) (.leaf ()) t)))))
    else if K i = 6 then tak K 40 (i + 1) (bnd (pgC K P V N N 0 (d + 1) (i + 2)) fun c j => tak K 41 j (bnd (pgB K P V N f 2 (d + 1) (j + 1)) fun b k => if K k = 7 then bnd (pgB K P V N f 2 (d + 1) (k + 1)) fun e l => (l, some (tNd (tE 8 (P i) 0) (tA c (tA b e)))) else (k, some (tNd (tE 8 (P i) 0) (tA c b)))))
    else if K i = 8 then tak K 40 (i + 1) (bnd (pgC K P V N N 0 (d + 1) (i + 2)) fun c j => tak K 41 j (bnd (pgB K P V N f 2 (d + 1) (j + 1)) fun b k => (k, some (tNd (tE 9 (P i) 0) (tA c b)))))
    else if K i = 9 then tak K 40 (i + 1) (bnd (pgC K P V N N 0 (d + 1) (i + 2)) fun c j => tak K 41 j (tak K 59 (j + 1) (j + 2, some (tNd (tE 10 (P i) 0) c))))
    else if K i = 10 then bnd (pgX K P V N 0 (d + 1) (i + 1)) fun t j => tak K 59 j (j + 1, some (tNd (tE 11 (P i) 0) t))
    else (i, none) := rfl
theorem pgB_b (hm : tkM K m) : ∀ f s d i, s < 3 → i < m → gdr i m (if s = 0 then 2 else 0) (pgB K P V N f s d i) ∧ (s = 0 → ∀ k t, pgB K P V N f s d i = (k, some t) → K k = 125) := by
  intro f
  induction f with
  | zero => exact fun s d i _ hi => ⟨gd_no (Nat.le_refl _) hi, fun _ k t e => by cases e⟩
  | succ f ih =>
    intro s d i hs hi
    have hs' : s = 0 ∨ s = 1 ∨ s = 2 := by omega
    rcases hs' with e | e | e <;> subst e
    · rw [pgB_0]
      show gdr i m 2 _ ∧ _
      by_cases c : K i = 125
      · rw [if_pos c]
        exact ⟨gd_2 (Nat.le_refl _) hi (Nat.zero_le _), fun _ k t e => by cases e; exact c⟩
      · rw [if_neg c]
        refine ⟨gd_bnd (Nat.le_refl _) (ih 1 d i (by omega) hi).1 (fun t j _ a1 a2 a3 a4 _ => gd_bnd (i' := j) (by omega) (ih 0 d j (by omega) a2).1 (fun r k e b1 b2 b3 b4 b5 => ?_)), fun _ k t e => ?_⟩
        · obtain ⟨a5, n, cs, a6⟩ := a3 rfl
          subst a6
          rw [ts_N] at a4
          exact gd_2 (by omega) b2 (by rw [ts_A]; omega)
        · obtain ⟨j1, t1, e1, e⟩ := bnd_s e
          obtain ⟨j2, t2, e2, e⟩ := bnd_s e
          have g1 := (ih 1 d i (by omega) hi).1
          rw [e1] at g1
          have z := (ih 0 d j1 (by omega) g1.2.1).2 rfl j2 t2 e2
          cases e
          exact z
    · refine ⟨?_, fun z => absurd z (by decide)⟩
      rw [pgB_1]
      show gdr i m 0 _
      by_cases c1 : K i = 5
      · rw [if_pos c1]
        have h1 := tkM_s hm hi c1 (by decide) (by decide)
        refine gd_tak (by omega) h1 (fun c2 => ?_)
        have h2 := tkM_s hm h1 c2 (by decide) (by decide)
        by_cases c3 : K (i + 2) = 91
        · rw [if_pos c3]
          have h3 := tkM_s hm h2 c3 (by decide) (by decide)
          refine gd_tak (by omega) h3 (fun c4 => ?_)
          have h4 := tkM_s hm h3 c4 (by decide) (by decide)
          refine gd_tak (by omega) h4 (fun c5 => ?_)
          have h5 := tkM_s hm h4 c5 (by decide) (by decide)
          refine gd_tak (by omega) h5 (fun c6 => ?_)
          have h6 := tkM_s hm h5 c6 (by decide) (by decide)
          exact gd_0 (by omega) h6 (by rw [ts_b, ts_l, ts_L]; omega)
        rw [if_neg c3]
        by_cases c4 : K (i + 2) = 61
        · rw [if_pos c4]
          have h3 := tkM_s hm h2 c4 (by decide) (by decide)
          refine gd_bnd (i' := i + 3) (by omega) (pgX_b hm N 0 (d + 1) (i + 3) (by omega) h3) (fun t j _ a1 a2 a3 a4 _ => ?_)
          refine gd_tak (by omega) a2 (fun c5 => ?_)
          have h4 := tkM_s hm a2 c5 (by decide) (by decide)
          exact gd_0 (by omega) h4 (by rw [ts_b, ts_l]; omega)
        rw [if_neg c4]
        refine gd_tak (by omega) h2 (fun c5 => ?_)
        have h4 := tkM_s hm h2 c5 (by decide) (by decide)
        exact gd_0 (by omega) h4 (by rw [ts_L]; omega)
      rw [if_neg c1]
      by_cases c2 : K i = 2
      · rw [if_pos c2]
        have h1 := tkM_s hm hi c2 (by decide) (by decide)
        by_cases c3 : K (i + 1) = 40
        · rw [if_pos c3]
          have h2 := tkM_s hm h1 c3 (by decide) (by decide)
          refine gd_bnd (i' := i + 2) (by omega) (pgS_b hm h2) (fun t j _ a1 a2 a3 a4 _ => ?_)
          refine gd_tak (by omega) a2 (fun c5 => ?_)
          have h4 := tkM_s hm a2 c5 (by decide) (by decide)
          exact gd_0 (by omega) h4 (by rw [ts_b, ts_b, ts_l]; omega)
        rw [if_neg c3]
        by_cases c4 : K (i + 1) = 91
        · rw [if_pos c4]
          have h2 := tkM_s hm h1 c4 (by decide) (by decide)
          refine gd_bnd (i' := i + 2) (by omega) (pgX_b hm N 0 (d + 1) (i + 2) (by omega) h2) (fun t j _ a1 a2 a3 a4 _ => ?_)
          obtain ⟨a5, n, cs, a6⟩ := a3 rfl
          subst a6
          rw [ts_N] at a4
          refine gd_tak (by omega) a2 (fun c5 => ?_)
          have h3 := tkM_s hm a2 c5 (by decide) (by decide)
          refine gd_tak (by omega) h3 (fun c6 => ?_)
          have h4 := tkM_s hm h3 c6 (by decide) (by decide)
          refine gd_bnd (i' := j + 2) (by omega) (pgX_b hm N 0 (d + 1) (j + 2) (by omega) h4) (fun u k _ b1 b2 b3 b4 _ => ?_)
          refine gd_tak (by omega) b2 (fun c7 => ?_)
          have h5 := tkM_s hm b2 c7 (by decide) (by decide)
          exact gd_0 (by omega) h5 (by rw [ts_b, ts_l, ts_A]; omega)
        rw [if_neg c4]
        refine gd_tak (by omega) h1 (fun c5 => ?_)
        have h2 := tkM_s hm h1 c5 (by decide) (by decide)
        by_cases c6 : K (i + 2) = 2 ∧ K (i + 3) = 40
        · rw [if_pos c6]
          have h3 := tkM_s hm h2 c6.1 (by decide) (by decide)
          have h4 := tkM_s hm h3 c6.2 (by decide) (by decide)
          refine gd_bnd (i' := i + 4) (by omega) (pgS_b hm h4) (fun t j _ a1 a2 a3 a4 _ => ?_)
          refine gd_tak (by omega) a2 (fun c5 => ?_)
          have h4 := tkM_s hm a2 c5 (by decide) (by decide)
          exact gd_0 (by omega) h4 (by rw [ts_b, ts_b, ts_l]; omega)
        rw [if_neg c6]
        refine gd_bnd (i' := i + 2) (by omega) (pgX_b hm N 0 (d + 1) (i + 2) (by omega) h2) (fun t j _ a1 a2 a3 a4 _ => ?_)
        refine gd_tak (by omega) a2 (fun c5 => ?_)
        have h4 := tkM_s hm a2 c5 (by decide) (by decide)
        exact gd_0 (by omega) h4 (by rw [ts_b, ts_l]; omega)
      rw [if_neg c2]
      by_cases c3 : K i = 6
      · rw [if_pos c3]
        have h1 := tkM_s hm hi c3 (by decide) (by decide)
        refine gd_tak (by omega) h1 (fun c5 => ?_)
        have h2 := tkM_s hm h1 c5 (by decide) (by decide)
        refine gd_bnd (i' := i + 2) (by omega) (pgC_b hm N 0 (d + 1) (i + 2) (by omega) h2).1 (fun t j _ a1 a2 a3 a4 _ => ?_)
        obtain ⟨a5, n, cs, a6⟩ := a3 rfl
        subst a6
        rw [ts_N] at a4
        refine gd_tak (by omega) a2 (fun c6 => ?_)
        have h3 := tkM_s hm a2 c6 (by decide) (by decide)
        refine gd_bnd (i' := j + 1) (by omega) (ih 2 (d + 1) (j + 1) (by omega) h3).1 (fun u k _ b1 b2 b3 b4 _ => ?_)
        obtain ⟨b5, n', cs', b6⟩ := b3 rfl
        subst b6
        rw [ts_N] at b4
        by_cases c7 : K k = 7
        · rw [if_pos c7]
          have h4 := tkM_s hm b2 c7 (by decide) (by decide)
          refine gd_bnd (i' := k + 1) (by omega) (ih 2 (d + 1) (k + 1) (by omega) h4).1 (fun w l _ e1 e2 e3 e4 _ => ?_)
          exact gd_0 (by omega) e2 (by rw [ts_A, ts_A]; omega)
        · rw [if_neg c7]
          exact gd_0 (by omega) b2 (by rw [ts_A, ts_N]; omega)
      rw [if_neg c3]
      by_cases c4 : K i = 8
      · rw [if_pos c4]
        have h1 := tkM_s hm hi c4 (by decide) (by decide)
        refine gd_tak (by omega) h1 (fun c5 => ?_)
        have h2 := tkM_s hm h1 c5 (by decide) (by decide)
        refine gd_bnd (i' := i + 2) (by omega) (pgC_b hm N 0 (d + 1) (i + 2) (by omega) h2).1 (fun t j _ a1 a2 a3 a4 _ => ?_)
        obtain ⟨a5, n, cs, a6⟩ := a3 rfl
        subst a6
        rw [ts_N] at a4
        refine gd_tak (by omega) a2 (fun c6 => ?_)
        have h3 := tkM_s hm a2 c6 (by decide) (by decide)
        refine gd_bnd (i' := j + 1) (by omega) (ih 2 (d + 1) (j + 1) (by omega) h3).1 (fun u k _ b1 b2 b3 b4 _ => ?_)
        exact gd_0 (by omega) b2 (by rw [ts_A]; omega)
      rw [if_neg c4]
      by_cases c5 : K i = 9
      · rw [if_pos c5]
        have h1 := tkM_s hm hi c5 (by decide) (by decide)
        refine gd_tak (by omega) h1 (fun c5 => ?_)
        have h2 := tkM_s hm h1 c5 (by decide) (by decide)
        refine gd_bnd (i' := i + 2) (by omega) (pgC_b hm N 0 (d + 1) (i + 2) (by omega) h2).1 (fun t j _ a1 a2 a3 a4 _ => ?_)
        refine gd_tak (by omega) a2 (fun c6 => ?_)
        have h3 := tkM_s hm a2 c6 (by decide) (by decide)
        refine gd_tak (by omega) h3 (fun c7 => ?_)
        have h4 := tkM_s hm h3 c7 (by decide) (by decide)
        exact gd_0 (by omega) h4 (by omega)
      rw [if_neg c5]
      by_cases c6 : K i = 10
      · rw [if_pos c6]
        have h1 := tkM_s hm hi c6 (by decide) (by decide)
        refine gd_bnd (i' := i + 1) (by omega) (pgX_b hm N 0 (d + 1) (i + 1) (by omega) h1) (fun t j _ a1 a2 a3 a4 _ => ?_)
        refine gd_tak (by omega) a2 (fun c6 => ?_)
        have h3 := tkM_s hm a2 c6 (by decide) (by decide)
        exact gd_0 (by omega) h3 (by omega)
      rw [if_neg c6]
      exact gd_no (Nat.le_refl _) hi
    · refine ⟨?_, fun z => absurd z (by decide)⟩
      rw [pgB_2]
      show gdr i m 0 _
      by_cases c : 60 < d
      · rw [if_pos c]; exact gd_no (Nat.le_refl _) hi
      · rw [if_neg c]
        refine gd_tak (Nat.le_refl _) hi (fun c2 => ?_)
        have h1 := tkM_s hm hi c2 (by decide) (by decide)
        refine gd_bnd (i' := i + 1) (by omega) (ih 0 d (i + 1) (by omega) h1).1 (fun t j e a1 a2 a3 a4 _ => ?_)
        have c3 := (ih 0 d (i + 1) (by omega) h1).2 rfl j t e
        have h3 := tkM_s hm a2 c3 (by decide) (by decide)
        exact gd_0 (by omega) h3 (by omega)
theorem pgM_b (hm : tkM K m) : ∀ f i, i < m → gdr i m 2 (pgM K P f i) := by
  intro f
  induction f with
  | zero => exact fun i hi => gd_no (Nat.le_refl _) hi
  | succ f ih =>
    intro i hi
    show gdr i m 2 (if K i = 44 then tak K 2 (i + 1) (bnd (pgM K P f (i + 2)) fun r k => (k, some (.branch (tE 13 (P (i + 1)) (i + 1)) (.leaf ()) r))) else tak K 41 i (i + 1, some (.leaf ())))
    by_cases c : K i = 44
    · rw [if_pos c]
      have h1 := tkM_s hm hi c (by decide) (by decide)
      refine gd_tak (by omega) h1 (fun c2 => ?_)
      have h2 := tkM_s hm h1 c2 (by decide) (by decide)
      refine gd_bnd (i' := i + 2) (by omega) (ih (i + 2) h2) (fun r k e b1 b2 b3 b4 b5 => ?_)
      exact gd_2 (by omega) b2 (by rw [ts_b, ts_l]; omega)
    · rw [if_neg c]
      refine gd_tak (Nat.le_refl _) hi (fun c2 => ?_)
      have h1 := tkM_s hm hi c2 (by decide) (by decide)
      exact gd_2 (by omega) h1 (Nat.zero_le _)
theorem ts_C : ∀ t u, ts (tC t u) = ts t + ts u := by
  intro t
  induction t with
  | leaf _ => intro u; show ts u = 0 + ts u; omega
  | branch n cs r _ ih => intro u; show 1 + ts cs + ts (tC r u) = 1 + ts cs + ts r + ts u; rw [ih]; omega
theorem pgF_b (hm : tkM K m) {i : Nat} (hi : i < m) : gdr i m 0 (pgF K P V N i) := by
  unfold pgF
  refine gd_tak (Nat.le_refl _) hi (fun c1 => ?_)
  have h1 := tkM_s hm hi c1 (by decide) (by decide)
  refine gd_tak (by omega) h1 (fun c2 => ?_)
  have h2 := tkM_s hm h1 c2 (by decide) (by decide)
  refine gd_tak (by omega) h2 (fun c3 => ?_)
  have h3 := tkM_s hm h2 c3 (by decide) (by decide)
  have hp : gdr (i + 3) m 2 (if K (i + 3) = 41 then (i + 4, some (.leaf ())) else tak K 2 (i + 3) (bnd (pgM K P N (i + 4)) fun r k => (k, some (.branch (tE 13 (P (i + 3)) (i + 3)) (.leaf ()) r)))) := by
    by_cases c : K (i + 3) = 41
    · rw [if_pos c]
      have h4 := tkM_s hm h3 c (by decide) (by decide)
      exact gd_2 (by omega) h4 (Nat.zero_le _)
    · rw [if_neg c]
      refine gd_tak (Nat.le_refl _) h3 (fun c2 => ?_)
      have h4 := tkM_s hm h3 c2 (by decide) (by decide)
      refine gd_bnd (i' := i + 4) (by omega) (pgM_b hm N (i + 4) h4) (fun r k e b1 b2 b3 b4 b5 => ?_)
      exact gd_2 (by omega) b2 (by rw [ts_b, ts_l]; omega)
  refine gd_bnd (i' := i + 3) (by omega) hp (fun r j e b1 b2 b3 b4 b5 => ?_)
  refine gd_bnd (i' := j) (by omega) (pgB_b hm N 2 1 j (by omega) b2).1 (fun u k e a1 a2 a3 a4 a5 => ?_)
  obtain ⟨a6, -⟩ := a3 rfl
  exact gd_0 (by omega) a2 (by rw [ts_b, ts_l, ts_C]; omega)
theorem pgZ_b (hm : tkM K m) : ∀ f i, i < m → gdr i m 2 (pgZ K P V N f i) := by
  intro f
  induction f with
  | zero => exact fun i hi => gd_no (Nat.le_refl _) hi
  | succ f ih =>
    intro i hi
    show gdr i m 2 (bnd (pgF K P V N i) fun t j => if K j = 0 then (j, some t) else bnd (pgZ K P V N f j) fun r k => (k, some (tA t r)))
    refine gd_bnd (Nat.le_refl _) (pgF_b hm hi) (fun t j e a1 a2 a3 a4 a5 => ?_)
    obtain ⟨a6, n, cs, a7⟩ := a3 rfl
    subst a7
    rw [ts_N] at a4
    by_cases c : K j = 0
    · rw [if_pos c]
      exact gd_2 (by omega) a2 (by rw [ts_N]; omega)
    · rw [if_neg c]
      refine gd_bnd (i' := j) (by omega) (ih j a2) (fun r k e b1 b2 b3 b4 b5 => ?_)
      exact gd_2 (by omega) b2 (by rw [ts_A]; omega)
end GFs
