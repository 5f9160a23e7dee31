set_option maxRecDepth 100000
/-! CONDs of the grammar: shapes, heights -/
def gcT : tr → Bool → Prop
  | .leaf _, mo => mo = true
  | .branch n cs r, mo => (if tK n = 26 then gcT cs false else if tK n = 24 ∨ tK n = 25 then gcT cs true else (27 ≤ tK n ∧ tK n ≤ 32 ∧ match cs with
      | .branch m1 c1 (.branch m2 c2 r2) => (gxT (.branch m1 c1 (.branch m2 c2 r2)) false ∧ pz (.branch m1 c1 (.branch m2 c2 r2)) false ∧ pn (.branch m1 c1 (.branch m2 c2 r2)) false ≤ 6000 ∧ sh (.branch m1 c1 (.branch m2 c2 r2)) false ≤ 124) ∧ gxT (.branch m2 c2 r2) false ∧ pz (.branch m2 c2 r2) false ∧ pn (.branch m2 c2 r2) false ≤ 6000 ∧ sh (.branch m2 c2 r2) false ≤ 124
      | _ => False)) ∧ (mo = true → gcT r true)
/-- what is so of COND 0, TESTs joined 1, TEST 2, rows 3 4 -/
def cqj (s d i : Nat) (t : tr) (j : Nat) : Prop := j ≤ 11990 →
  (s < 3 → gcT t false ∧ cn3 t + 3 * s ≤ 6 * (60 - d) ∧ th t + s ≤ 5 * (60 - d) + 4 ∧ i < j ∧ d ≤ 59 ∧ ∃ n cs, t = tNd n cs) ∧
  (3 ≤ s → d ≤ 59 → gcT t true ∧ cn3 t + 3 * (s - 2) ≤ 6 * (60 - d) ∧ th t + (s - 2) ≤ 5 * (60 - d) + 4)
section GCs
variable {K : Nat → Int32} {P : Nat → Nat} {V : Nat → Int} {N i j : Nat}
theorem cn_N {n : Nat} {cs : tr} : cn3 (tNd n cs) = (if tK n = 26 then cn3 cs else if tK n = 24 ∨ tK n = 25 then 3 + cn3 cs else 0) := by
  show max _ 0 = _
  omega
theorem cn_B {n : Nat} {cs r : tr} : cn3 (.branch n cs r) = max (cn3 (tNd n cs)) (cn3 r) := by
  rw [cn_N]
  rfl
/-- a later end of what was read -/
def PRl (i : Nat) (r : pqr) : Prop := ∀ t, r.2 = some t → i ≤ r.1
theorem cq_0 {s d i j : Nat} {t : tr} (hs : s < 3) (w : j ≤ 11990 → gcT t false ∧ cn3 t + 3 * s ≤ 6 * (60 - d) ∧ th t + s ≤ 5 * (60 - d) + 4 ∧ i < j ∧ d ≤ 59 ∧ ∃ n cs, t = tNd n cs) : cqj s d i t j := fun hj => ⟨fun _ => w hj, fun z => by omega⟩
theorem relK_cj {k : Int32} (h : ¬ relK k = 0) : 27 ≤ relK k ∧ relK k ≤ 32 := by
  unfold relK at h ⊢
  repeat' split
  all_goals first | decide | (rename_i h1 h2 h3 h4 h5 h6; rw [if_neg h1, if_neg h2, if_neg h3, if_neg h4, if_neg h5, if_neg h6] at h; exact absurd rfl h)
theorem pgC_q (hV : ∀ i, K i = 3 → 0 ≤ V i ∧ V i ≤ 2147483647) (hP : ∀ i, P i < 65536) : ∀ f s d i, s < 5 → (0 < s → d ≤ 60) → PRj (fun t j => cqj s d i t j ∧ i ≤ j) (pgC K P V N f s d i) := by
  intro f
  induction f with
  | zero => exact fun s d i _ _ => pj_no
  | succ f ih =>
    intro s d i hs hd
    have i0 := fun d i => ih 0 d i (by decide) (fun z => absurd z (by decide))
    have hs' : s = 0 ∨ s = 1 ∨ s = 2 ∨ s = 3 ∨ s = 4 := by omega
    have rl1 : ∀ {x : Nat} {cx r : tr}, gcT (tNd x cx) false → gcT r true → gcT (.branch x cx r) true := fun a b => ⟨a.1, fun _ => b⟩
    rcases hs' with e | e | e | e | e <;> subst e
    · rw [pgC_0]
      refine pj_if (fun _ => pj_no) (fun c => pj_bnd (ih 1 d i (by decide) (fun _ => by omega)) fun t j w => ?_)
      refine pj_if (fun _ => pj_bnd (ih 3 d j (by decide) (fun _ => by omega)) fun r k v => pj_so ⟨cq_0 (by decide) fun hk => ?_, by omega⟩) (fun _ => pj_so ⟨cq_0 (by decide) fun hj => ?_, w.2⟩)
      · obtain ⟨w1, w2, w3, w4, w5, x, cx, e⟩ := (w.1 (by omega)).1 (by decide)
        obtain ⟨v1, v2, v3⟩ := (v.1 hk).2 (by decide) w5
        subst e
        have kk : tK (tE 24 (tR (tNd x cx)) 0) = 24 := tE_k (by decide)
        refine ⟨⟨?_, fun z => absurd z (by decide)⟩, ?_, ?_, by omega, w5, _, _, rfl⟩
        · rw [kk, if_neg (by decide), if_pos (Or.inl rfl)]
          exact rl1 w1 v1
        · rw [cn_N, kk, if_neg (by decide), if_pos (Or.inl rfl), show tA (tNd x cx) r = .branch x cx r from rfl, cn_B]
          omega
        · rw [th_N]
          rw [th_N] at w3
          show 1 + max (1 + th cx) (th r) + 0 ≤ _
          omega
      · obtain ⟨w1, w2, w3, w4, w5, w6⟩ := (w.1 hj).1 (by decide)
        exact ⟨w1, by omega, by omega, w4, w5, w6⟩
    · have hd' := hd (by decide)
      rw [pgC_1]
      refine pj_bnd (ih 2 d i (by decide) (fun _ => hd')) fun t j w => ?_
      refine pj_if (fun _ => pj_bnd (ih 4 d j (by decide) (fun _ => hd')) fun r k v => pj_so ⟨cq_0 (by decide) fun hk => ?_, by omega⟩) (fun _ => pj_so ⟨cq_0 (by decide) fun hj => ?_, w.2⟩)
      · obtain ⟨w1, w2, w3, w4, w5, x, cx, e⟩ := (w.1 (by omega)).1 (by decide)
        obtain ⟨v1, v2, v3⟩ := (v.1 hk).2 (by decide) w5
        subst e
        have kk : tK (tE 25 (tR (tNd x cx)) 0) = 25 := tE_k (by decide)
        refine ⟨⟨?_, fun z => absurd z (by decide)⟩, ?_, ?_, by omega, w5, _, _, rfl⟩
        · rw [kk, if_neg (by decide), if_pos (Or.inr rfl)]
          exact rl1 w1 v1
        · rw [cn_N, kk, if_neg (by decide), if_pos (Or.inr rfl), show tA (tNd x cx) r = .branch x cx r from rfl, cn_B]
          omega
        · rw [th_N]
          rw [th_N] at w3
          show 1 + max (1 + th cx) (th r) + 1 ≤ _
          omega
      · obtain ⟨w1, w2, w3, w4, w5, w6⟩ := (w.1 hj).1 (by decide)
        exact ⟨w1, by omega, by omega, w4, w5, w6⟩
    · have hd' := hd (by decide)
      rw [pgC_2]
      refine pj_if (fun _ => pj_if (fun _ => pj_no) (fun c => pj_bnd (ih 2 (d + 1) (i + 1) (by decide) (fun _ => by omega)) fun t j w => pj_so ⟨cq_0 (by decide) fun hj => ?_, by omega⟩)) (fun _ => pj_if (fun _ => pj_bnd (i0 (d + 1) (i + 1)) fun t j w => pj_tak fun _ => pj_so ⟨cq_0 (by decide) fun hj => ?_, by omega⟩) (fun _ => pj_bnd (pgX_q hV hP N 0 (d + 1) i (by decide) (fun z => absurd z (by decide))) fun t j w => pj_if (fun _ => pj_no) (fun rk => pj_bnd (pgX_q hV hP N 0 (d + 1) (j + 1) (by decide) (fun z => absurd z (by decide))) fun u k v => pj_so ?_)))
      · obtain ⟨w1, w2, w3, w4, w5, w6⟩ := (w.1 hj).1 (by decide)
        have kk : tK (tE 26 (P i) 0) = 26 := tE_k (by decide)
        refine ⟨⟨?_, fun z => absurd z (by decide)⟩, ?_, ?_, by omega, by omega, _, _, rfl⟩
        · rw [kk, if_pos rfl]
          exact w1
        · rw [cn_N, kk, if_pos rfl]
          omega
        · rw [th_N]; omega
      · obtain ⟨w1, w2, w3, w4, w5, w6⟩ := (w.1 (by omega)).1 (by decide)
        exact ⟨w1, by omega, by omega, by omega, by omega, w6⟩
      · obtain ⟨w1, w2, w3, w4, w5, w6, w7, x, cx, e⟩ := w.1 (by decide)
        obtain ⟨v1, v2, v3, v4, v5, v6, v7, y, cy, e2⟩ := v.1 (by decide)
        subst e
        subst e2
        refine ⟨cq_0 (by decide) fun hk => ?_, by omega⟩
        obtain ⟨r1, r2⟩ := relK_cj rk
        have kk : tK (tE (relK (K j)) (tR (tNd x cx)) 0) = relK (K j) := tE_k (by omega)
        refine ⟨⟨?_, fun z => absurd z (by decide)⟩, ?_, ?_, by omega, by omega, _, _, rfl⟩
        · rw [kk, if_neg (by omega), if_neg (by omega)]
          refine ⟨r1, r2, ⟨(gx_r (r' := .leaf ())).mpr w1, (pz_r (r' := .leaf ())).mpr w2, ?_, ?_⟩, v1, v2, ?_, ?_⟩
          · rw [pn_r (r' := .leaf ())]
            have : 2 * pn (.branch x cx (.leaf ())) false ≤ j - i + 1 := w5
            omega
          · rw [sh_r (r' := .leaf ())]
            have : sh (.branch x cx (.leaf ())) false + 0 ≤ 2 * (60 - (d + 1)) + 3 := w4
            omega
          · have : 2 * pn (.branch y cy (.leaf ())) false ≤ k - (j + 1) + 1 := v5
            omega
          · have : sh (.branch y cy (.leaf ())) false + 0 ≤ 2 * (60 - (d + 1)) + 3 := v4
            omega
        · rw [cn_N, kk, if_neg (by omega), if_neg (by omega)]
          omega
        · rw [th_N]
          rw [th_N] at w3 v3
          show 1 + max (1 + th cx) (max (1 + th cy) 0) + 2 ≤ _
          omega
    · have hd' := hd (by decide)
      rw [pgC_3]
      refine pj_if (fun _ => pj_bnd (ih 1 d (i + 1) (by decide) (fun _ => hd')) fun t j w => pj_bnd (ih 3 d j (by decide) (fun _ => hd')) fun r k v => pj_so ⟨fun hk => ⟨fun z => absurd z (by decide), fun _ h59 => ?_⟩, by omega⟩) (fun _ => pj_so ⟨fun hk => ⟨fun z => absurd z (by decide), fun _ h59 => ⟨rfl, by show 0 + 3 * (3 - 2) ≤ _; omega, by show 0 + (3 - 2) ≤ _; omega⟩⟩, Nat.le_refl _⟩)
      obtain ⟨w1, w2, w3, w4, w5, x, cx, e⟩ := (w.1 (by omega)).1 (by decide)
      obtain ⟨v1, v2, v3⟩ := (v.1 hk).2 (by decide) h59
      subst e
      refine ⟨rl1 w1 v1, ?_, ?_⟩
      · rw [show tA (tNd x cx) r = .branch x cx r from rfl, cn_B]
        omega
      · rw [th_N] at w3
        show max (1 + th cx) (th r) + (3 - 2) ≤ _
        omega
    · have hd' := hd (by decide)
      rw [pgC_4]
      refine pj_if (fun _ => pj_bnd (ih 2 d (i + 1) (by decide) (fun _ => hd')) fun t j w => pj_bnd (ih 4 d j (by decide) (fun _ => hd')) fun r k v => pj_so ⟨fun hk => ⟨fun z => absurd z (by decide), fun _ h59 => ?_⟩, by omega⟩) (fun _ => pj_so ⟨fun hk => ⟨fun z => absurd z (by decide), fun _ h59 => ⟨rfl, by show 0 + 3 * (4 - 2) ≤ _; omega, by show 0 + (4 - 2) ≤ _; omega⟩⟩, Nat.le_refl _⟩)
      obtain ⟨w1, w2, w3, w4, w5, x, cx, e⟩ := (w.1 (by omega)).1 (by decide)
      obtain ⟨v1, v2, v3⟩ := (v.1 hk).2 (by decide) h59
      subst e
      refine ⟨rl1 w1 v1, ?_, ?_⟩
      · rw [show tA (tNd x cx) r = .branch x cx r from rfl, cn_B]
        omega
      · rw [th_N] at w3
        show max (1 + th cx) (th r) + (4 - 2) ≤ _
        omega
end GCs
