set_option maxRecDepth 100000
/-! the reference's reckon, by the tree -/
def xA (aR en : Int → Nat) (rm : Nat → Nat) : tr → Prop
  | .leaf _ => True
  | .branch n cs r => (tK n = 14 → match cs with | .branch m _ _ => aR (tV m) = rm (en (tV m)) | .leaf _ => True) ∧ xA aR en rm cs ∧ xA aR en rm r
theorem xA_B {aR en : Int → Nat} {rm : Nat → Nat} {n : Nat} {cs r : tr} : xA aR en rm (.branch n cs r) = ((tK n = 14 → match cs with | .branch m _ _ => aR (tV m) = rm (en (tV m)) | .leaf _ => True) ∧ xA aR en rm cs ∧ xA aR en rm r) := rfl
section XCs
variable {en : Int → Nat} {V P : Nat → Int32} {rm : Nat → Nat} {N : Nat → Int32} {g : Nat}
theorem x_bi_c {q : xr} {f : Int → Nat → xr} {c e : Nat} (h1 : q.2.2 ≤ c) (h2 : ∀ v, (f v q.2.2).2.2 ≤ q.2.2 + e) : (x_bi q f).2.2 ≤ c + e := by
  unfold x_bi
  cases q.1 with
  | none => show q.2.2 ≤ c + e; omega
  | some v => have := h2 v; show (f v q.2.2).2.2 ≤ c + e; omega
theorem x_int_c {v : Int} {c : Nat} : (x_int v c).2.2 = c := by unfold x_int; split <;> rfl
theorem x_op_c {k c : Nat} {a b : Int} : (x_op k a b c).2.2 = c := by
  unfold x_op
  split
  · rfl
  · exact x_int_c
/-- how many inputs are asked for -/
theorem xv_c2 : ∀ t, (∀ c, (xv en V P rm N g t none c).2.2 ≤ c + (ts t - ts (tT t))) ∧ (∀ a c, (xv en V P rm N g t (some a) c).2.2 ≤ c + ts t) ∧ (∀ c, (xv en V P rm N g (tT t) none c).2.2 ≤ c + (ts (tT t) - ts (tT (tT t)))) ∧ (∀ a c, (xv en V P rm N g (tT t) (some a) c).2.2 ≤ c + ts (tT t)) := by
  intro t
  induction t with
  | leaf u => exact ⟨fun c => Nat.le_add_right _ _, fun _ c => Nat.le_add_right _ _, fun c => Nat.le_add_right _ _, fun _ c => Nat.le_add_right _ _⟩
  | branch n cs r ih1 ih2 =>
    obtain ⟨a1, a2, a3, a4⟩ := ih1
    obtain ⟨b1, b2, b3, b4⟩ := ih2
    refine ⟨fun c => ?_, fun a c => ?_, b1, b2⟩
    · rw [ts_B]
      have eT : ts (tT (.branch n cs r)) = ts r := rfl
      rw [eT]
      by_cases k12 : tK n = 12
      · rw [xv_12 k12]; show c ≤ _; omega
      by_cases k13 : tK n = 13
      · rw [xv_13 k13]; show c ≤ _; omega
      by_cases k14 : tK n = 14
      · rcases cs with u | ⟨m, cs', r'⟩
        · show (if tK n = 12 then _ else if tK n = 13 then _ else if tK n = 14 then _ else _ : xr).2.2 ≤ _
          rw [if_neg k12, if_neg k13, if_pos k14]
          show c ≤ _
          omega
        · rw [xv_14 k14]
          have e1 : ts (tT (.branch m cs' r')) = ts r' := rfl
          have h3 := a3 c
          have e2 : tT (.branch m cs' r') = r' := rfl
          rw [e2] at h3
          have z : (x_bi (xv en V P rm N g r' none c) (fun i c' => if i < 0 ∨ (rm (en (tV m)) : Int) ≤ i then x_tr 4 c' else x_ok (P (64 * en (tV m) + i.toNat)).toInt c')).2.2 ≤ (c + (ts r' - ts (tT r'))) + 0 := x_bi_c h3 (fun v => by
            show (if _ then x_tr 4 _ else x_ok _ _ : xr).2.2 ≤ _
            split <;> exact Nat.le_refl _)
          rw [ts_B]
          omega
      by_cases k15 : tK n = 15
      · rw [xv_15 k15]
        have z := x_bi_c (f := fun a c' => x_int (-a) c') (e := 0) (a1 c) (fun v => by show (x_int _ _).2.2 ≤ _; rw [x_int_c]; omega)
        omega
      by_cases k16 : tK n = 16
      · have z : (xv en V P rm N g (.branch n cs r) none c).2.2 = c + 1 := by
          rcases cs with _ | ⟨_, _, _ | ⟨_, _, _⟩⟩
          all_goals
            show (if tK n = 12 then _ else if tK n = 13 then _ else if tK n = 14 then _ else if tK n = 15 then _ else if tK n = 16 then _ else _ : xr).2.2 = _
            rw [if_neg k12, if_neg k13, if_neg k14, if_neg k15, if_pos k16]
            rfl
        rw [z]
        omega
      · rcases cs with u | ⟨m, cs', r'⟩
        · show (if tK n = 12 then _ else if tK n = 13 then _ else if tK n = 14 then _ else if tK n = 15 then _ else if tK n = 16 then _ else _ : xr).2.2 ≤ _
          rw [if_neg k12, if_neg k13, if_neg k14, if_neg k15, if_neg k16]
          show c ≤ _
          omega
        · rw [xv_17 ⟨k12, k13, k14, k15, k16⟩]
          have e2 : tT (.branch m cs' r') = r' := rfl
          rw [e2] at a1 a4
          have z := x_bi_c (f := fun a c' => xv en V P rm N g r' (some a) c') (e := ts r') (a1 c) (fun v => a4 v _)
          rw [ts_B] at *
          omega
    · rw [xv_L, ts_B]
      have z : (x_bi (xv en V P rm N g cs none c) (fun b c' => x_bi (x_op (tK n) a b c') (fun v c' => xv en V P rm N g r (some v) c'))).2.2 ≤ (c + (ts cs - ts (tT cs))) + ts r := x_bi_c (a1 c) (fun v => by
        have y := x_bi_c (q := x_op (tK n) a v (xv en V P rm N g cs none c).2.2) (f := fun v c' => xv en V P rm N g r (some v) c') (c := (xv en V P rm N g cs none c).2.2) (e := ts r) (by rw [x_op_c]; exact Nat.le_refl _) (fun w => b2 w _)
        exact y)
      omega
theorem xv_c {t : tr} {c : Nat} : (xv en V P rm N g t none c).2.2 ≤ c + ts t := by
  have := (xv_c2 (en := en) (V := V) (P := P) (rm := rm) (N := N) (g := g) t).1 c
  omega
end XCs
section UOs
variable {d : Nat} {h h1 : mh_H} {p gv k k0 z c j D : Nat} {sN : Int → Prop} {en aR : Int → Nat} {q : xr} {x v : Int64} {x5 x6 : Option Value}
/-- placeOf: behind a trap -/
theorem c_359 (R : RRU h1 p gv sN en aR) (hj : j < 26000) (hs : sN (mh_i h1 95 j).toInt) (er : en (mh_i h1 95 j).toInt < 6) (ea : aR (mh_i h1 95 j).toInt ≤ 64) (o : uo q h1 x) (g0 : mg h 81 14) (run : ∀ Q, mcall d 360 [.ref 81, .int (Int32.ofNat k)] h Q = Q (some (.long x)) h1) : ∃ h2 y, fG rcW h1 h2 ∧ mh_i h2 81 67 = mh_i h1 81 67 ∧ (match q.1 with
    | none => h2 = h1
    | some w => if w < 0 ∨ (aR (mh_i h1 95 j).toInt : Int) ≤ w then mh_i h2 81 68 = 4 else h2 = h1 ∧ y = Int32.ofNat (64 * en (mh_i h1 95 j).toInt + w.toNat)) ∧ ∀ Q, mcall (d + 1) 359 [.ref 81, .int (Int32.ofNat j), .int (Int32.ofNat k)] h Q = Q (some (.int y)) h2 := by
  obtain ⟨e, he, m1, m2, c355⟩ := c_355 (d := d) R hs
  have F := R.F
  have g := F.g 81 14 70 (by decide +kernel)
  have r21 := F.f 81 21 95 (by decide +kernel)
  have g5 := F.g 95 100 26000 (by decide +kernel)
  have l5 := F.l 95 100 26000 (by decide +kernel)
  have r36 := F.f 81 36 107 (by decide +kernel)
  have g7 := F.g 107 100 10040 (by decide +kernel)
  have l7 := F.l 107 100 10040 (by decide +kernel)
  have r37 := F.f 81 37 108 (by decide +kernel)
  have g8 := F.g 108 100 10040 (by decide +kernel)
  have l8 := F.l 108 100 10040 (by decide +kernel)
  have e00 : ((0 : Int32) = 0) = True := by decide
  have le0 : ((0 : Int32) ≤ 0) = True := by decide
  have le4 : ((4 : Int32) ≤ 0) = False := by decide
  have i64' : (Int8.ofInt 64).toInt32 = 64 := by decide
  have z0 : (0 : Int64).toInt = 0 := rfl
  obtain ⟨o7, o⟩ := o
  cases hq : q.1 with
  | none =>
    rw [hq] at o
    obtain ⟨o1, o2⟩ := o
    refine ⟨h1, 0, fG_id, rfl, rfl, fun Q => ?_⟩
    have t1 : (mh_i h1 81 68 = 0) = False := eq_false (fun z => by rw [o2] at z; rw [z] at o1; exact absurd o1 (by decide))
    have t2 : (mh_i h1 81 68 ≤ 0) = False := eq_false (fun z => by rw [o2, Int32.le_iff_toInt_le] at z; rw [Int32.lt_iff_toInt_lt] at o1; omega)
    clear R F o7 hq
    simp (disch := omega) only [s_359_0, s_359_1, s_359_2, s_359_5, s_359_6, s_359_7, s_359_8, s_359_11, s_359_12, s_359_13, s_359_16, s_359_18, s_359_19, s_359_22, s_359_25, s_359_26, s_359_27, s_359_28, s_359_31, s_359_32, s_359_33, s_359_36, s_359_38, s_359_39, s_359_40, s_359_41, s_359_44, s_359_45, s_359_46, s_359_49, s_359_50, s_359_51, s_359_54, s_359_57, s_359_58, s_359_61, s_359_63, s_359_64, s_359_67, s_359_69, s_359_70, s_359_71, s_359_72, s_359_73, s_359_74, e_359, mv_i_1, mv_l_1, mv_a_1, mv_a_2, mv_a_3, mk2_n, mk2_i, mk2_l, mk2_a, mk2_u, mk2_x, mB_T, mB_F, mS_cons, mS_nil, mSB_T, mSB_F, mca_nil, mca_i, mca_l, mca_r, mca_u, mca_x, mcat_i, mcat_l, mcat_r, mcat_u, mcat_x, mK_some, mK_none, va_rf_s, va_rf_n, lgc_eq, lgc_lt, lgc_gt, lgc_ge, lgc_le, mrd_104, mrd_105, mrd_106, mrd_107, true_and, and_true, and_self, false_and, and_false, true_or, or_true, false_or, or_false, not_true_eq_false, not_false_eq_true, mgb, mga, mgr, mN, reduceCtorEq, ↓reduceIte, eq_self, ge_iff_le, gt_iff_lt, hk_si, hk_sj, hk_sr, hl_si, hl_sj, hl_sr, hn_si, hn_sj, hn_sr, hs_si, hs_sj, hs_sr, hi_sj, hi_sr, hj_si, hj_sr, hr_si, hr_sj, hi_si, hj_sj, hr_sr, mg_si, mg_sj, mg_sr, Nat.reduceAdd, Nat.reduceMul, Nat.reduceSub, Nat.reduceLT, Nat.reduceGT, Nat.reduceEqDiff, Nat.reduceLeDiff, Nat.left_eq_add, Nat.add_eq_left, Nat.reduceMod, Nat.reduceDiv, Nat.succ_ne_self, g0, run, g, r21, g5, l5, c355, t1, t2, nn_mxT, nn_clamp]
  | some w =>
    rw [hq] at o
    obtain ⟨o1, o2, o3⟩ := o
    have c356 := c_356 (d := d) (w := 4) F o2
    have ai : (Int32.ofNat (aR (mh_i h1 95 j).toInt)).toInt64.toInt = (aR (mh_i h1 95 j).toInt : Int) := by rw [Int32.toInt_toInt64, nn_int (by omega)]
    by_cases cc : w < 0 ∨ (aR (mh_i h1 95 j).toInt : Int) ≤ w
    · refine ⟨mh_si h1 81 68 4, 0, trH_f, by rw [hi_si, if_neg (by omega)], ?_, fun Q => ?_⟩
      · show if w < 0 ∨ _ ≤ w then _ else _
        rw [if_pos cc, hi_si, if_pos ⟨rfl, rfl⟩]
      · by_cases c1 : w < 0
        · have l1 : (x < 0) = True := eq_true (by rw [lt64, z0, o3]; exact c1)
          clear R F o7 hq
          simp (disch := omega) only [s_359_0, s_359_1, s_359_2, s_359_5, s_359_6, s_359_7, s_359_8, s_359_11, s_359_12, s_359_13, s_359_16, s_359_18, s_359_19, s_359_22, s_359_25, s_359_26, s_359_27, s_359_28, s_359_31, s_359_32, s_359_33, s_359_36, s_359_38, s_359_39, s_359_40, s_359_41, s_359_44, s_359_45, s_359_46, s_359_49, s_359_50, s_359_51, s_359_54, s_359_57, s_359_58, s_359_61, s_359_63, s_359_64, s_359_67, s_359_69, s_359_70, s_359_71, s_359_72, s_359_73, s_359_74, e_359, mv_i_1, mv_l_1, mv_a_1, mv_a_2, mv_a_3, mk2_n, mk2_i, mk2_l, mk2_a, mk2_u, mk2_x, mB_T, mB_F, mS_cons, mS_nil, mSB_T, mSB_F, mca_nil, mca_i, mca_l, mca_r, mca_u, mca_x, mcat_i, mcat_l, mcat_r, mcat_u, mcat_x, mK_some, mK_none, va_rf_s, va_rf_n, lgc_eq, lgc_lt, lgc_gt, lgc_ge, lgc_le, mrd_104, mrd_105, mrd_106, mrd_107, true_and, and_true, and_self, false_and, and_false, true_or, or_true, false_or, or_false, not_true_eq_false, not_false_eq_true, mgb, mga, mgr, mN, reduceCtorEq, ↓reduceIte, eq_self, ge_iff_le, gt_iff_lt, hk_si, hk_sj, hk_sr, hl_si, hl_sj, hl_sr, hn_si, hn_sj, hn_sr, hs_si, hs_sj, hs_sr, hi_sj, hi_sr, hj_si, hj_sr, hr_si, hr_sj, hi_si, hj_sj, hr_sr, mg_si, mg_sj, mg_sr, Nat.reduceAdd, Nat.reduceMul, Nat.reduceSub, Nat.reduceLT, Nat.reduceGT, Nat.reduceEqDiff, Nat.reduceLeDiff, Nat.left_eq_add, Nat.add_eq_left, Nat.reduceMod, Nat.reduceDiv, Nat.succ_ne_self, g0, run, g, r21, g5, l5, c355, o2, e00, l1, c356, le4, nn_mxT, nn_clamp]
        · have l1 : (x < 0) = False := eq_false (by rw [lt64, z0, o3]; exact c1)
          have l2 : (x < (Int32.ofNat (aR (mh_i h1 95 j).toInt)).toInt64) = False := eq_false (by rw [lt64, ai, o3]; omega)
          clear R F o7 hq
          simp (disch := omega) only [s_359_0, s_359_1, s_359_2, s_359_5, s_359_6, s_359_7, s_359_8, s_359_11, s_359_12, s_359_13, s_359_16, s_359_18, s_359_19, s_359_22, s_359_25, s_359_26, s_359_27, s_359_28, s_359_31, s_359_32, s_359_33, s_359_36, s_359_38, s_359_39, s_359_40, s_359_41, s_359_44, s_359_45, s_359_46, s_359_49, s_359_50, s_359_51, s_359_54, s_359_57, s_359_58, s_359_61, s_359_63, s_359_64, s_359_67, s_359_69, s_359_70, s_359_71, s_359_72, s_359_73, s_359_74, e_359, mv_i_1, mv_l_1, mv_a_1, mv_a_2, mv_a_3, mk2_n, mk2_i, mk2_l, mk2_a, mk2_u, mk2_x, mB_T, mB_F, mS_cons, mS_nil, mSB_T, mSB_F, mca_nil, mca_i, mca_l, mca_r, mca_u, mca_x, mcat_i, mcat_l, mcat_r, mcat_u, mcat_x, mK_some, mK_none, va_rf_s, va_rf_n, lgc_eq, lgc_lt, lgc_gt, lgc_ge, lgc_le, mrd_104, mrd_105, mrd_106, mrd_107, true_and, and_true, and_self, false_and, and_false, true_or, or_true, false_or, or_false, not_true_eq_false, not_false_eq_true, mgb, mga, mgr, mN, reduceCtorEq, ↓reduceIte, eq_self, ge_iff_le, gt_iff_lt, hk_si, hk_sj, hk_sr, hl_si, hl_sj, hl_sr, hn_si, hn_sj, hn_sr, hs_si, hs_sj, hs_sr, hi_sj, hi_sr, hj_si, hj_sr, hr_si, hr_sj, hi_si, hj_sj, hr_sr, mg_si, mg_sj, mg_sr, Nat.reduceAdd, Nat.reduceMul, Nat.reduceSub, Nat.reduceLT, Nat.reduceGT, Nat.reduceEqDiff, Nat.reduceLeDiff, Nat.left_eq_add, Nat.add_eq_left, Nat.reduceMod, Nat.reduceDiv, Nat.succ_ne_self, g0, run, g, r21, g5, l5, c355, o2, e00, l1, r37, g8, l8, m2, l2, c356, le4, nn_mxT, nn_clamp]
    · refine ⟨h1, Int32.ofNat (64 * en (mh_i h1 95 j).toInt + w.toNat), fG_id, rfl, ?_, fun Q => ?_⟩
      · show if w < 0 ∨ _ ≤ w then _ else _
        rw [if_neg cc]
        exact ⟨rfl, rfl⟩
      · have l1 : (x < 0) = False := eq_false (by rw [lt64, z0, o3]; omega)
        have l2 : (x < (Int32.ofNat (aR (mh_i h1 95 j).toInt)).toInt64) = True := eq_true (by rw [lt64, ai, o3]; omega)
        have ex : x.toInt32 = Int32.ofNat w.toNat := Int32.toInt_inj.mp (by
          rw [nn_int (by omega), Int64.toInt_toInt32, o3, Int.bmod_eq_of_le (by omega) (by omega)]
          omega)
        have em : (64 : Int32) * Int32.ofNat (en (mh_i h1 95 j).toInt) = Int32.ofNat (64 * en (mh_i h1 95 j).toInt) := nn_mul (a := 64)
        have ea' : Int32.ofNat (64 * en (mh_i h1 95 j).toInt) + Int32.ofNat w.toNat = Int32.ofNat (64 * en (mh_i h1 95 j).toInt + w.toNat) := nn_add
        clear R F o7 hq
        simp (disch := omega) only [s_359_0, s_359_1, s_359_2, s_359_5, s_359_6, s_359_7, s_359_8, s_359_11, s_359_12, s_359_13, s_359_16, s_359_18, s_359_19, s_359_22, s_359_25, s_359_26, s_359_27, s_359_28, s_359_31, s_359_32, s_359_33, s_359_36, s_359_38, s_359_39, s_359_40, s_359_41, s_359_44, s_359_45, s_359_46, s_359_49, s_359_50, s_359_51, s_359_54, s_359_57, s_359_58, s_359_61, s_359_63, s_359_64, s_359_67, s_359_69, s_359_70, s_359_71, s_359_72, s_359_73, s_359_74, e_359, mv_i_1, mv_l_1, mv_a_1, mv_a_2, mv_a_3, mk2_n, mk2_i, mk2_l, mk2_a, mk2_u, mk2_x, mB_T, mB_F, mS_cons, mS_nil, mSB_T, mSB_F, mca_nil, mca_i, mca_l, mca_r, mca_u, mca_x, mcat_i, mcat_l, mcat_r, mcat_u, mcat_x, mK_some, mK_none, va_rf_s, va_rf_n, lgc_eq, lgc_lt, lgc_gt, lgc_ge, lgc_le, mrd_104, mrd_105, mrd_106, mrd_107, true_and, and_true, and_self, false_and, and_false, true_or, or_true, false_or, or_false, not_true_eq_false, not_false_eq_true, mgb, mga, mgr, mN, reduceCtorEq, ↓reduceIte, eq_self, ge_iff_le, gt_iff_lt, hk_si, hk_sj, hk_sr, hl_si, hl_sj, hl_sr, hn_si, hn_sj, hn_sr, hs_si, hs_sj, hs_sr, hi_sj, hi_sr, hj_si, hj_sr, hr_si, hr_sj, hi_si, hj_sj, hr_sr, mg_si, mg_sj, mg_sr, Nat.reduceAdd, Nat.reduceMul, Nat.reduceSub, Nat.reduceLT, Nat.reduceGT, Nat.reduceEqDiff, Nat.reduceLeDiff, Nat.left_eq_add, Nat.add_eq_left, Nat.reduceMod, Nat.reduceDiv, Nat.succ_ne_self, g0, run, g, r21, g5, l5, c355, o2, e00, le0, l1, r37, g8, l8, m2, l2, i64', r36, g7, l7, m1, ex, em, ea', nn_mxT, nn_clamp]
variable {A : ab} {V P N : Nat → Int32} {t : tr}
def U0 (p gv : Nat) (sN : Int → Prop) (en aR : Int → Nat) (A : ab) (V P N : Nat → Int32) (t : tr) : Prop := ∀ (h : mh_H) (D k c : Nat), RRU h p gv sN en aR → mh_i h 2640 = V → mh_i h 2641 = P → mh_i h 2639 = N → nd (mh_i h 93) (mh_i h 95) (mh_i h 97) k t → wS sN en A t false → xA aR en A.rm t → k + ts t ≤ 26000 → 2 * th t + 2 ≤ D → mh_i h 81 68 = 0 → mh_i h 81 67 = Int32.ofNat c → c + ts t < 1000000000 → ∃ h' x, fG rcW h h' ∧ uo (xv en V P A.rm N gv t none c) h' x ∧ ∀ Q, mcall D 360 [.ref 81, .int (Int32.ofNat k)] h Q = Q (some (.long x)) h'
def U1 (p gv : Nat) (sN : Int → Prop) (en aR : Int → Nat) (A : ab) (V P N : Nat → Int32) (t : tr) : Prop := ∀ (h : mh_H) (D k0 k z c : Nat) (v : Int64) (x5 x6 : Option Value), RRU h p gv sN en aR → mh_i h 2640 = V → mh_i h 2641 = P → mh_i h 2639 = N → nd (mh_i h 93) (mh_i h 95) (mh_i h 97) k t → wS sN en A t true → xA aR en A.rm t → k + ts t ≤ 26000 → mh_i h 97 k0 = Int32.ofNat z → k0 + z = k + ts t → k0 < k → 2 * th t + 1 ≤ D → 4 ≤ D → mh_i h 81 68 = 0 → mh_i h 81 67 = Int32.ofNat c → c + ts t < 1000000000 → iI v.toInt → ∃ h' x, fG rcW h h' ∧ uo (xv en V P A.rm N gv t (some v.toInt) c) h' x ∧ ∀ Q, mw D 360 Q 192 [some (.ref 81), some (.int (Int32.ofNat k0)), some (.long v), none, some (.int (Int32.ofNat k)), x5, x6] [] h = Q (some (.long x)) h'
/-- the loop ends -/
theorem u_e (R : RRU h p gv sN en aR) (hz : mh_i h 97 k0 = Int32.ofNat z) (h0 : k0 < 26000) (hk : k ≤ k0 + z) (hb : k0 + z ≤ 26000) (e : ¬ mh_i h 81 68 = 0 ∨ k = k0 + z) : ∀ Q, mw (d + 2) 360 Q 192 [some (.ref 81), some (.int (Int32.ofNat k0)), some (.long v), none, some (.int (Int32.ofNat k)), x5, x6] [] h = Q (some (.long v)) h := fun Q => by
  have g := R.F.g 81 14 70 (by decide +kernel)
  have c333 := c_333 (d := d + 1) R.F h0 hz
  clear R
  by_cases c : k = k0 + z
  · have le : (k0 + z ≤ k) = True := eq_true (by omega)
    simp (disch := omega) only [s_360_0, s_360_1, s_360_4, s_360_7, s_360_8, s_360_9, s_360_10, s_360_13, s_360_14, s_360_15, s_360_48, s_360_49, s_360_52, s_360_53, s_360_54, s_360_55, s_360_56, s_360_57, s_360_60, s_360_61, s_360_64, s_360_65, s_360_66, s_360_69, s_360_70, s_360_71, s_360_74, s_360_75, s_360_76, s_360_77, s_360_78, s_360_79, s_360_80, s_360_81, s_360_82, s_360_83, s_360_84, s_360_87, s_360_90, s_360_91, s_360_92, s_360_95, s_360_98, s_360_99, s_360_102, s_360_103, s_360_106, s_360_107, s_360_108, s_360_109, s_360_110, s_360_111, s_360_112, s_360_113, s_360_114, s_360_115, s_360_118, s_360_119, s_360_122, s_360_123, s_360_124, s_360_127, s_360_128, s_360_129, s_360_132, s_360_133, s_360_134, s_360_135, s_360_138, s_360_139, s_360_140, s_360_143, s_360_144, s_360_145, s_360_146, s_360_147, s_360_150, s_360_151, s_360_152, s_360_155, s_360_156, s_360_157, s_360_158, s_360_159, s_360_162, s_360_163, s_360_164, s_360_167, s_360_168, s_360_171, s_360_172, s_360_173, s_360_174, s_360_175, s_360_176, s_360_177, s_360_178, s_360_179, s_360_180, s_360_181, s_360_184, s_360_185, s_360_186, s_360_187, s_360_190, s_360_192, s_360_194, s_360_195, s_360_196, s_360_199, s_360_202, s_360_203, s_360_206, s_360_209, s_360_210, s_360_212, s_360_213, s_360_214, s_360_217, s_360_219, s_360_220, s_360_223, s_360_226, s_360_227, s_360_228, s_360_231, s_360_233, s_360_234, s_360_235, s_360_237, s_360_240, s_360_241, s_360_242, s_360_244, s_360_247, s_360_249, s_360_252, s_360_253, e_360, mv_i_1, mv_l_1, mv_a_1, mv_a_2, mv_a_3, mk2_n, mk2_i, mk2_l, mk2_a, mk2_u, mk2_x, mB_T, mB_F, mS_cons, mS_nil, mSB_T, mSB_F, mca_nil, mca_i, mca_l, mca_r, mca_u, mca_x, mcat_i, mcat_l, mcat_r, mcat_u, mcat_x, mK_some, mK_none, va_rf_s, va_rf_n, lgc_eq, lgc_lt, lgc_gt, lgc_ge, lgc_le, mrd_104, mrd_105, mrd_106, mrd_107, true_and, and_true, and_self, false_and, and_false, true_or, or_true, false_or, or_false, not_true_eq_false, not_false_eq_true, mgb, mga, mgr, mN, reduceCtorEq, ↓reduceIte, eq_self, ge_iff_le, gt_iff_lt, hk_si, hk_sj, hk_sr, hl_si, hl_sj, hl_sr, hn_si, hn_sj, hn_sr, hs_si, hs_sj, hs_sr, hi_sj, hi_sr, hj_si, hj_sr, hr_si, hr_sj, hi_si, hj_sj, hr_sr, mg_si, mg_sj, mg_sr, Nat.reduceAdd, Nat.reduceMul, Nat.reduceSub, Nat.reduceLT, Nat.reduceGT, Nat.reduceEqDiff, Nat.reduceLeDiff, Nat.left_eq_add, Nat.add_eq_left, Nat.reduceMod, Nat.reduceDiv, Nat.succ_ne_self, g, c333, nn_le, le]
  · have le : (k0 + z ≤ k) = False := eq_false (by omega)
    have t0 : (mh_i h 81 68 = 0) = False := eq_false (e.resolve_right c)
    simp (disch := omega) only [s_360_0, s_360_1, s_360_4, s_360_7, s_360_8, s_360_9, s_360_10, s_360_13, s_360_14, s_360_15, s_360_48, s_360_49, s_360_52, s_360_53, s_360_54, s_360_55, s_360_56, s_360_57, s_360_60, s_360_61, s_360_64, s_360_65, s_360_66, s_360_69, s_360_70, s_360_71, s_360_74, s_360_75, s_360_76, s_360_77, s_360_78, s_360_79, s_360_80, s_360_81, s_360_82, s_360_83, s_360_84, s_360_87, s_360_90, s_360_91, s_360_92, s_360_95, s_360_98, s_360_99, s_360_102, s_360_103, s_360_106, s_360_107, s_360_108, s_360_109, s_360_110, s_360_111, s_360_112, s_360_113, s_360_114, s_360_115, s_360_118, s_360_119, s_360_122, s_360_123, s_360_124, s_360_127, s_360_128, s_360_129, s_360_132, s_360_133, s_360_134, s_360_135, s_360_138, s_360_139, s_360_140, s_360_143, s_360_144, s_360_145, s_360_146, s_360_147, s_360_150, s_360_151, s_360_152, s_360_155, s_360_156, s_360_157, s_360_158, s_360_159, s_360_162, s_360_163, s_360_164, s_360_167, s_360_168, s_360_171, s_360_172, s_360_173, s_360_174, s_360_175, s_360_176, s_360_177, s_360_178, s_360_179, s_360_180, s_360_181, s_360_184, s_360_185, s_360_186, s_360_187, s_360_190, s_360_192, s_360_194, s_360_195, s_360_196, s_360_199, s_360_202, s_360_203, s_360_206, s_360_209, s_360_210, s_360_212, s_360_213, s_360_214, s_360_217, s_360_219, s_360_220, s_360_223, s_360_226, s_360_227, s_360_228, s_360_231, s_360_233, s_360_234, s_360_235, s_360_237, s_360_240, s_360_241, s_360_242, s_360_244, s_360_247, s_360_249, s_360_252, s_360_253, e_360, mv_i_1, mv_l_1, mv_a_1, mv_a_2, mv_a_3, mk2_n, mk2_i, mk2_l, mk2_a, mk2_u, mk2_x, mB_T, mB_F, mS_cons, mS_nil, mSB_T, mSB_F, mca_nil, mca_i, mca_l, mca_r, mca_u, mca_x, mcat_i, mcat_l, mcat_r, mcat_u, mcat_x, mK_some, mK_none, va_rf_s, va_rf_n, lgc_eq, lgc_lt, lgc_gt, lgc_ge, lgc_le, mrd_104, mrd_105, mrd_106, mrd_107, true_and, and_true, and_self, false_and, and_false, true_or, or_true, false_or, or_false, not_true_eq_false, not_false_eq_true, mgb, mga, mgr, mN, reduceCtorEq, ↓reduceIte, eq_self, ge_iff_le, gt_iff_lt, hk_si, hk_sj, hk_sr, hl_si, hl_sj, hl_sr, hn_si, hn_sj, hn_sr, hs_si, hs_sj, hs_sr, hi_sj, hi_sr, hj_si, hj_sr, hr_si, hr_sj, hi_si, hj_sj, hr_sr, mg_si, mg_sj, mg_sr, Nat.reduceAdd, Nat.reduceMul, Nat.reduceSub, Nat.reduceLT, Nat.reduceGT, Nat.reduceEqDiff, Nat.reduceLeDiff, Nat.left_eq_add, Nat.add_eq_left, Nat.reduceMod, Nat.reduceDiv, Nat.succ_ne_self, g, c333, nn_le, le, t0]
theorem U1_leaf (u : Unit) : U1 p gv sN en aR A V P N (.leaf u) := by
  intro h D k0 k z c v x5 x6 R _ _ _ _ _ _ hk hz e h0 _ hD e8 e7 _ hv
  obtain ⟨d, rfl⟩ : ∃ d, D = d + 2 := ⟨D - 2, by omega⟩
  have e' : k0 + z = k := e
  have hk' : k ≤ 26000 := hk
  exact ⟨h, v, fG_id, ⟨e7, hv, e8, rfl⟩, u_e R hz (by omega) (by omega) (by omega) (Or.inr e'.symm)⟩
theorem U1_br {n : Nat} {cs r : tr} (i0 : U0 p gv sN en aR A V P N cs) (i1 : U1 p gv sN en aR A V P N r) : U1 p gv sN en aR A V P N (.branch n cs r) := by
  intro h D k0 k z c v x5 x6 R hV hP hN hn hw hx hk hz e h0 hD hD4 e8 e7 hc hv
  obtain ⟨d, rfl⟩ : ∃ d, D = d + 3 := ⟨D - 3, by omega⟩
  rw [nd_B] at hn
  rw [ts_B] at hk e hc
  rw [th_B] at hD
  obtain ⟨n1, n2, n3, n4, n5⟩ := hn
  obtain ⟨w1, w2, w3⟩ := hw
  rw [xA_B] at hx
  obtain ⟨-, xa, xb⟩ := hx
  rw [xv_L]
  obtain ⟨h1, x, f1, o1, run1⟩ := i0 h (d + 2) (k + 1) c R hV hP hN n4 w2 xa (by omega) (by omega) e8 e7 (by omega)
  have R1 := RRU_G f1 R
  have rr : ∀ b, b ≠ 81 → mh_i h1 b = mh_i h b := fun b hb => rc_r f1 hb
  have z1 : mh_i h1 97 k0 = Int32.ofNat z := by rw [rr 97 (by omega)]; exact hz
  have n3' : mh_i h1 97 k = Int32.ofNat (1 + ts cs) := by rw [rr 97 (by omega)]; exact n3
  have n1' : mh_i h1 93 k = Int32.ofNat (tK n) := by rw [rr 93 (by omega)]; exact n1
  have F := R.F
  have F1 := R1.F
  have g := F.g 81 14 70 (by decide +kernel)
  have g1 := F1.g 81 14 70 (by decide +kernel)
  have c333 := c_333 (d := d + 2) F (by omega : k0 < 26000) hz
  have c333b := c_333 (d := d + 2) F1 (by omega : k < 26000) n3'
  have le : (k0 + z ≤ k) = False := eq_false (by omega)
  have e00 : ((0 : Int32) = 0) = True := by decide
  have ei : Int32.ofNat k + 1 = Int32.ofNat (k + 1) := nn_add (a := k) (b := 1)
  have xc := xv_c (en := en) (V := V) (P := P) (rm := A.rm) (N := N) (g := gv) (t := cs) (c := c)
  obtain ⟨q, eq⟩ : ∃ q, xv en V P A.rm N gv cs none c = q := ⟨_, rfl⟩
  rw [eq] at o1 xc ⊢
  have o1' := o1
  obtain ⟨o7, o8⟩ := o1'
  cases hq : q.1 with
  | none =>
    rw [hq] at o8
    have ex : ∀ f, x_bi q f = q := fun f => by unfold x_bi; rw [hq]
    rw [ex]
    have t0 : (mh_i h1 81 68 = 0) = False := eq_false (fun z => by rw [o8.2] at z; rw [z] at o8; exact absurd o8.1 (by decide))
    have fin := u_e (d := d + 1) (v := v) (k := k + (1 + ts cs)) (x5 := some (.long x)) (x6 := none) R1 z1 (by omega) (by omega) (by omega) (Or.inl (of_eq_false t0))
    refine ⟨h1, v, f1, ⟨o7, by rw [hq]; exact o8⟩, fun Q => ?_⟩
    rw [← fin Q, s_360_192]
    clear R R1 F F1 i0 i1 fin o1 o7 o8
    simp (disch := omega) only [s_360_0, s_360_1, s_360_4, s_360_7, s_360_8, s_360_9, s_360_10, s_360_13, s_360_14, s_360_15, s_360_48, s_360_49, s_360_52, s_360_53, s_360_54, s_360_55, s_360_56, s_360_57, s_360_60, s_360_61, s_360_64, s_360_65, s_360_66, s_360_69, s_360_70, s_360_71, s_360_74, s_360_75, s_360_76, s_360_77, s_360_78, s_360_79, s_360_80, s_360_81, s_360_82, s_360_83, s_360_84, s_360_87, s_360_90, s_360_91, s_360_92, s_360_95, s_360_98, s_360_99, s_360_102, s_360_103, s_360_106, s_360_107, s_360_108, s_360_109, s_360_110, s_360_111, s_360_112, s_360_113, s_360_114, s_360_115, s_360_118, s_360_119, s_360_122, s_360_123, s_360_124, s_360_127, s_360_128, s_360_129, s_360_132, s_360_133, s_360_134, s_360_135, s_360_138, s_360_139, s_360_140, s_360_143, s_360_144, s_360_145, s_360_146, s_360_147, s_360_150, s_360_151, s_360_152, s_360_155, s_360_156, s_360_157, s_360_158, s_360_159, s_360_162, s_360_163, s_360_164, s_360_167, s_360_168, s_360_171, s_360_172, s_360_173, s_360_174, s_360_175, s_360_176, s_360_177, s_360_178, s_360_179, s_360_180, s_360_181, s_360_184, s_360_185, s_360_186, s_360_187, s_360_190, s_360_194, s_360_195, s_360_196, s_360_199, s_360_202, s_360_203, s_360_206, s_360_209, s_360_210, s_360_212, s_360_213, s_360_214, s_360_217, s_360_219, s_360_220, s_360_223, s_360_226, s_360_227, s_360_228, s_360_231, s_360_233, s_360_234, s_360_235, s_360_237, s_360_240, s_360_241, s_360_242, s_360_244, s_360_247, s_360_249, s_360_252, s_360_253, e_360, mv_i_1, mv_l_1, mv_a_1, mv_a_2, mv_a_3, mk2_n, mk2_i, mk2_l, mk2_a, mk2_u, mk2_x, mB_T, mB_F, mS_cons, mS_nil, mSB_T, mSB_F, mca_nil, mca_i, mca_l, mca_r, mca_u, mca_x, mcat_i, mcat_l, mcat_r, mcat_u, mcat_x, mK_some, mK_none, va_rf_s, va_rf_n, lgc_eq, lgc_lt, lgc_gt, lgc_ge, lgc_le, mrd_104, mrd_105, mrd_106, mrd_107, true_and, and_true, and_self, false_and, and_false, true_or, or_true, false_or, or_false, not_true_eq_false, not_false_eq_true, mgb, mga, mgr, mN, reduceCtorEq, ↓reduceIte, eq_self, ge_iff_le, gt_iff_lt, hk_si, hk_sj, hk_sr, hl_si, hl_sj, hl_sr, hn_si, hn_sj, hn_sr, hs_si, hs_sj, hs_sr, hi_sj, hi_sr, hj_si, hj_sr, hr_si, hr_sj, hi_si, hj_sj, hr_sr, mg_si, mg_sj, mg_sr, Nat.reduceAdd, Nat.reduceMul, Nat.reduceSub, Nat.reduceLT, Nat.reduceGT, Nat.reduceEqDiff, Nat.reduceLeDiff, Nat.left_eq_add, Nat.add_eq_left, Nat.reduceMod, Nat.reduceDiv, Nat.succ_ne_self, g, c333, nn_le, le, e8, e00, ei, run1, g1, t0, c333b]
  | some b =>
    rw [hq] at o8
    obtain ⟨o8, o9, o10⟩ := o8
    have ex : ∀ f, x_bi q f = f b q.2.2 := fun f => by unfold x_bi; rw [hq]
    rw [ex]
    obtain ⟨h2, y, f2, o2, run2⟩ := c_361 (d := d) (k := tK n) F1 o9 o7 w1 (a := v) (b := x) hv (by rw [o10]; exact o8)
    rw [o10] at o2
    have R2 := RRU_G f2 R1
    have f12 := fG_t f1 f2
    have rr2 : ∀ b, b ≠ 81 → mh_i h2 b = mh_i h b := fun b hb => rc_r f12 hb
    have F2 := R2.F
    have g2 := F2.g 81 14 70 (by decide +kernel)
    have z2 : mh_i h2 97 k0 = Int32.ofNat z := by rw [rr2 97 (by omega)]; exact hz
    have c333c := c_333 (d := d + 2) F2 (by omega : k < 26000) (z := 1 + ts cs) (by rw [rr2 97 (by omega)]; exact n3)
    have r19 := F1.f 81 19 93 (by decide +kernel)
    have k93 := (F1.g 93 102 26000 (by decide +kernel)).1
    have n93 := (F1.g 93 102 26000 (by decide +kernel)).2
    have l93 := F1.l 93 102 26000 (by decide +kernel)
    have step : ∀ Q, mw (d + 3) 360 Q 192 [some (.ref 81), some (.int (Int32.ofNat k0)), some (.long v), none, some (.int (Int32.ofNat k)), x5, x6] [] h = mw (d + 3) 360 Q 192 [some (.ref 81), some (.int (Int32.ofNat k0)), some (.long y), none, some (.int (Int32.ofNat (k + (1 + ts cs)))), some (.long x), none] [] h2 := fun Q => by
      rw [s_360_192]
      clear R R1 R2 F F1 F2 i0 i1 o1 o2 o7
      simp (disch := omega) only [s_360_0, s_360_1, s_360_4, s_360_7, s_360_8, s_360_9, s_360_10, s_360_13, s_360_14, s_360_15, s_360_48, s_360_49, s_360_52, s_360_53, s_360_54, s_360_55, s_360_56, s_360_57, s_360_60, s_360_61, s_360_64, s_360_65, s_360_66, s_360_69, s_360_70, s_360_71, s_360_74, s_360_75, s_360_76, s_360_77, s_360_78, s_360_79, s_360_80, s_360_81, s_360_82, s_360_83, s_360_84, s_360_87, s_360_90, s_360_91, s_360_92, s_360_95, s_360_98, s_360_99, s_360_102, s_360_103, s_360_106, s_360_107, s_360_108, s_360_109, s_360_110, s_360_111, s_360_112, s_360_113, s_360_114, s_360_115, s_360_118, s_360_119, s_360_122, s_360_123, s_360_124, s_360_127, s_360_128, s_360_129, s_360_132, s_360_133, s_360_134, s_360_135, s_360_138, s_360_139, s_360_140, s_360_143, s_360_144, s_360_145, s_360_146, s_360_147, s_360_150, s_360_151, s_360_152, s_360_155, s_360_156, s_360_157, s_360_158, s_360_159, s_360_162, s_360_163, s_360_164, s_360_167, s_360_168, s_360_171, s_360_172, s_360_173, s_360_174, s_360_175, s_360_176, s_360_177, s_360_178, s_360_179, s_360_180, s_360_181, s_360_184, s_360_185, s_360_186, s_360_187, s_360_190, s_360_194, s_360_195, s_360_196, s_360_199, s_360_202, s_360_203, s_360_206, s_360_209, s_360_210, s_360_212, s_360_213, s_360_214, s_360_217, s_360_219, s_360_220, s_360_223, s_360_226, s_360_227, s_360_228, s_360_231, s_360_233, s_360_234, s_360_235, s_360_237, s_360_240, s_360_241, s_360_242, s_360_244, s_360_247, s_360_249, s_360_252, s_360_253, e_360, mv_i_1, mv_l_1, mv_a_1, mv_a_2, mv_a_3, mk2_n, mk2_i, mk2_l, mk2_a, mk2_u, mk2_x, mB_T, mB_F, mS_cons, mS_nil, mSB_T, mSB_F, mca_nil, mca_i, mca_l, mca_r, mca_u, mca_x, mcat_i, mcat_l, mcat_r, mcat_u, mcat_x, mK_some, mK_none, va_rf_s, va_rf_n, lgc_eq, lgc_lt, lgc_gt, lgc_ge, lgc_le, mrd_104, mrd_105, mrd_106, mrd_107, true_and, and_true, and_self, false_and, and_false, true_or, or_true, false_or, or_false, not_true_eq_false, not_false_eq_true, mgb, mga, mgr, mN, reduceCtorEq, ↓reduceIte, eq_self, ge_iff_le, gt_iff_lt, hk_si, hk_sj, hk_sr, hl_si, hl_sj, hl_sr, hn_si, hn_sj, hn_sr, hs_si, hs_sj, hs_sr, hi_sj, hi_sr, hj_si, hj_sr, hr_si, hr_sj, hi_si, hj_sj, hr_sr, mg_si, mg_sj, mg_sr, Nat.reduceAdd, Nat.reduceMul, Nat.reduceSub, Nat.reduceLT, Nat.reduceGT, Nat.reduceEqDiff, Nat.reduceLeDiff, Nat.left_eq_add, Nat.add_eq_left, Nat.reduceMod, Nat.reduceDiv, Nat.succ_ne_self, g, c333, nn_le, le, e8, e00, ei, run1, g1, o9, r19, k93, n93, l93, n1', run2, g2, c333c, nn_mxT, nn_clamp]
    obtain ⟨q2, eq2⟩ : ∃ q2, x_op (tK n) v.toInt b q.2.2 = q2 := ⟨_, rfl⟩
    have oc : q2.2.2 = q.2.2 := by rw [← eq2]; exact x_op_c
    show ∃ h' x, fG rcW h h' ∧ uo (x_bi (x_op (tK n) v.toInt b q.2.2) (fun v c' => xv en V P A.rm N gv r (some v) c')) h' x ∧ _
    rw [eq2] at o2 ⊢
    have o2' := o2
    obtain ⟨p7, p8⟩ := o2'
    cases hq2 : q2.1 with
    | none =>
      rw [hq2] at p8
      have ex2 : ∀ f, x_bi q2 f = q2 := fun f => by unfold x_bi; rw [hq2]
      rw [ex2]
      have t0 : ¬ mh_i h2 81 68 = 0 := fun z => by rw [p8.2] at z; rw [z] at p8; exact absurd p8.1 (by decide)
      have fin := u_e (d := d + 1) (v := y) (k := k + (1 + ts cs)) (x5 := some (.long x)) (x6 := none) R2 z2 (by omega) (by omega) (by omega) (Or.inl t0)
      exact ⟨h2, y, f12, o2, fun Q => (step Q).trans (fin Q)⟩
    | some b2 =>
      rw [hq2] at p8
      obtain ⟨p8, p9, p10⟩ := p8
      have ex2 : ∀ f, x_bi q2 f = f b2 q2.2.2 := fun f => by unfold x_bi; rw [hq2]
      rw [ex2]
      have ka : k + (1 + ts cs) = k + 1 + ts cs := by omega
      rw [ka] at step
      obtain ⟨h3, x3, f3, o3, run3⟩ := i1 h2 (d + 3) k0 (k + 1 + ts cs) z q2.2.2 y (some (.long x)) none R2 (by rw [rr2 _ (by omega)]; exact hV) (by rw [rr2 _ (by omega)]; exact hP) (by rw [rr2 _ (by omega)]; exact hN) (by rw [rr2 _ (by omega), rr2 _ (by omega), rr2 _ (by omega)]; exact n5) w3 xb (by omega) z2 (by omega) (by omega) (by omega) (by omega) p9 p7 (by omega) (by rw [p10]; exact p8)
      rw [p10] at o3
      exact ⟨h3, x3, fG_t f12 f3, o3, fun Q => (step Q).trans (run3 Q)⟩
end UOs
