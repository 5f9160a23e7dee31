set_option maxRecDepth 100000
/-! the form's fields: a heap as far as form and findOthers change it -/
def gS (h : mh_H) (o SG : Nat) (fr mx : Int32) (sg : Nat → Int32) (fl fh li ol oh : Int64) : mh_H := (mh_k h, mh_l h, (fun b k => if b = o ∧ k = 12 then fr else if b = o ∧ k = 13 then mx else if b = SG then sg k else mh_i h b k), (fun b k => if b = o ∧ k = 14 then fl else if b = o ∧ k = 15 then fh else if b = o ∧ k = 16 then li else if b = o ∧ k = 17 then ol else if b = o ∧ k = 18 then oh else mh_j h b k), mh_r h, mh_n h, mh_s h)
section GS0
variable {h : mh_H} {o SG b k : Nat} {fr mx x : Int32} {sg : Nat → Int32} {fl fh li ol oh y : Int64}
theorem gS_k : mh_k (gS h o SG fr mx sg fl fh li ol oh) = mh_k h := nrfl rfl
theorem gS_l : mh_l (gS h o SG fr mx sg fl fh li ol oh) = mh_l h := nrfl rfl
theorem gS_r : mh_r (gS h o SG fr mx sg fl fh li ol oh) = mh_r h := nrfl rfl
theorem gS_n : mh_n (gS h o SG fr mx sg fl fh li ol oh) = mh_n h := nrfl rfl
theorem gS_g {ci : Nat} : mg (gS h o SG fr mx sg fl fh li ol oh) b ci = mg h b ci := nrfl rfl
theorem gS_i : mh_i (gS h o SG fr mx sg fl fh li ol oh) b k = if b = o ∧ k = 12 then fr else if b = o ∧ k = 13 then mx else if b = SG then sg k else mh_i h b k := nrfl rfl
theorem gS_j : mh_j (gS h o SG fr mx sg fl fh li ol oh) b k = if b = o ∧ k = 14 then fl else if b = o ∧ k = 15 then fh else if b = o ∧ k = 16 then li else if b = o ∧ k = 17 then ol else if b = o ∧ k = 18 then oh else mh_j h b k := nrfl rfl
theorem gS_12 : mh_si (gS h o SG fr mx sg fl fh li ol oh) o 12 x = gS h o SG x mx sg fl fh li ol oh := by
  have e : mh_u (fun b k => if b = o ∧ k = 12 then fr else if b = o ∧ k = 13 then mx else if b = SG then sg k else mh_i h b k) o 12 x = fun b k => if b = o ∧ k = 12 then x else if b = o ∧ k = 13 then mx else if b = SG then sg k else mh_i h b k := by
    funext b k
    unfold mh_u
    dsimp only
    by_cases c : b = o
    · subst c
      by_cases c1 : k = 12
      · subst c1; simp
      · by_cases c2 : k = 13
        · subst c2; simp
        · simp [c1, c2]
    · simp [c]
  show (mh_k h, mh_l h, mh_u (fun b k => if b = o ∧ k = 12 then fr else if b = o ∧ k = 13 then mx else if b = SG then sg k else mh_i h b k) o 12 x, _, mh_r h, mh_n h, mh_s h) = _
  rw [e]; rfl
theorem gS_13 : mh_si (gS h o SG fr mx sg fl fh li ol oh) o 13 x = gS h o SG fr x sg fl fh li ol oh := by
  have e : mh_u (fun b k => if b = o ∧ k = 12 then fr else if b = o ∧ k = 13 then mx else if b = SG then sg k else mh_i h b k) o 13 x = fun b k => if b = o ∧ k = 12 then fr else if b = o ∧ k = 13 then x else if b = SG then sg k else mh_i h b k := by
    funext b k
    unfold mh_u
    dsimp only
    by_cases c : b = o
    · subst c
      by_cases c1 : k = 12
      · subst c1; simp
      · by_cases c2 : k = 13
        · subst c2; simp
        · simp [c1, c2]
    · simp [c]
  show (mh_k h, mh_l h, mh_u (fun b k => if b = o ∧ k = 12 then fr else if b = o ∧ k = 13 then mx else if b = SG then sg k else mh_i h b k) o 13 x, _, mh_r h, mh_n h, mh_s h) = _
  rw [e]; rfl
theorem gS_SG (hs : ¬ SG = o) {j : Nat} : mh_si (gS h o SG fr mx sg fl fh li ol oh) SG j x = gS h o SG fr mx (up sg j x) fl fh li ol oh := by
  have e : mh_u (fun b k => if b = o ∧ k = 12 then fr else if b = o ∧ k = 13 then mx else if b = SG then sg k else mh_i h b k) SG j x = fun b k => if b = o ∧ k = 12 then fr else if b = o ∧ k = 13 then mx else if b = SG then up sg j x k else mh_i h b k := by
    funext b k
    unfold mh_u up
    dsimp only
    by_cases c : b = SG
    · subst c
      by_cases c1 : k = j
      · subst c1; simp [hs]
      · simp [hs, c1]
    · simp [c]
  show (mh_k h, mh_l h, mh_u (fun b k => if b = o ∧ k = 12 then fr else if b = o ∧ k = 13 then mx else if b = SG then sg k else mh_i h b k) SG j x, _, mh_r h, mh_n h, mh_s h) = _
  rw [e]; rfl
theorem gS_14 : mh_sj (gS h o SG fr mx sg fl fh li ol oh) o 14 y = gS h o SG fr mx sg y fh li ol oh := by
  have e : mh_u (fun b k => if b = o ∧ k = 14 then fl else if b = o ∧ k = 15 then fh else if b = o ∧ k = 16 then li else if b = o ∧ k = 17 then ol else if b = o ∧ k = 18 then oh else mh_j h b k) o 14 y = fun b k => if b = o ∧ k = 14 then y else if b = o ∧ k = 15 then fh else if b = o ∧ k = 16 then li else if b = o ∧ k = 17 then ol else if b = o ∧ k = 18 then oh else mh_j h b k := by
    funext b k
    unfold mh_u
    dsimp only
    by_cases c : b = o
    · subst c
      by_cases c1 : k = 14
      · subst c1; simp
      · by_cases c2 : k = 15
        · subst c2; simp
        · by_cases c3 : k = 16
          · subst c3; simp
          · by_cases c4 : k = 17
            · subst c4; simp
            · by_cases c5 : k = 18
              · subst c5; simp
              · simp [c1, c2, c3, c4, c5]
    · simp [c]
  show (mh_k h, mh_l h, _, mh_u (fun b k => if b = o ∧ k = 14 then fl else if b = o ∧ k = 15 then fh else if b = o ∧ k = 16 then li else if b = o ∧ k = 17 then ol else if b = o ∧ k = 18 then oh else mh_j h b k) o 14 y, mh_r h, mh_n h, mh_s h) = _
  rw [e]; rfl
theorem gS_15 : mh_sj (gS h o SG fr mx sg fl fh li ol oh) o 15 y = gS h o SG fr mx sg fl y li ol oh := by
  have e : mh_u (fun b k => if b = o ∧ k = 14 then fl else if b = o ∧ k = 15 then fh else if b = o ∧ k = 16 then li else if b = o ∧ k = 17 then ol else if b = o ∧ k = 18 then oh else mh_j h b k) o 15 y = fun b k => if b = o ∧ k = 14 then fl else if b = o ∧ k = 15 then y else if b = o ∧ k = 16 then li else if b = o ∧ k = 17 then ol else if b = o ∧ k = 18 then oh else mh_j h b k := by
    funext b k
    unfold mh_u
    dsimp only
    by_cases c : b = o
    · subst c
      by_cases c1 : k = 14
      · subst c1; simp
      · by_cases c2 : k = 15
        · subst c2; simp
        · by_cases c3 : k = 16
          · subst c3; simp
          · by_cases c4 : k = 17
            · subst c4; simp
            · by_cases c5 : k = 18
              · subst c5; simp
              · simp [c1, c2, c3, c4, c5]
    · simp [c]
  show (mh_k h, mh_l h, _, mh_u (fun b k => if b = o ∧ k = 14 then fl else if b = o ∧ k = 15 then fh else if b = o ∧ k = 16 then li else if b = o ∧ k = 17 then ol else if b = o ∧ k = 18 then oh else mh_j h b k) o 15 y, mh_r h, mh_n h, mh_s h) = _
  rw [e]; rfl
theorem gS_16 : mh_sj (gS h o SG fr mx sg fl fh li ol oh) o 16 y = gS h o SG fr mx sg fl fh y ol oh := by
  have e : mh_u (fun b k => if b = o ∧ k = 14 then fl else if b = o ∧ k = 15 then fh else if b = o ∧ k = 16 then li else if b = o ∧ k = 17 then ol else if b = o ∧ k = 18 then oh else mh_j h b k) o 16 y = fun b k => if b = o ∧ k = 14 then fl else if b = o ∧ k = 15 then fh else if b = o ∧ k = 16 then y else if b = o ∧ k = 17 then ol else if b = o ∧ k = 18 then oh else mh_j h b k := by
    funext b k
    unfold mh_u
    dsimp only
    by_cases c : b = o
    · subst c
      by_cases c1 : k = 14
      · subst c1; simp
      · by_cases c2 : k = 15
        · subst c2; simp
        · by_cases c3 : k = 16
          · subst c3; simp
          · by_cases c4 : k = 17
            · subst c4; simp
            · by_cases c5 : k = 18
              · subst c5; simp
              · simp [c1, c2, c3, c4, c5]
    · simp [c]
  show (mh_k h, mh_l h, _, mh_u (fun b k => if b = o ∧ k = 14 then fl else if b = o ∧ k = 15 then fh else if b = o ∧ k = 16 then li else if b = o ∧ k = 17 then ol else if b = o ∧ k = 18 then oh else mh_j h b k) o 16 y, mh_r h, mh_n h, mh_s h) = _
  rw [e]; rfl
theorem gS_17 : mh_sj (gS h o SG fr mx sg fl fh li ol oh) o 17 y = gS h o SG fr mx sg fl fh li y oh := by
  have e : mh_u (fun b k => if b = o ∧ k = 14 then fl else if b = o ∧ k = 15 then fh else if b = o ∧ k = 16 then li else if b = o ∧ k = 17 then ol else if b = o ∧ k = 18 then oh else mh_j h b k) o 17 y = fun b k => if b = o ∧ k = 14 then fl else if b = o ∧ k = 15 then fh else if b = o ∧ k = 16 then li else if b = o ∧ k = 17 then y else if b = o ∧ k = 18 then oh else mh_j h b k := by
    funext b k
    unfold mh_u
    dsimp only
    by_cases c : b = o
    · subst c
      by_cases c1 : k = 14
      · subst c1; simp
      · by_cases c2 : k = 15
        · subst c2; simp
        · by_cases c3 : k = 16
          · subst c3; simp
          · by_cases c4 : k = 17
            · subst c4; simp
            · by_cases c5 : k = 18
              · subst c5; simp
              · simp [c1, c2, c3, c4, c5]
    · simp [c]
  show (mh_k h, mh_l h, _, mh_u (fun b k => if b = o ∧ k = 14 then fl else if b = o ∧ k = 15 then fh else if b = o ∧ k = 16 then li else if b = o ∧ k = 17 then ol else if b = o ∧ k = 18 then oh else mh_j h b k) o 17 y, mh_r h, mh_n h, mh_s h) = _
  rw [e]; rfl
theorem gS_18 : mh_sj (gS h o SG fr mx sg fl fh li ol oh) o 18 y = gS h o SG fr mx sg fl fh li ol y := by
  have e : mh_u (fun b k => if b = o ∧ k = 14 then fl else if b = o ∧ k = 15 then fh else if b = o ∧ k = 16 then li else if b = o ∧ k = 17 then ol else if b = o ∧ k = 18 then oh else mh_j h b k) o 18 y = fun b k => if b = o ∧ k = 14 then fl else if b = o ∧ k = 15 then fh else if b = o ∧ k = 16 then li else if b = o ∧ k = 17 then ol else if b = o ∧ k = 18 then y else mh_j h b k := by
    funext b k
    unfold mh_u
    dsimp only
    by_cases c : b = o
    · subst c
      by_cases c1 : k = 14
      · subst c1; simp
      · by_cases c2 : k = 15
        · subst c2; simp
        · by_cases c3 : k = 16
          · subst c3; simp
          · by_cases c4 : k = 17
            · subst c4; simp
            · by_cases c5 : k = 18
              · subst c5; simp
              · simp [c1, c2, c3, c4, c5]
    · simp [c]
  show (mh_k h, mh_l h, _, mh_u (fun b k => if b = o ∧ k = 14 then fl else if b = o ∧ k = 15 then fh else if b = o ∧ k = 16 then li else if b = o ∧ k = 17 then ol else if b = o ∧ k = 18 then oh else mh_j h b k) o 18 y, mh_r h, mh_n h, mh_s h) = _
  rw [e]; rfl
theorem gS_id : gS h o SG (mh_i h o 12) (mh_i h o 13) (mh_i h SG) (mh_j h o 14) (mh_j h o 15) (mh_j h o 16) (mh_j h o 17) (mh_j h o 18) = h := by
  have e1 : (fun b k => if b = o ∧ k = 12 then mh_i h o 12 else if b = o ∧ k = 13 then mh_i h o 13 else if b = SG then mh_i h SG k else mh_i h b k) = mh_i h := by
    funext b k
    by_cases c : b = o
    · subst c
      by_cases c1 : k = 12
      · subst c1; simp
      · by_cases c2 : k = 13
        · subst c2; simp
        · simp [c1, c2]
          intro z; rw [← z]
    · simp [c]
      intro z; rw [z]
  have e2 : (fun b k => if b = o ∧ k = 14 then mh_j h o 14 else if b = o ∧ k = 15 then mh_j h o 15 else if b = o ∧ k = 16 then mh_j h o 16 else if b = o ∧ k = 17 then mh_j h o 17 else if b = o ∧ k = 18 then mh_j h o 18 else mh_j h b k) = mh_j h := by
    funext b k
    by_cases c : b = o
    · subst c
      by_cases c1 : k = 14
      · subst c1; simp
      · by_cases c2 : k = 15
        · subst c2; simp
        · by_cases c3 : k = 16
          · subst c3; simp
          · by_cases c4 : k = 17
            · subst c4; simp
            · by_cases c5 : k = 18
              · subst c5; simp
              · simp [c1, c2, c3, c4, c5]
    · simp [c]
  unfold gS
  rw [e1, e2]; rfl
theorem gS_fq : fq (fun b => b = o ∨ b = SG) h (gS h o SG fr mx sg fl fh li ol oh) := ⟨rfl, rfl, rfl, rfl, rfl, fun b hb => ⟨fun j => by
  have h1 : ¬ b = o := fun z => hb (Or.inl z)
  have h2 : ¬ b = SG := fun z => hb (Or.inr z)
  rw [gS_i]; simp [h1, h2], fun j => by
  have h1 : ¬ b = o := fun z => hb (Or.inl z)
  rw [gS_j]; simp [h1]⟩⟩
end GS0
/-- isFree -/
def sF (x : Int32) : Bool := decide (x = 1 ∨ x = -1)
section FRM
variable {d : Nat} {Q : Option Value → mh_H → Prop} {h : mh_H} {o SG : Nat} {fr mx : Int32} {sg : Nat → Int32} {fl fh li ol oh : Int64}
theorem c_114 (g : mg h o 5) (r11 : mh_r h o 11 = some SG) (gS' : mg h SG 100) (lS : mh_l h SG = 12) {x : Nat} (hx : x < 12) : mcall d 114 [.ref o, .int (Int32.ofNat x)] (gS h o SG fr mx sg fl fh li ol oh) Q = Q (some (.int (kb (sF (sg x))))) (gS h o SG fr mx sg fl fh li ol oh) := by
  have nS : ¬ SG = o := fun z => by have := g.1; have := gS'.1; rw [z] at *; omega
  generalize hv : sg x = v
  by_cases c1 : v = 1
  · have e : kb (sF v) = 1 := by rw [c1]; decide
    have hv' : sg x = 1 := hv.trans c1
    rw [e]
    simp (disch := omega) only [s_114_0, s_114_1, s_114_4, s_114_5, s_114_6, s_114_7, s_114_10, s_114_11, s_114_14, s_114_15, s_114_16, s_114_17, s_114_20, s_114_21, s_114_24, s_114_25, e_114, mv_i_1, mv_l_1, mv_a_1, mv_a_2, mv_a_3, mk2_n, mk2_i, mk2_l, mk2_a, mk2_u, mk2_x, mB_T, mB_F, mS_cons, mS_nil, mSB_T, mSB_F, mca_nil, mca_i, mca_l, mca_r, mca_u, mca_x, mcat_i, mcat_l, mcat_r, mcat_u, mcat_x, mK_some, mK_none, va_rf_s, va_rf_n, lgc_eq, lgc_lt, lgc_gt, lgc_ge, lgc_le, mrd_104, mrd_105, mrd_106, mrd_107, true_and, and_true, and_self, false_and, and_false, true_or, or_true, false_or, or_false, not_true_eq_false, not_false_eq_true, mgb, mga, mgr, mN, reduceCtorEq, ↓reduceIte, eq_self, ge_iff_le, gt_iff_lt, Nat.reduceAdd, Nat.reduceMul, Nat.reduceSub, Nat.reduceLT, Nat.reduceGT, Nat.reduceEqDiff, Nat.reduceLeDiff, Nat.left_eq_add, Nat.add_eq_left, Nat.reduceMod, Nat.reduceDiv, Nat.succ_ne_self, gS_g, gS_i, gS_k, gS_n, gS_r, gS_l, g, r11, gS', lS, nS, nn_mxT, nn_clamp, hv']
  · by_cases c2 : v = -1
    · have e : kb (sF v) = 1 := by rw [c2]; decide
      have hv' : sg x = -1 := hv.trans c2
      rw [e]
      simp (disch := omega) only [s_114_0, s_114_1, s_114_4, s_114_5, s_114_6, s_114_7, s_114_10, s_114_11, s_114_14, s_114_15, s_114_16, s_114_17, s_114_20, s_114_21, s_114_24, s_114_25, e_114, mv_i_1, mv_l_1, mv_a_1, mv_a_2, mv_a_3, mk2_n, mk2_i, mk2_l, mk2_a, mk2_u, mk2_x, mB_T, mB_F, mS_cons, mS_nil, mSB_T, mSB_F, mca_nil, mca_i, mca_l, mca_r, mca_u, mca_x, mcat_i, mcat_l, mcat_r, mcat_u, mcat_x, mK_some, mK_none, va_rf_s, va_rf_n, lgc_eq, lgc_lt, lgc_gt, lgc_ge, lgc_le, mrd_104, mrd_105, mrd_106, mrd_107, true_and, and_true, and_self, false_and, and_false, true_or, or_true, false_or, or_false, not_true_eq_false, not_false_eq_true, mgb, mga, mgr, mN, reduceCtorEq, ↓reduceIte, eq_self, ge_iff_le, gt_iff_lt, Nat.reduceAdd, Nat.reduceMul, Nat.reduceSub, Nat.reduceLT, Nat.reduceGT, Nat.reduceEqDiff, Nat.reduceLeDiff, Nat.left_eq_add, Nat.add_eq_left, Nat.reduceMod, Nat.reduceDiv, Nat.succ_ne_self, gS_g, gS_i, gS_k, gS_n, gS_r, gS_l, g, r11, gS', lS, nS, nn_mxT, nn_clamp, hv', show ((-1 : Int32) = 1) = False by decide]
    · have e : kb (sF v) = 0 := by
        have : sF v = false := decide_eq_false (fun z => z.elim c1 c2)
        rw [this]; rfl
      rw [e]
      simp (disch := omega) only [s_114_0, s_114_1, s_114_4, s_114_5, s_114_6, s_114_7, s_114_10, s_114_11, s_114_14, s_114_15, s_114_16, s_114_17, s_114_20, s_114_21, s_114_24, s_114_25, e_114, mv_i_1, mv_l_1, mv_a_1, mv_a_2, mv_a_3, mk2_n, mk2_i, mk2_l, mk2_a, mk2_u, mk2_x, mB_T, mB_F, mS_cons, mS_nil, mSB_T, mSB_F, mca_nil, mca_i, mca_l, mca_r, mca_u, mca_x, mcat_i, mcat_l, mcat_r, mcat_u, mcat_x, mK_some, mK_none, va_rf_s, va_rf_n, lgc_eq, lgc_lt, lgc_gt, lgc_ge, lgc_le, mrd_104, mrd_105, mrd_106, mrd_107, true_and, and_true, and_self, false_and, and_false, true_or, or_true, false_or, or_false, not_true_eq_false, not_false_eq_true, mgb, mga, mgr, mN, reduceCtorEq, ↓reduceIte, eq_self, ge_iff_le, gt_iff_lt, Nat.reduceAdd, Nat.reduceMul, Nat.reduceSub, Nat.reduceLT, Nat.reduceGT, Nat.reduceEqDiff, Nat.reduceLeDiff, Nat.left_eq_add, Nat.add_eq_left, Nat.reduceMod, Nat.reduceDiv, Nat.succ_ne_self, gS_g, gS_i, gS_k, gS_n, gS_r, gS_l, g, r11, gS', lS, nS, nn_mxT, nn_clamp, hv, c1, c2]
end FRM
