set_option maxRecDepth 100000
/-! the class's machine: its small methods -/
def mcW (b j : Nat) : Prop := b = 72 ∨ (b = 67 ∧ (j = 3 ∨ j = 10 ∨ j = 12))
/-- what stands while a SUM is reckoned -/
def MB (h : mh_H) (Y C SC nC nS nb na p gv : Nat) : Prop := (mg h 67 2) ∧ (mh_r h 67 0 = some 2) ∧ (mh_r h 67 1 = some 68) ∧ (mh_r h 67 6 = some 69) ∧ (mh_r h 67 7 = some 70) ∧ (mh_r h 67 11 = some 72) ∧ (mg h 2 4) ∧ (mh_r h 2 1 = some Y) ∧ (mh_r h 2 4 = some 21) ∧ (mh_r h 2 5 = some 22) ∧ (mg h Y 7) ∧ (mh_r h Y 0 = some C) ∧ (mh_r h Y 6 = some SC) ∧ (mg h C 100) ∧ (mh_l h C = nC) ∧ (mg h SC 100) ∧ (mh_l h SC = nS) ∧ (mg h 21 100) ∧ (mh_l h 21 = 250) ∧ (mg h 22 100) ∧ (mh_l h 22 = 250) ∧ (mg h 68 100) ∧ (mh_l h 68 = 1000) ∧ (mg h 69 100) ∧ (mh_l h 69 = 12) ∧ (mg h 70 100) ∧ (mh_l h 70 = 384) ∧ (mg h 72 100) ∧ (mh_l h 72 = 124) ∧ (mh_i h 67 4 = Int32.ofNat p) ∧ (mh_i h 21 p = Int32.ofNat nb) ∧ (mh_i h 22 p = Int32.ofNat na) ∧ (mh_i h 67 2 = Int32.ofNat gv) ∧ (p < 250) ∧ (gv ≤ 1000) ∧ (nC < 1000000) ∧ (nS < 1000000) ∧ (C ≠ 72 ∧ C ≠ 67 ∧ SC ≠ 72 ∧ SC ≠ 67 ∧ True)
theorem MB.of {h : mh_H} {Y C SC nC nS nb na p gv : Nat} (q : (mg h 67 2) ∧ (mh_r h 67 0 = some 2) ∧ (mh_r h 67 1 = some 68) ∧ (mh_r h 67 6 = some 69) ∧ (mh_r h 67 7 = some 70) ∧ (mh_r h 67 11 = some 72) ∧ (mg h 2 4) ∧ (mh_r h 2 1 = some Y) ∧ (mh_r h 2 4 = some 21) ∧ (mh_r h 2 5 = some 22) ∧ (mg h Y 7) ∧ (mh_r h Y 0 = some C) ∧ (mh_r h Y 6 = some SC) ∧ (mg h C 100) ∧ (mh_l h C = nC) ∧ (mg h SC 100) ∧ (mh_l h SC = nS) ∧ (mg h 21 100) ∧ (mh_l h 21 = 250) ∧ (mg h 22 100) ∧ (mh_l h 22 = 250) ∧ (mg h 68 100) ∧ (mh_l h 68 = 1000) ∧ (mg h 69 100) ∧ (mh_l h 69 = 12) ∧ (mg h 70 100) ∧ (mh_l h 70 = 384) ∧ (mg h 72 100) ∧ (mh_l h 72 = 124) ∧ (mh_i h 67 4 = Int32.ofNat p) ∧ (mh_i h 21 p = Int32.ofNat nb) ∧ (mh_i h 22 p = Int32.ofNat na) ∧ (mh_i h 67 2 = Int32.ofNat gv) ∧ (p < 250) ∧ (gv ≤ 1000) ∧ (nC < 1000000) ∧ (nS < 1000000) ∧ (C ≠ 72 ∧ C ≠ 67 ∧ SC ≠ 72 ∧ SC ≠ 67 ∧ True)) : MB h Y C SC nC nS nb na p gv := q
theorem MB.g {h : mh_H} {Y C SC nC nS nb na p gv : Nat} (q : MB h Y C SC nC nS nb na p gv) : mg h 67 2 := q.1
theorem MB.r0 {h : mh_H} {Y C SC nC nS nb na p gv : Nat} (q : MB h Y C SC nC nS nb na p gv) : mh_r h 67 0 = some 2 := q.2.1
theorem MB.r1 {h : mh_H} {Y C SC nC nS nb na p gv : Nat} (q : MB h Y C SC nC nS nb na p gv) : mh_r h 67 1 = some 68 := q.2.2.1
theorem MB.r6 {h : mh_H} {Y C SC nC nS nb na p gv : Nat} (q : MB h Y C SC nC nS nb na p gv) : mh_r h 67 6 = some 69 := q.2.2.2.1
theorem MB.r7 {h : mh_H} {Y C SC nC nS nb na p gv : Nat} (q : MB h Y C SC nC nS nb na p gv) : mh_r h 67 7 = some 70 := q.2.2.2.2.1
theorem MB.r11 {h : mh_H} {Y C SC nC nS nb na p gv : Nat} (q : MB h Y C SC nC nS nb na p gv) : mh_r h 67 11 = some 72 := q.2.2.2.2.2.1
theorem MB.g2 {h : mh_H} {Y C SC nC nS nb na p gv : Nat} (q : MB h Y C SC nC nS nb na p gv) : mg h 2 4 := q.2.2.2.2.2.2.1
theorem MB.r21 {h : mh_H} {Y C SC nC nS nb na p gv : Nat} (q : MB h Y C SC nC nS nb na p gv) : mh_r h 2 1 = some Y := q.2.2.2.2.2.2.2.1
theorem MB.r24 {h : mh_H} {Y C SC nC nS nb na p gv : Nat} (q : MB h Y C SC nC nS nb na p gv) : mh_r h 2 4 = some 21 := q.2.2.2.2.2.2.2.2.1
theorem MB.r25 {h : mh_H} {Y C SC nC nS nb na p gv : Nat} (q : MB h Y C SC nC nS nb na p gv) : mh_r h 2 5 = some 22 := q.2.2.2.2.2.2.2.2.2.1
theorem MB.gY {h : mh_H} {Y C SC nC nS nb na p gv : Nat} (q : MB h Y C SC nC nS nb na p gv) : mg h Y 7 := q.2.2.2.2.2.2.2.2.2.2.1
theorem MB.y0 {h : mh_H} {Y C SC nC nS nb na p gv : Nat} (q : MB h Y C SC nC nS nb na p gv) : mh_r h Y 0 = some C := q.2.2.2.2.2.2.2.2.2.2.2.1
theorem MB.y6 {h : mh_H} {Y C SC nC nS nb na p gv : Nat} (q : MB h Y C SC nC nS nb na p gv) : mh_r h Y 6 = some SC := q.2.2.2.2.2.2.2.2.2.2.2.2.1
theorem MB.gC {h : mh_H} {Y C SC nC nS nb na p gv : Nat} (q : MB h Y C SC nC nS nb na p gv) : mg h C 100 := q.2.2.2.2.2.2.2.2.2.2.2.2.2.1
theorem MB.lC {h : mh_H} {Y C SC nC nS nb na p gv : Nat} (q : MB h Y C SC nC nS nb na p gv) : mh_l h C = nC := q.2.2.2.2.2.2.2.2.2.2.2.2.2.2.1
theorem MB.gS {h : mh_H} {Y C SC nC nS nb na p gv : Nat} (q : MB h Y C SC nC nS nb na p gv) : mg h SC 100 := q.2.2.2.2.2.2.2.2.2.2.2.2.2.2.2.1
theorem MB.lS {h : mh_H} {Y C SC nC nS nb na p gv : Nat} (q : MB h Y C SC nC nS nb na p gv) : mh_l h SC = nS := q.2.2.2.2.2.2.2.2.2.2.2.2.2.2.2.2.1
theorem MB.g21 {h : mh_H} {Y C SC nC nS nb na p gv : Nat} (q : MB h Y C SC nC nS nb na p gv) : mg h 21 100 := q.2.2.2.2.2.2.2.2.2.2.2.2.2.2.2.2.2.1
theorem MB.l21 {h : mh_H} {Y C SC nC nS nb na p gv : Nat} (q : MB h Y C SC nC nS nb na p gv) : mh_l h 21 = 250 := q.2.2.2.2.2.2.2.2.2.2.2.2.2.2.2.2.2.2.1
theorem MB.g22 {h : mh_H} {Y C SC nC nS nb na p gv : Nat} (q : MB h Y C SC nC nS nb na p gv) : mg h 22 100 := q.2.2.2.2.2.2.2.2.2.2.2.2.2.2.2.2.2.2.2.1
theorem MB.l22 {h : mh_H} {Y C SC nC nS nb na p gv : Nat} (q : MB h Y C SC nC nS nb na p gv) : mh_l h 22 = 250 := q.2.2.2.2.2.2.2.2.2.2.2.2.2.2.2.2.2.2.2.2.1
theorem MB.g68 {h : mh_H} {Y C SC nC nS nb na p gv : Nat} (q : MB h Y C SC nC nS nb na p gv) : mg h 68 100 := q.2.2.2.2.2.2.2.2.2.2.2.2.2.2.2.2.2.2.2.2.2.1
theorem MB.l68 {h : mh_H} {Y C SC nC nS nb na p gv : Nat} (q : MB h Y C SC nC nS nb na p gv) : mh_l h 68 = 1000 := q.2.2.2.2.2.2.2.2.2.2.2.2.2.2.2.2.2.2.2.2.2.2.1
theorem MB.g69 {h : mh_H} {Y C SC nC nS nb na p gv : Nat} (q : MB h Y C SC nC nS nb na p gv) : mg h 69 100 := q.2.2.2.2.2.2.2.2.2.2.2.2.2.2.2.2.2.2.2.2.2.2.2.1
theorem MB.l69 {h : mh_H} {Y C SC nC nS nb na p gv : Nat} (q : MB h Y C SC nC nS nb na p gv) : mh_l h 69 = 12 := q.2.2.2.2.2.2.2.2.2.2.2.2.2.2.2.2.2.2.2.2.2.2.2.2.1
theorem MB.g70 {h : mh_H} {Y C SC nC nS nb na p gv : Nat} (q : MB h Y C SC nC nS nb na p gv) : mg h 70 100 := q.2.2.2.2.2.2.2.2.2.2.2.2.2.2.2.2.2.2.2.2.2.2.2.2.2.1
theorem MB.l70 {h : mh_H} {Y C SC nC nS nb na p gv : Nat} (q : MB h Y C SC nC nS nb na p gv) : mh_l h 70 = 384 := q.2.2.2.2.2.2.2.2.2.2.2.2.2.2.2.2.2.2.2.2.2.2.2.2.2.2.1
theorem MB.g72 {h : mh_H} {Y C SC nC nS nb na p gv : Nat} (q : MB h Y C SC nC nS nb na p gv) : mg h 72 100 := q.2.2.2.2.2.2.2.2.2.2.2.2.2.2.2.2.2.2.2.2.2.2.2.2.2.2.2.1
theorem MB.l72 {h : mh_H} {Y C SC nC nS nb na p gv : Nat} (q : MB h Y C SC nC nS nb na p gv) : mh_l h 72 = 124 := q.2.2.2.2.2.2.2.2.2.2.2.2.2.2.2.2.2.2.2.2.2.2.2.2.2.2.2.2.1
theorem MB.p4 {h : mh_H} {Y C SC nC nS nb na p gv : Nat} (q : MB h Y C SC nC nS nb na p gv) : mh_i h 67 4 = Int32.ofNat p := q.2.2.2.2.2.2.2.2.2.2.2.2.2.2.2.2.2.2.2.2.2.2.2.2.2.2.2.2.2.1
theorem MB.i21 {h : mh_H} {Y C SC nC nS nb na p gv : Nat} (q : MB h Y C SC nC nS nb na p gv) : mh_i h 21 p = Int32.ofNat nb := q.2.2.2.2.2.2.2.2.2.2.2.2.2.2.2.2.2.2.2.2.2.2.2.2.2.2.2.2.2.2.1
theorem MB.i22 {h : mh_H} {Y C SC nC nS nb na p gv : Nat} (q : MB h Y C SC nC nS nb na p gv) : mh_i h 22 p = Int32.ofNat na := q.2.2.2.2.2.2.2.2.2.2.2.2.2.2.2.2.2.2.2.2.2.2.2.2.2.2.2.2.2.2.2.1
theorem MB.i2 {h : mh_H} {Y C SC nC nS nb na p gv : Nat} (q : MB h Y C SC nC nS nb na p gv) : mh_i h 67 2 = Int32.ofNat gv := q.2.2.2.2.2.2.2.2.2.2.2.2.2.2.2.2.2.2.2.2.2.2.2.2.2.2.2.2.2.2.2.2.1
theorem MB.pb {h : mh_H} {Y C SC nC nS nb na p gv : Nat} (q : MB h Y C SC nC nS nb na p gv) : p < 250 := q.2.2.2.2.2.2.2.2.2.2.2.2.2.2.2.2.2.2.2.2.2.2.2.2.2.2.2.2.2.2.2.2.2.1
theorem MB.gb {h : mh_H} {Y C SC nC nS nb na p gv : Nat} (q : MB h Y C SC nC nS nb na p gv) : gv ≤ 1000 := q.2.2.2.2.2.2.2.2.2.2.2.2.2.2.2.2.2.2.2.2.2.2.2.2.2.2.2.2.2.2.2.2.2.2.1
theorem MB.bC {h : mh_H} {Y C SC nC nS nb na p gv : Nat} (q : MB h Y C SC nC nS nb na p gv) : nC < 1000000 := q.2.2.2.2.2.2.2.2.2.2.2.2.2.2.2.2.2.2.2.2.2.2.2.2.2.2.2.2.2.2.2.2.2.2.2.1
theorem MB.bS {h : mh_H} {Y C SC nC nS nb na p gv : Nat} (q : MB h Y C SC nC nS nb na p gv) : nS < 1000000 := q.2.2.2.2.2.2.2.2.2.2.2.2.2.2.2.2.2.2.2.2.2.2.2.2.2.2.2.2.2.2.2.2.2.2.2.2.1
theorem MB.ne {h : mh_H} {Y C SC nC nS nb na p gv : Nat} (q : MB h Y C SC nC nS nb na p gv) : C ≠ 72 ∧ C ≠ 67 ∧ SC ≠ 72 ∧ SC ≠ 67 ∧ True := q.2.2.2.2.2.2.2.2.2.2.2.2.2.2.2.2.2.2.2.2.2.2.2.2.2.2.2.2.2.2.2.2.2.2.2.2.2
section MBs
variable {d : Nat} {h h1 : mh_H} {Y C SC nC nS nb na p gv H c : Nat} {x w : Int32} {W : Nat → Nat → Prop}
theorem fG_me (f : fG W h h1) {b c : Nat} : mg h1 b c = mg h b c := by unfold mg; rw [f.1, f.2.2.2.1]
theorem MB_G (f : fG mcW h h1) (B : MB h Y C SC nC nS nb na p gv) : MB h1 Y C SC nC nS nb na p gv := by
  have i := f.2.2.2.2.2
  have hne := B.ne
  refine MB.of ⟨?_, ?_, ?_, ?_, ?_, ?_, ?_, ?_, ?_, ?_, ?_, ?_, ?_, ?_, ?_, ?_, ?_, ?_, ?_, ?_, ?_, ?_, ?_, ?_, ?_, ?_, ?_, ?_, ?_, ?_, ?_, ?_, ?_, B.pb, B.gb, B.bC, B.bS, B.ne⟩
  · rw [fG_me f]; exact B.g
  · rw [f.2.2.1]; exact B.r0
  · rw [f.2.2.1]; exact B.r1
  · rw [f.2.2.1]; exact B.r6
  · rw [f.2.2.1]; exact B.r7
  · rw [f.2.2.1]; exact B.r11
  · rw [fG_me f]; exact B.g2
  · rw [f.2.2.1]; exact B.r21
  · rw [f.2.2.1]; exact B.r24
  · rw [f.2.2.1]; exact B.r25
  · rw [fG_me f]; exact B.gY
  · rw [f.2.2.1]; exact B.y0
  · rw [f.2.2.1]; exact B.y6
  · rw [fG_me f]; exact B.gC
  · rw [f.2.1]; exact B.lC
  · rw [fG_me f]; exact B.gS
  · rw [f.2.1]; exact B.lS
  · rw [fG_me f]; exact B.g21
  · rw [f.2.1]; exact B.l21
  · rw [fG_me f]; exact B.g22
  · rw [f.2.1]; exact B.l22
  · rw [fG_me f]; exact B.g68
  · rw [f.2.1]; exact B.l68
  · rw [fG_me f]; exact B.g69
  · rw [f.2.1]; exact B.l69
  · rw [fG_me f]; exact B.g70
  · rw [f.2.1]; exact B.l70
  · rw [fG_me f]; exact B.g72
  · rw [f.2.1]; exact B.l72
  · rw [(i 67 4 (by unfold mcW; omega)).1]; exact B.p4
  · rw [(i 21 p (by unfold mcW; omega)).1]; exact B.i21
  · rw [(i 22 p (by unfold mcW; omega)).1]; exact B.i22
  · rw [(i 67 2 (by unfold mcW; omega)).1]; exact B.i2
theorem MB_i (f : fG mcW h h1) {b : Nat} (hb : b ≠ 72 ∧ b ≠ 67) : mh_i h1 b = mh_i h b := funext fun j => (f.2.2.2.2.2 b j (by unfold mcW; omega)).1
/-- push -/
def psH (h : mh_H) (H : Nat) (x : Int32) : mh_H := mh_si (mh_si h 72 H x) 67 12 (Int32.ofNat (H + 1))
theorem psH_f : fG mcW h (psH h H x) := fG_t (fG_si (Or.inl rfl)) (fG_si (Or.inr ⟨rfl, by omega⟩))
theorem psH_3 : mh_i (psH h H x) 67 3 = mh_i h 67 3 := by unfold psH; rw [hi_si, if_neg (by omega), hi_si, if_neg (by omega)]
theorem psH_10 : mh_i (psH h H x) 67 10 = mh_i h 67 10 := by unfold psH; rw [hi_si, if_neg (by omega), hi_si, if_neg (by omega)]
theorem psH_12 : mh_i (psH h H x) 67 12 = Int32.ofNat (H + 1) := by unfold psH; rw [hi_si, if_pos ⟨rfl, rfl⟩]
theorem psH_s : mh_i (psH h H x) 72 H = x := by unfold psH; rw [hi_si, if_neg (by omega), hi_si, if_pos ⟨rfl, rfl⟩]
theorem psH_l {i : Nat} (hi : i < H) : mh_i (psH h H x) 72 i = mh_i h 72 i := by unfold psH; rw [hi_si, if_neg (by omega), hi_si, if_neg (by omega)]
theorem c_38 (B : MB h Y C SC nC nS nb na p gv) (e : mh_i h 67 12 = Int32.ofNat H) (hH : H < 124) : ∀ Q, mcall d 38 [.ref 67, .int x] h Q = Q none (psH h H x) := fun Q => by
  have g := B.g
  have r11 := B.r11
  have g72 := B.g72
  have l72 := B.l72
  have ei : Int32.ofNat H + 1 = Int32.ofNat (H + 1) := nn_add (a := H) (b := 1)
  unfold psH
  clear B
  simp (disch := omega) only [s_38_0, s_38_1, s_38_4, s_38_5, s_38_8, s_38_9, s_38_10, s_38_11, s_38_12, s_38_15, s_38_16, s_38_17, s_38_20, e_38, mv_i_1, mv_l_1, mv_a_1, mv_a_2, mv_a_3, mk2_n, mk2_i, mk2_l, mk2_a, mk2_u, mk2_x, mB_T, mB_F, mS_cons, mS_nil, mSB_T, mSB_F, mca_nil, mca_i, mca_l, mca_r, mca_u, mca_x, mcat_i, mcat_l, mcat_r, mcat_u, mcat_x, mK_some, mK_none, va_rf_s, va_rf_n, lgc_eq, lgc_lt, lgc_gt, lgc_ge, lgc_le, mrd_104, mrd_105, mrd_106, mrd_107, true_and, and_true, and_self, false_and, and_false, true_or, or_true, false_or, or_false, not_true_eq_false, not_false_eq_true, mgb, mga, mgr, mN, reduceCtorEq, ↓reduceIte, eq_self, ge_iff_le, gt_iff_lt, hk_si, hk_sj, hk_sr, hl_si, hl_sj, hl_sr, hn_si, hn_sj, hn_sr, hs_si, hs_sj, hs_sr, hi_sj, hi_sr, hj_si, hj_sr, hr_si, hr_sj, hi_si, hj_sj, hr_sr, mg_si, mg_sj, mg_sr, Nat.reduceAdd, Nat.reduceMul, Nat.reduceSub, Nat.reduceLT, Nat.reduceGT, Nat.reduceEqDiff, Nat.reduceLeDiff, Nat.left_eq_add, Nat.add_eq_left, Nat.reduceMod, Nat.reduceDiv, Nat.succ_ne_self, g, r11, g72, l72, e, ei, nn_mxT, nn_clamp]
theorem c_31 (g : mg h 67 2) (e : mh_i h 67 10 = 0) : ∀ Q, mcall d 31 [.ref 67, .int w] h Q = Q none (mh_si h 67 10 w) := fun Q => by
  have e00 : ((0 : Int32) = 0) = True := by decide
  simp (disch := omega) only [s_31_0, s_31_1, s_31_4, s_31_7, s_31_8, s_31_9, s_31_12, e_31, mv_i_1, mv_l_1, mv_a_1, mv_a_2, mv_a_3, mk2_n, mk2_i, mk2_l, mk2_a, mk2_u, mk2_x, mB_T, mB_F, mS_cons, mS_nil, mSB_T, mSB_F, mca_nil, mca_i, mca_l, mca_r, mca_u, mca_x, mcat_i, mcat_l, mcat_r, mcat_u, mcat_x, mK_some, mK_none, va_rf_s, va_rf_n, lgc_eq, lgc_lt, lgc_gt, lgc_ge, lgc_le, mrd_104, mrd_105, mrd_106, mrd_107, true_and, and_true, and_self, false_and, and_false, true_or, or_true, false_or, or_false, not_true_eq_false, not_false_eq_true, mgb, mga, mgr, mN, reduceCtorEq, ↓reduceIte, eq_self, ge_iff_le, gt_iff_lt, hk_si, hk_sj, hk_sr, hl_si, hl_sj, hl_sr, hn_si, hn_sj, hn_sr, hs_si, hs_sj, hs_sr, hi_sj, hi_sr, hj_si, hj_sr, hr_si, hr_sj, hi_si, hj_sj, hr_sr, mg_si, mg_sj, mg_sr, Nat.reduceAdd, Nat.reduceMul, Nat.reduceSub, Nat.reduceLT, Nat.reduceGT, Nat.reduceEqDiff, Nat.reduceLeDiff, Nat.left_eq_add, Nat.add_eq_left, Nat.reduceMod, Nat.reduceDiv, Nat.succ_ne_self, g, e, e00]
theorem flH_f : fG mcW h (mh_si h 67 10 w) := fG_si (Or.inr ⟨rfl, by omega⟩)
/-- pushInt: what comes of it -/
def piH (h : mh_H) (H : Nat) (v : Int64) : mh_H := if v.toInt < -2147483648 ∨ 2147483647 < v.toInt then psH (mh_si h 67 10 1) H v.toInt32 else psH h H v.toInt32
theorem c_39 (B : MB h Y C SC nC nS nb na p gv) (e : mh_i h 67 12 = Int32.ofNat H) (hH : H < 124) (e10 : mh_i h 67 10 = 0) {v : Int64} : ∀ Q, mcall (d + 1) 39 [.ref 67, .long v] h Q = Q none (piH h H v) := fun Q => by
  have g := B.g
  have c38 := c_38 (d := d) (x := v.toInt32) B e hH
  have B1 := MB_G (flH_f (w := 1)) B
  have c38' := c_38 (d := d) (x := v.toInt32) B1 (by rw [hi_si, if_neg (by omega)]; exact e) hH
  have c31 := c_31 (d := d) (w := 1) g e10
  unfold piH
  clear B B1
  by_cases c1 : v.toInt < -2147483648
  · have l1 : (v < -2147483648) = True := eq_true (by rw [lt64, lit_lo]; exact c1)
    rw [if_pos (Or.inl c1)]
    simp (disch := omega) only [s_39_0, s_39_1, s_39_4, s_39_5, s_39_8, s_39_9, s_39_12, s_39_13, s_39_16, s_39_17, s_39_18, s_39_21, s_39_22, s_39_23, s_39_24, s_39_27, e_39, mv_i_1, mv_l_1, mv_a_1, mv_a_2, mv_a_3, mk2_n, mk2_i, mk2_l, mk2_a, mk2_u, mk2_x, mB_T, mB_F, mS_cons, mS_nil, mSB_T, mSB_F, mca_nil, mca_i, mca_l, mca_r, mca_u, mca_x, mcat_i, mcat_l, mcat_r, mcat_u, mcat_x, mK_some, mK_none, va_rf_s, va_rf_n, lgc_eq, lgc_lt, lgc_gt, lgc_ge, lgc_le, mrd_104, mrd_105, mrd_106, mrd_107, true_and, and_true, and_self, false_and, and_false, true_or, or_true, false_or, or_false, not_true_eq_false, not_false_eq_true, mgb, mga, mgr, mN, reduceCtorEq, ↓reduceIte, eq_self, ge_iff_le, gt_iff_lt, hk_si, hk_sj, hk_sr, hl_si, hl_sj, hl_sr, hn_si, hn_sj, hn_sr, hs_si, hs_sj, hs_sr, hi_sj, hi_sr, hj_si, hj_sr, hr_si, hr_sj, hi_si, hj_sj, hr_sr, mg_si, mg_sj, mg_sr, Nat.reduceAdd, Nat.reduceMul, Nat.reduceSub, Nat.reduceLT, Nat.reduceGT, Nat.reduceEqDiff, Nat.reduceLeDiff, Nat.left_eq_add, Nat.add_eq_left, Nat.reduceMod, Nat.reduceDiv, Nat.succ_ne_self, g, l1, c31, c38']
  · have l1 : (v < -2147483648) = False := eq_false (by rw [lt64, lit_lo]; exact c1)
    by_cases c2 : 2147483647 < v.toInt
    · have l2 : (v ≤ 2147483647) = False := eq_false (by rw [le64, lit_hi]; omega)
      rw [if_pos (Or.inr c2)]
      simp (disch := omega) only [s_39_0, s_39_1, s_39_4, s_39_5, s_39_8, s_39_9, s_39_12, s_39_13, s_39_16, s_39_17, s_39_18, s_39_21, s_39_22, s_39_23, s_39_24, s_39_27, e_39, mv_i_1, mv_l_1, mv_a_1, mv_a_2, mv_a_3, mk2_n, mk2_i, mk2_l, mk2_a, mk2_u, mk2_x, mB_T, mB_F, mS_cons, mS_nil, mSB_T, mSB_F, mca_nil, mca_i, mca_l, mca_r, mca_u, mca_x, mcat_i, mcat_l, mcat_r, mcat_u, mcat_x, mK_some, mK_none, va_rf_s, va_rf_n, lgc_eq, lgc_lt, lgc_gt, lgc_ge, lgc_le, mrd_104, mrd_105, mrd_106, mrd_107, true_and, and_true, and_self, false_and, and_false, true_or, or_true, false_or, or_false, not_true_eq_false, not_false_eq_true, mgb, mga, mgr, mN, reduceCtorEq, ↓reduceIte, eq_self, ge_iff_le, gt_iff_lt, hk_si, hk_sj, hk_sr, hl_si, hl_sj, hl_sr, hn_si, hn_sj, hn_sr, hs_si, hs_sj, hs_sr, hi_sj, hi_sr, hj_si, hj_sr, hr_si, hr_sj, hi_si, hj_sj, hr_sr, mg_si, mg_sj, mg_sr, Nat.reduceAdd, Nat.reduceMul, Nat.reduceSub, Nat.reduceLT, Nat.reduceGT, Nat.reduceEqDiff, Nat.reduceLeDiff, Nat.left_eq_add, Nat.add_eq_left, Nat.reduceMod, Nat.reduceDiv, Nat.succ_ne_self, g, l1, l2, c31, c38']
    · have l2 : (v ≤ 2147483647) = True := eq_true (by rw [le64, lit_hi]; omega)
      rw [if_neg (by omega)]
      simp (disch := omega) only [s_39_0, s_39_1, s_39_4, s_39_5, s_39_8, s_39_9, s_39_12, s_39_13, s_39_16, s_39_17, s_39_18, s_39_21, s_39_22, s_39_23, s_39_24, s_39_27, e_39, mv_i_1, mv_l_1, mv_a_1, mv_a_2, mv_a_3, mk2_n, mk2_i, mk2_l, mk2_a, mk2_u, mk2_x, mB_T, mB_F, mS_cons, mS_nil, mSB_T, mSB_F, mca_nil, mca_i, mca_l, mca_r, mca_u, mca_x, mcat_i, mcat_l, mcat_r, mcat_u, mcat_x, mK_some, mK_none, va_rf_s, va_rf_n, lgc_eq, lgc_lt, lgc_gt, lgc_ge, lgc_le, mrd_104, mrd_105, mrd_106, mrd_107, true_and, and_true, and_self, false_and, and_false, true_or, or_true, false_or, or_false, not_true_eq_false, not_false_eq_true, mgb, mga, mgr, mN, reduceCtorEq, ↓reduceIte, eq_self, ge_iff_le, gt_iff_lt, hk_si, hk_sj, hk_sr, hl_si, hl_sj, hl_sr, hn_si, hn_sj, hn_sr, hs_si, hs_sj, hs_sr, hi_sj, hi_sr, hj_si, hj_sr, hr_si, hr_sj, hi_si, hj_sj, hr_sr, mg_si, mg_sj, mg_sr, Nat.reduceAdd, Nat.reduceMul, Nat.reduceSub, Nat.reduceLT, Nat.reduceGT, Nat.reduceEqDiff, Nat.reduceLeDiff, Nat.left_eq_add, Nat.add_eq_left, Nat.reduceMod, Nat.reduceDiv, Nat.succ_ne_self, g, l1, l2, c38]
/-- nextInput -/
theorem c_40 (B : MB h Y C SC nC nS nb na p gv) {l u : Int32} (e3 : mh_i h 67 3 = Int32.ofNat (min c gv)) : ∃ y h1, y.toInt = x_any l.toInt u.toInt (x_in (mh_i h 68) gv c) ∧ fG mcW h h1 ∧ mh_i h1 67 3 = Int32.ofNat (min (c + 1) gv) ∧ mh_i h1 67 10 = mh_i h 67 10 ∧ mh_i h1 67 12 = mh_i h 67 12 ∧ mh_i h1 72 = mh_i h 72 ∧ ∀ Q, mcall d 40 [.ref 67, .int l, .int u] h Q = Q (some (.int y)) h1 := by
  have g := B.g
  have r1 := B.r1
  have g68 := B.g68
  have l68 := B.l68
  have f2 := B.i2
  have gb := B.gb
  have ans : ∀ z : Int32, (if z < l ∨ u < z then l else z).toInt = x_any l.toInt u.toInt z.toInt := fun z => by
    unfold x_any
    simp only [Int32.lt_iff_toInt_lt]
    split <;> rfl
  by_cases c1 : c < gv
  · refine ⟨if mh_i h 68 c < l ∨ u < mh_i h 68 c then l else mh_i h 68 c, mh_si h 67 3 (Int32.ofNat (c + 1)), ?_, fG_si (Or.inr ⟨rfl, by omega⟩), by rw [hi_si, if_pos ⟨rfl, rfl⟩, Nat.min_eq_left (by omega)], by rw [hi_si, if_neg (by omega)], by rw [hi_si, if_neg (by omega)], funext fun j => by rw [hi_si, if_neg (by omega)], fun Q => ?_⟩
    · unfold x_in
      rw [if_pos c1]
      exact ans _
    · rw [Nat.min_eq_left (by omega)] at e3
      have le : (gv ≤ c) = False := eq_false (by omega)
      have ei : Int32.ofNat c + 1 = Int32.ofNat (c + 1) := nn_add (a := c) (b := 1)
      clear B ans
      by_cases k1 : mh_i h 68 c < l
      · rw [if_pos (Or.inl k1)]
        simp (disch := omega) only [s_40_0, s_40_1, s_40_2, s_40_3, s_40_6, s_40_7, s_40_10, s_40_13, s_40_14, s_40_17, s_40_18, s_40_21, s_40_22, s_40_23, s_40_24, s_40_25, s_40_28, s_40_29, s_40_30, s_40_33, s_40_34, s_40_35, s_40_38, s_40_39, s_40_40, s_40_43, s_40_44, s_40_47, s_40_48, e_40, mv_i_1, mv_l_1, mv_a_1, mv_a_2, mv_a_3, mk2_n, mk2_i, mk2_l, mk2_a, mk2_u, mk2_x, mB_T, mB_F, mS_cons, mS_nil, mSB_T, mSB_F, mca_nil, mca_i, mca_l, mca_r, mca_u, mca_x, mcat_i, mcat_l, mcat_r, mcat_u, mcat_x, mK_some, mK_none, va_rf_s, va_rf_n, lgc_eq, lgc_lt, lgc_gt, lgc_ge, lgc_le, mrd_104, mrd_105, mrd_106, mrd_107, true_and, and_true, and_self, false_and, and_false, true_or, or_true, false_or, or_false, not_true_eq_false, not_false_eq_true, mgb, mga, mgr, mN, reduceCtorEq, ↓reduceIte, eq_self, ge_iff_le, gt_iff_lt, hk_si, hk_sj, hk_sr, hl_si, hl_sj, hl_sr, hn_si, hn_sj, hn_sr, hs_si, hs_sj, hs_sr, hi_sj, hi_sr, hj_si, hj_sr, hr_si, hr_sj, hi_si, hj_sj, hr_sr, mg_si, mg_sj, mg_sr, Nat.reduceAdd, Nat.reduceMul, Nat.reduceSub, Nat.reduceLT, Nat.reduceGT, Nat.reduceEqDiff, Nat.reduceLeDiff, Nat.left_eq_add, Nat.add_eq_left, Nat.reduceMod, Nat.reduceDiv, Nat.succ_ne_self, g, r1, g68, l68, f2, e3, nn_le, le, ei, k1, nn_mxT, nn_clamp]
      · by_cases k2 : u < mh_i h 68 c
        · rw [if_pos (Or.inr k2)]
          have k3 : (mh_i h 68 c ≤ u) = False := eq_false (fun z => by rw [Int32.le_iff_toInt_le] at z; rw [Int32.lt_iff_toInt_lt] at k2; omega)
          simp (disch := omega) only [s_40_0, s_40_1, s_40_2, s_40_3, s_40_6, s_40_7, s_40_10, s_40_13, s_40_14, s_40_17, s_40_18, s_40_21, s_40_22, s_40_23, s_40_24, s_40_25, s_40_28, s_40_29, s_40_30, s_40_33, s_40_34, s_40_35, s_40_38, s_40_39, s_40_40, s_40_43, s_40_44, s_40_47, s_40_48, e_40, mv_i_1, mv_l_1, mv_a_1, mv_a_2, mv_a_3, mk2_n, mk2_i, mk2_l, mk2_a, mk2_u, mk2_x, mB_T, mB_F, mS_cons, mS_nil, mSB_T, mSB_F, mca_nil, mca_i, mca_l, mca_r, mca_u, mca_x, mcat_i, mcat_l, mcat_r, mcat_u, mcat_x, mK_some, mK_none, va_rf_s, va_rf_n, lgc_eq, lgc_lt, lgc_gt, lgc_ge, lgc_le, mrd_104, mrd_105, mrd_106, mrd_107, true_and, and_true, and_self, false_and, and_false, true_or, or_true, false_or, or_false, not_true_eq_false, not_false_eq_true, mgb, mga, mgr, mN, reduceCtorEq, ↓reduceIte, eq_self, ge_iff_le, gt_iff_lt, hk_si, hk_sj, hk_sr, hl_si, hl_sj, hl_sr, hn_si, hn_sj, hn_sr, hs_si, hs_sj, hs_sr, hi_sj, hi_sr, hj_si, hj_sr, hr_si, hr_sj, hi_si, hj_sj, hr_sr, mg_si, mg_sj, mg_sr, Nat.reduceAdd, Nat.reduceMul, Nat.reduceSub, Nat.reduceLT, Nat.reduceGT, Nat.reduceEqDiff, Nat.reduceLeDiff, Nat.left_eq_add, Nat.add_eq_left, Nat.reduceMod, Nat.reduceDiv, Nat.succ_ne_self, g, r1, g68, l68, f2, e3, nn_le, le, ei, k1, k3, nn_mxT, nn_clamp]
        · rw [if_neg (fun z => z.elim k1 k2)]
          have k3 : (mh_i h 68 c ≤ u) = True := eq_true (by rw [Int32.le_iff_toInt_le]; rw [Int32.lt_iff_toInt_lt] at k2; omega)
          simp (disch := omega) only [s_40_0, s_40_1, s_40_2, s_40_3, s_40_6, s_40_7, s_40_10, s_40_13, s_40_14, s_40_17, s_40_18, s_40_21, s_40_22, s_40_23, s_40_24, s_40_25, s_40_28, s_40_29, s_40_30, s_40_33, s_40_34, s_40_35, s_40_38, s_40_39, s_40_40, s_40_43, s_40_44, s_40_47, s_40_48, e_40, mv_i_1, mv_l_1, mv_a_1, mv_a_2, mv_a_3, mk2_n, mk2_i, mk2_l, mk2_a, mk2_u, mk2_x, mB_T, mB_F, mS_cons, mS_nil, mSB_T, mSB_F, mca_nil, mca_i, mca_l, mca_r, mca_u, mca_x, mcat_i, mcat_l, mcat_r, mcat_u, mcat_x, mK_some, mK_none, va_rf_s, va_rf_n, lgc_eq, lgc_lt, lgc_gt, lgc_ge, lgc_le, mrd_104, mrd_105, mrd_106, mrd_107, true_and, and_true, and_self, false_and, and_false, true_or, or_true, false_or, or_false, not_true_eq_false, not_false_eq_true, mgb, mga, mgr, mN, reduceCtorEq, ↓reduceIte, eq_self, ge_iff_le, gt_iff_lt, hk_si, hk_sj, hk_sr, hl_si, hl_sj, hl_sr, hn_si, hn_sj, hn_sr, hs_si, hs_sj, hs_sr, hi_sj, hi_sr, hj_si, hj_sr, hr_si, hr_sj, hi_si, hj_sj, hr_sr, mg_si, mg_sj, mg_sr, Nat.reduceAdd, Nat.reduceMul, Nat.reduceSub, Nat.reduceLT, Nat.reduceGT, Nat.reduceEqDiff, Nat.reduceLeDiff, Nat.left_eq_add, Nat.add_eq_left, Nat.reduceMod, Nat.reduceDiv, Nat.succ_ne_self, g, r1, g68, l68, f2, e3, nn_le, le, ei, k1, k3, nn_mxT, nn_clamp]
  · refine ⟨if (0 : Int32) < l ∨ u < 0 then l else 0, h, ?_, fG_id, by rw [e3, Nat.min_eq_right (by omega), Nat.min_eq_right (by omega)], rfl, rfl, rfl, fun Q => ?_⟩
    · unfold x_in
      rw [if_neg c1]
      exact ans _
    · rw [Nat.min_eq_right (by omega)] at e3
      have le : (gv ≤ gv) = True := eq_true (Nat.le_refl _)
      clear B ans
      by_cases k1 : (0 : Int32) < l
      · rw [if_pos (Or.inl k1)]
        simp (disch := omega) only [s_40_0, s_40_1, s_40_2, s_40_3, s_40_6, s_40_7, s_40_10, s_40_13, s_40_14, s_40_17, s_40_18, s_40_21, s_40_22, s_40_23, s_40_24, s_40_25, s_40_28, s_40_29, s_40_30, s_40_33, s_40_34, s_40_35, s_40_38, s_40_39, s_40_40, s_40_43, s_40_44, s_40_47, s_40_48, e_40, mv_i_1, mv_l_1, mv_a_1, mv_a_2, mv_a_3, mk2_n, mk2_i, mk2_l, mk2_a, mk2_u, mk2_x, mB_T, mB_F, mS_cons, mS_nil, mSB_T, mSB_F, mca_nil, mca_i, mca_l, mca_r, mca_u, mca_x, mcat_i, mcat_l, mcat_r, mcat_u, mcat_x, mK_some, mK_none, va_rf_s, va_rf_n, lgc_eq, lgc_lt, lgc_gt, lgc_ge, lgc_le, mrd_104, mrd_105, mrd_106, mrd_107, true_and, and_true, and_self, false_and, and_false, true_or, or_true, false_or, or_false, not_true_eq_false, not_false_eq_true, mgb, mga, mgr, mN, reduceCtorEq, ↓reduceIte, eq_self, ge_iff_le, gt_iff_lt, hk_si, hk_sj, hk_sr, hl_si, hl_sj, hl_sr, hn_si, hn_sj, hn_sr, hs_si, hs_sj, hs_sr, hi_sj, hi_sr, hj_si, hj_sr, hr_si, hr_sj, hi_si, hj_sj, hr_sr, mg_si, mg_sj, mg_sr, Nat.reduceAdd, Nat.reduceMul, Nat.reduceSub, Nat.reduceLT, Nat.reduceGT, Nat.reduceEqDiff, Nat.reduceLeDiff, Nat.left_eq_add, Nat.add_eq_left, Nat.reduceMod, Nat.reduceDiv, Nat.succ_ne_self, g, f2, e3, nn_le, le, k1]
      · by_cases k2 : u < 0
        · rw [if_pos (Or.inr k2)]
          have k3 : (0 ≤ u) = False := eq_false (fun z => by rw [Int32.le_iff_toInt_le] at z; rw [Int32.lt_iff_toInt_lt] at k2; omega)
          simp (disch := omega) only [s_40_0, s_40_1, s_40_2, s_40_3, s_40_6, s_40_7, s_40_10, s_40_13, s_40_14, s_40_17, s_40_18, s_40_21, s_40_22, s_40_23, s_40_24, s_40_25, s_40_28, s_40_29, s_40_30, s_40_33, s_40_34, s_40_35, s_40_38, s_40_39, s_40_40, s_40_43, s_40_44, s_40_47, s_40_48, e_40, mv_i_1, mv_l_1, mv_a_1, mv_a_2, mv_a_3, mk2_n, mk2_i, mk2_l, mk2_a, mk2_u, mk2_x, mB_T, mB_F, mS_cons, mS_nil, mSB_T, mSB_F, mca_nil, mca_i, mca_l, mca_r, mca_u, mca_x, mcat_i, mcat_l, mcat_r, mcat_u, mcat_x, mK_some, mK_none, va_rf_s, va_rf_n, lgc_eq, lgc_lt, lgc_gt, lgc_ge, lgc_le, mrd_104, mrd_105, mrd_106, mrd_107, true_and, and_true, and_self, false_and, and_false, true_or, or_true, false_or, or_false, not_true_eq_false, not_false_eq_true, mgb, mga, mgr, mN, reduceCtorEq, ↓reduceIte, eq_self, ge_iff_le, gt_iff_lt, hk_si, hk_sj, hk_sr, hl_si, hl_sj, hl_sr, hn_si, hn_sj, hn_sr, hs_si, hs_sj, hs_sr, hi_sj, hi_sr, hj_si, hj_sr, hr_si, hr_sj, hi_si, hj_sj, hr_sr, mg_si, mg_sj, mg_sr, Nat.reduceAdd, Nat.reduceMul, Nat.reduceSub, Nat.reduceLT, Nat.reduceGT, Nat.reduceEqDiff, Nat.reduceLeDiff, Nat.left_eq_add, Nat.add_eq_left, Nat.reduceMod, Nat.reduceDiv, Nat.succ_ne_self, g, f2, e3, nn_le, le, k1, k3]
        · rw [if_neg (fun z => z.elim k1 k2)]
          have k3 : (0 ≤ u) = True := eq_true (by rw [Int32.le_iff_toInt_le]; rw [Int32.lt_iff_toInt_lt] at k2; omega)
          simp (disch := omega) only [s_40_0, s_40_1, s_40_2, s_40_3, s_40_6, s_40_7, s_40_10, s_40_13, s_40_14, s_40_17, s_40_18, s_40_21, s_40_22, s_40_23, s_40_24, s_40_25, s_40_28, s_40_29, s_40_30, s_40_33, s_40_34, s_40_35, s_40_38, s_40_39, s_40_40, s_40_43, s_40_44, s_40_47, s_40_48, e_40, mv_i_1, mv_l_1, mv_a_1, mv_a_2, mv_a_3, mk2_n, mk2_i, mk2_l, mk2_a, mk2_u, mk2_x, mB_T, mB_F, mS_cons, mS_nil, mSB_T, mSB_F, mca_nil, mca_i, mca_l, mca_r, mca_u, mca_x, mcat_i, mcat_l, mcat_r, mcat_u, mcat_x, mK_some, mK_none, va_rf_s, va_rf_n, lgc_eq, lgc_lt, lgc_gt, lgc_ge, lgc_le, mrd_104, mrd_105, mrd_106, mrd_107, true_and, and_true, and_self, false_and, and_false, true_or, or_true, false_or, or_false, not_true_eq_false, not_false_eq_true, mgb, mga, mgr, mN, reduceCtorEq, ↓reduceIte, eq_self, ge_iff_le, gt_iff_lt, hk_si, hk_sj, hk_sr, hl_si, hl_sj, hl_sr, hn_si, hn_sj, hn_sr, hs_si, hs_sj, hs_sr, hi_sj, hi_sr, hj_si, hj_sr, hr_si, hr_sj, hi_si, hj_sj, hr_sr, mg_si, mg_sj, mg_sr, Nat.reduceAdd, Nat.reduceMul, Nat.reduceSub, Nat.reduceLT, Nat.reduceGT, Nat.reduceEqDiff, Nat.reduceLeDiff, Nat.left_eq_add, Nat.add_eq_left, Nat.reduceMod, Nat.reduceDiv, Nat.succ_ne_self, g, f2, e3, nn_le, le, k1, k3]
/-- takePlace -/
theorem c_41 (B : MB h Y C SC nC nS nb na p gv) (e : mh_i h 67 12 = Int32.ofNat (H + 1)) (hH : H < 124) (e10 : mh_i h 67 10 = 0) {a z : Nat} (ha : a < 6) (hz : z ≤ 64) : ∀ Q, mcall (d + 1) 41 [.ref 67, .int (Int32.ofNat a), .int (Int32.ofNat z)] h Q = Q none (if (mh_i h 72 H).toInt < 0 ∨ (z : Int) ≤ (mh_i h 72 H).toInt then mh_si h 67 10 4 else mh_si h 72 H (mh_i h 70 (64 * a + (mh_i h 72 H).toInt.toNat))) := fun Q => by
  have g := B.g
  have r11 := B.r11
  have r7 := B.r7
  have g72 := B.g72
  have l72 := B.l72
  have g70 := B.g70
  have l70 := B.l70
  have es : Int32.ofNat (H + 1) - 1 = Int32.ofNat H := nn_sub (a := H + 1) (b := 1) (by omega)
  have c31 := c_31 (d := d) (w := 4) g e10
  clear B
  obtain ⟨i, ei⟩ : ∃ i, mh_i h 72 H = i := ⟨_, rfl⟩
  rw [ei]
  have z0 : (0 : Int32).toInt = 0 := rfl
  have zz : (Int32.ofNat z).toInt = z := nn_int (by omega)
  by_cases c1 : i.toInt < 0
  · rw [if_pos (Or.inl c1)]
    have l1 : (i < 0) = True := eq_true (by rw [Int32.lt_iff_toInt_lt, z0]; exact c1)
    simp (disch := omega) only [s_41_0, s_41_1, s_41_4, s_41_5, s_41_8, s_41_9, s_41_10, s_41_11, s_41_12, s_41_13, s_41_16, s_41_17, s_41_18, s_41_21, s_41_22, s_41_23, s_41_26, s_41_29, s_41_30, s_41_33, s_41_34, s_41_37, s_41_38, s_41_39, s_41_40, s_41_43, s_41_44, s_41_46, s_41_47, s_41_48, s_41_49, s_41_50, s_41_51, e_41, mv_i_1, mv_l_1, mv_a_1, mv_a_2, mv_a_3, mk2_n, mk2_i, mk2_l, mk2_a, mk2_u, mk2_x, mB_T, mB_F, mS_cons, mS_nil, mSB_T, mSB_F, mca_nil, mca_i, mca_l, mca_r, mca_u, mca_x, mcat_i, mcat_l, mcat_r, mcat_u, mcat_x, mK_some, mK_none, va_rf_s, va_rf_n, lgc_eq, lgc_lt, lgc_gt, lgc_ge, lgc_le, mrd_104, mrd_105, mrd_106, mrd_107, true_and, and_true, and_self, false_and, and_false, true_or, or_true, false_or, or_false, not_true_eq_false, not_false_eq_true, mgb, mga, mgr, mN, reduceCtorEq, ↓reduceIte, eq_self, ge_iff_le, gt_iff_lt, hk_si, hk_sj, hk_sr, hl_si, hl_sj, hl_sr, hn_si, hn_sj, hn_sr, hs_si, hs_sj, hs_sr, hi_sj, hi_sr, hj_si, hj_sr, hr_si, hr_sj, hi_si, hj_sj, hr_sr, mg_si, mg_sj, mg_sr, Nat.reduceAdd, Nat.reduceMul, Nat.reduceSub, Nat.reduceLT, Nat.reduceGT, Nat.reduceEqDiff, Nat.reduceLeDiff, Nat.left_eq_add, Nat.add_eq_left, Nat.reduceMod, Nat.reduceDiv, Nat.succ_ne_self, g, r11, g72, l72, e, es, ei, l1, c31, nn_mxT, nn_clamp]
  · have l1 : (i < 0) = False := eq_false (by rw [Int32.lt_iff_toInt_lt, z0]; exact c1)
    by_cases c2 : (z : Int) ≤ i.toInt
    · rw [if_pos (Or.inr c2)]
      have l2 : (i < Int32.ofNat z) = False := eq_false (by rw [Int32.lt_iff_toInt_lt, zz]; omega)
      simp (disch := omega) only [s_41_0, s_41_1, s_41_4, s_41_5, s_41_8, s_41_9, s_41_10, s_41_11, s_41_12, s_41_13, s_41_16, s_41_17, s_41_18, s_41_21, s_41_22, s_41_23, s_41_26, s_41_29, s_41_30, s_41_33, s_41_34, s_41_37, s_41_38, s_41_39, s_41_40, s_41_43, s_41_44, s_41_46, s_41_47, s_41_48, s_41_49, s_41_50, s_41_51, e_41, mv_i_1, mv_l_1, mv_a_1, mv_a_2, mv_a_3, mk2_n, mk2_i, mk2_l, mk2_a, mk2_u, mk2_x, mB_T, mB_F, mS_cons, mS_nil, mSB_T, mSB_F, mca_nil, mca_i, mca_l, mca_r, mca_u, mca_x, mcat_i, mcat_l, mcat_r, mcat_u, mcat_x, mK_some, mK_none, va_rf_s, va_rf_n, lgc_eq, lgc_lt, lgc_gt, lgc_ge, lgc_le, mrd_104, mrd_105, mrd_106, mrd_107, true_and, and_true, and_self, false_and, and_false, true_or, or_true, false_or, or_false, not_true_eq_false, not_false_eq_true, mgb, mga, mgr, mN, reduceCtorEq, ↓reduceIte, eq_self, ge_iff_le, gt_iff_lt, hk_si, hk_sj, hk_sr, hl_si, hl_sj, hl_sr, hn_si, hn_sj, hn_sr, hs_si, hs_sj, hs_sr, hi_sj, hi_sr, hj_si, hj_sr, hr_si, hr_sj, hi_si, hj_sj, hr_sr, mg_si, mg_sj, mg_sr, Nat.reduceAdd, Nat.reduceMul, Nat.reduceSub, Nat.reduceLT, Nat.reduceGT, Nat.reduceEqDiff, Nat.reduceLeDiff, Nat.left_eq_add, Nat.add_eq_left, Nat.reduceMod, Nat.reduceDiv, Nat.succ_ne_self, g, r11, g72, l72, e, es, ei, l1, l2, c31, nn_mxT, nn_clamp]
    · rw [if_neg (by omega)]
      have l2 : (i < Int32.ofNat z) = True := eq_true (by rw [Int32.lt_iff_toInt_lt, zz]; omega)
      have in' : i = Int32.ofNat i.toInt.toNat := Int32.toInt_inj.mp (by rw [nn_int (by omega)]; omega)
      obtain ⟨k, hk⟩ : ∃ k, i.toInt.toNat = k := ⟨_, rfl⟩
      rw [hk] at in' ⊢
      have kz : k < 64 := by omega
      subst in'
      have e64 : (Int8.ofInt 64).toInt32 = 64 := by decide
      have em : Int32.ofNat a * 64 = Int32.ofNat (a * 64) := nn_mul (a := a) (b := 64)
      have ea : Int32.ofNat (a * 64) + Int32.ofNat k = Int32.ofNat (a * 64 + k) := nn_add
      have ec : a * 64 + k = 64 * a + k := by omega
      rw [ec] at ea
      simp (disch := omega) only [s_41_0, s_41_1, s_41_4, s_41_5, s_41_8, s_41_9, s_41_10, s_41_11, s_41_12, s_41_13, s_41_16, s_41_17, s_41_18, s_41_21, s_41_22, s_41_23, s_41_26, s_41_29, s_41_30, s_41_33, s_41_34, s_41_37, s_41_38, s_41_39, s_41_40, s_41_43, s_41_44, s_41_46, s_41_47, s_41_48, s_41_49, s_41_50, s_41_51, e_41, mv_i_1, mv_l_1, mv_a_1, mv_a_2, mv_a_3, mk2_n, mk2_i, mk2_l, mk2_a, mk2_u, mk2_x, mB_T, mB_F, mS_cons, mS_nil, mSB_T, mSB_F, mca_nil, mca_i, mca_l, mca_r, mca_u, mca_x, mcat_i, mcat_l, mcat_r, mcat_u, mcat_x, mK_some, mK_none, va_rf_s, va_rf_n, lgc_eq, lgc_lt, lgc_gt, lgc_ge, lgc_le, mrd_104, mrd_105, mrd_106, mrd_107, true_and, and_true, and_self, false_and, and_false, true_or, or_true, false_or, or_false, not_true_eq_false, not_false_eq_true, mgb, mga, mgr, mN, reduceCtorEq, ↓reduceIte, eq_self, ge_iff_le, gt_iff_lt, hk_si, hk_sj, hk_sr, hl_si, hl_sj, hl_sr, hn_si, hn_sj, hn_sr, hs_si, hs_sj, hs_sr, hi_sj, hi_sr, hj_si, hj_sr, hr_si, hr_sj, hi_si, hj_sj, hr_sr, mg_si, mg_sj, mg_sr, Nat.reduceAdd, Nat.reduceMul, Nat.reduceSub, Nat.reduceLT, Nat.reduceGT, Nat.reduceEqDiff, Nat.reduceLeDiff, Nat.left_eq_add, Nat.add_eq_left, Nat.reduceMod, Nat.reduceDiv, Nat.succ_ne_self, g, r11, r7, g72, l72, g70, l70, e, es, ei, l1, l2, e64, em, ea, nn_mxT, nn_clamp]
/-- what a reckoning leaves -/
def xo (q : xr) (h : mh_H) (H : Nat) : Prop := match q.1 with
  | none => q.2.1 ≠ 0 ∧ mh_i h 67 10 = q.2.1
  | some v => iI v ∧ mh_i h 67 10 = 0 ∧ mh_i h 67 12 = Int32.ofNat (H + 1) ∧ (mh_i h 72 H).toInt = v
theorem xo_t {w : Int32} (hw : w ≠ 0) (e : mh_i h 67 10 = w) : xo (x_tr w c) h H := ⟨hw, e⟩
theorem xo_s {v : Int} (hv : iI v) (e1 : mh_i h 67 10 = 0) (e2 : mh_i h 67 12 = Int32.ofNat (H + 1)) (e3 : (mh_i h 72 H).toInt = v) : xo (x_ok v c) h H := ⟨hv, e1, e2, e3⟩
theorem pi_k (e10 : mh_i h 67 10 = 0) {v : Int64} : fG mcW h (piH h H v) ∧ (∀ i, i < H → mh_i (piH h H v) 72 i = mh_i h 72 i) ∧ mh_i (piH h H v) 67 3 = mh_i h 67 3 ∧ xo (x_int v.toInt c) (piH h H v) H := by
  unfold piH x_int
  by_cases c1 : v.toInt < -2147483648 ∨ 2147483647 < v.toInt
  · rw [if_pos c1, if_pos c1]
    exact ⟨fG_t flH_f psH_f, fun i hi => by rw [psH_l hi, hi_si, if_neg (by omega)], by rw [psH_3, hi_si, if_neg (by omega)], xo_t (by decide) (by rw [psH_10, hi_si, if_pos ⟨rfl, rfl⟩])⟩
  · rw [if_neg c1, if_neg c1]
    refine ⟨psH_f, fun i hi => psH_l hi, psH_3, xo_s (by unfold iI; omega) (by rw [psH_10]; exact e10) psH_12 ?_⟩
    rw [psH_s, Int64.toInt_toInt32]
    exact Int.bmod_eq_of_le (by omega) (by omega)
theorem lrem_int {x w : Int64} (hx : iI x.toInt) (hw : iI w.toInt) : (x - x / w * w).toInt = x.toInt.tmod w.toInt := by
  have e1 := ldiv_int (w := w) hx
  have b1 := div_r (b := w.toInt) hx
  have m : (x.toInt.tdiv w.toInt * w.toInt).natAbs ≤ 2147483648 * 2147483648 := by
    rw [Int.natAbs_mul]
    exact Nat.mul_le_mul (by omega) (by unfold iI at hw; omega)
  have e2 : (x / w * w).toInt = x.toInt.tdiv w.toInt * w.toInt := by rw [lmul_int (by rw [e1]; omega) (by rw [e1]; omega), e1]
  unfold iI at hx
  rw [lsub_int (by rw [e2]; omega) (by rw [e2]; omega), e2, Int.tmod_def, Int.mul_comm]
/-- operate -/
theorem c_42 (B : MB h Y C SC nC nS nb na p gv) (e : mh_i h 67 12 = Int32.ofNat H) (hH : H < 124) (e10 : mh_i h 67 10 = 0) {k : Nat} (hk : k = 18 ∨ k = 19 ∨ k = 21 ∨ k = 22 ∨ k = 23) {a b : Int64} (ha : iI a.toInt) (hb : iI b.toInt) : ∃ h1, fG mcW h h1 ∧ (∀ i, i < H → mh_i h1 72 i = mh_i h 72 i) ∧ mh_i h1 67 3 = mh_i h 67 3 ∧ xo (x_op k a.toInt b.toInt c) h1 H ∧ ∀ Q, mcall (d + 2) 42 [.ref 67, .int (opb k), .long a, .long b] h Q = Q none h1 := by
  have g := B.g
  have l0 : (0 : Int64).toInt = 0 := rfl
  have key : ∀ v : Int64, ∃ h1, piH h H v = h1 ∧ fG mcW h h1 ∧ (∀ i, i < H → mh_i h1 72 i = mh_i h 72 i) ∧ mh_i h1 67 3 = mh_i h 67 3 ∧ xo (x_int v.toInt c) h1 H := fun v => ⟨_, rfl, pi_k e10⟩
  have c39 := fun v => c_39 (d := d) (v := v) B e hH e10
  have c31 := c_31 (d := d + 1) (w := 2) g e10
  have i43 : (Int8.ofInt 43).toInt32 = 43 := by decide
  have i45 : (Int8.ofInt 45).toInt32 = 45 := by decide
  have i42 : (Int8.ofInt 42).toInt32 = 42 := by decide
  have i47 : (Int8.ofInt 47).toInt32 = 47 := by decide
  have n1 : ((45 : Int32) = 43) = False := by decide
  have n2 : ((42 : Int32) = 43) = False := by decide
  have n3 : ((42 : Int32) = 45) = False := by decide
  have n4 : ((47 : Int32) = 43) = False := by decide
  have n5 : ((47 : Int32) = 45) = False := by decide
  have n6 : ((47 : Int32) = 42) = False := by decide
  have n7 : ((37 : Int32) = 43) = False := by decide
  have n8 : ((37 : Int32) = 45) = False := by decide
  have n9 : ((37 : Int32) = 42) = False := by decide
  have n10 : ((37 : Int32) = 47) = False := by decide
  have mr := mul_r ha hb
  unfold iI at ha hb
  clear B
  unfold x_op
  rcases hk with hk | hk | hk | hk | hk <;> subst hk
  · rw [if_neg (by omega)]
    obtain ⟨h1, q0, q1, q2, q3, q4⟩ := key (a + b)
    rw [ladd_int (by omega) (by omega)] at q4
    refine ⟨h1, q1, q2, q3, q4, fun Q => ?_⟩
    rw [← q0]
    have o1 : opb 18 = 43 := rfl
    simp (disch := omega) only [s_42_0, s_42_1, s_42_3, s_42_6, s_42_7, s_42_8, s_42_10, s_42_11, s_42_14, s_42_17, s_42_18, s_42_20, s_42_23, s_42_24, s_42_25, s_42_27, s_42_28, s_42_31, s_42_34, s_42_35, s_42_37, s_42_40, s_42_41, s_42_42, s_42_44, s_42_45, s_42_48, s_42_51, s_42_53, s_42_54, s_42_55, s_42_58, s_42_59, s_42_60, s_42_63, s_42_66, s_42_67, s_42_68, s_42_70, s_42_73, s_42_74, s_42_76, s_42_77, s_42_80, s_42_81, s_42_83, s_42_84, s_42_87, e_42, mv_i_1, mv_l_1, mv_a_1, mv_a_2, mv_a_3, mk2_n, mk2_i, mk2_l, mk2_a, mk2_u, mk2_x, mB_T, mB_F, mS_cons, mS_nil, mSB_T, mSB_F, mca_nil, mca_i, mca_l, mca_r, mca_u, mca_x, mcat_i, mcat_l, mcat_r, mcat_u, mcat_x, mK_some, mK_none, va_rf_s, va_rf_n, lgc_eq, lgc_lt, lgc_gt, lgc_ge, lgc_le, mrd_104, mrd_105, mrd_106, mrd_107, true_and, and_true, and_self, false_and, and_false, true_or, or_true, false_or, or_false, not_true_eq_false, not_false_eq_true, mgb, mga, mgr, mN, reduceCtorEq, ↓reduceIte, eq_self, ge_iff_le, gt_iff_lt, hk_si, hk_sj, hk_sr, hl_si, hl_sj, hl_sr, hn_si, hn_sj, hn_sr, hs_si, hs_sj, hs_sr, hi_sj, hi_sr, hj_si, hj_sr, hr_si, hr_sj, hi_si, hj_sj, hr_sr, mg_si, mg_sj, mg_sr, Nat.reduceAdd, Nat.reduceMul, Nat.reduceSub, Nat.reduceLT, Nat.reduceGT, Nat.reduceEqDiff, Nat.reduceLeDiff, Nat.left_eq_add, Nat.add_eq_left, Nat.reduceMod, Nat.reduceDiv, Nat.succ_ne_self, g, o1, i43, c39]
  · rw [if_neg (by omega)]
    obtain ⟨h1, q0, q1, q2, q3, q4⟩ := key (a - b)
    rw [lsub_int (by omega) (by omega)] at q4
    refine ⟨h1, q1, q2, q3, q4, fun Q => ?_⟩
    rw [← q0]
    have o1 : opb 19 = 45 := rfl
    simp (disch := omega) only [s_42_0, s_42_1, s_42_3, s_42_6, s_42_7, s_42_8, s_42_10, s_42_11, s_42_14, s_42_17, s_42_18, s_42_20, s_42_23, s_42_24, s_42_25, s_42_27, s_42_28, s_42_31, s_42_34, s_42_35, s_42_37, s_42_40, s_42_41, s_42_42, s_42_44, s_42_45, s_42_48, s_42_51, s_42_53, s_42_54, s_42_55, s_42_58, s_42_59, s_42_60, s_42_63, s_42_66, s_42_67, s_42_68, s_42_70, s_42_73, s_42_74, s_42_76, s_42_77, s_42_80, s_42_81, s_42_83, s_42_84, s_42_87, e_42, mv_i_1, mv_l_1, mv_a_1, mv_a_2, mv_a_3, mk2_n, mk2_i, mk2_l, mk2_a, mk2_u, mk2_x, mB_T, mB_F, mS_cons, mS_nil, mSB_T, mSB_F, mca_nil, mca_i, mca_l, mca_r, mca_u, mca_x, mcat_i, mcat_l, mcat_r, mcat_u, mcat_x, mK_some, mK_none, va_rf_s, va_rf_n, lgc_eq, lgc_lt, lgc_gt, lgc_ge, lgc_le, mrd_104, mrd_105, mrd_106, mrd_107, true_and, and_true, and_self, false_and, and_false, true_or, or_true, false_or, or_false, not_true_eq_false, not_false_eq_true, mgb, mga, mgr, mN, reduceCtorEq, ↓reduceIte, eq_self, ge_iff_le, gt_iff_lt, hk_si, hk_sj, hk_sr, hl_si, hl_sj, hl_sr, hn_si, hn_sj, hn_sr, hs_si, hs_sj, hs_sr, hi_sj, hi_sr, hj_si, hj_sr, hr_si, hr_sj, hi_si, hj_sj, hr_sr, mg_si, mg_sj, mg_sr, Nat.reduceAdd, Nat.reduceMul, Nat.reduceSub, Nat.reduceLT, Nat.reduceGT, Nat.reduceEqDiff, Nat.reduceLeDiff, Nat.left_eq_add, Nat.add_eq_left, Nat.reduceMod, Nat.reduceDiv, Nat.succ_ne_self, g, o1, i43, i45, n1, c39]
  · rw [if_neg (by omega)]
    obtain ⟨h1, q0, q1, q2, q3, q4⟩ := key (a * b)
    rw [lmul_int (by omega) (by omega)] at q4
    refine ⟨h1, q1, q2, q3, q4, fun Q => ?_⟩
    rw [← q0]
    have o1 : opb 21 = 42 := rfl
    simp (disch := omega) only [s_42_0, s_42_1, s_42_3, s_42_6, s_42_7, s_42_8, s_42_10, s_42_11, s_42_14, s_42_17, s_42_18, s_42_20, s_42_23, s_42_24, s_42_25, s_42_27, s_42_28, s_42_31, s_42_34, s_42_35, s_42_37, s_42_40, s_42_41, s_42_42, s_42_44, s_42_45, s_42_48, s_42_51, s_42_53, s_42_54, s_42_55, s_42_58, s_42_59, s_42_60, s_42_63, s_42_66, s_42_67, s_42_68, s_42_70, s_42_73, s_42_74, s_42_76, s_42_77, s_42_80, s_42_81, s_42_83, s_42_84, s_42_87, e_42, mv_i_1, mv_l_1, mv_a_1, mv_a_2, mv_a_3, mk2_n, mk2_i, mk2_l, mk2_a, mk2_u, mk2_x, mB_T, mB_F, mS_cons, mS_nil, mSB_T, mSB_F, mca_nil, mca_i, mca_l, mca_r, mca_u, mca_x, mcat_i, mcat_l, mcat_r, mcat_u, mcat_x, mK_some, mK_none, va_rf_s, va_rf_n, lgc_eq, lgc_lt, lgc_gt, lgc_ge, lgc_le, mrd_104, mrd_105, mrd_106, mrd_107, true_and, and_true, and_self, false_and, and_false, true_or, or_true, false_or, or_false, not_true_eq_false, not_false_eq_true, mgb, mga, mgr, mN, reduceCtorEq, ↓reduceIte, eq_self, ge_iff_le, gt_iff_lt, hk_si, hk_sj, hk_sr, hl_si, hl_sj, hl_sr, hn_si, hn_sj, hn_sr, hs_si, hs_sj, hs_sr, hi_sj, hi_sr, hj_si, hj_sr, hr_si, hr_sj, hi_si, hj_sj, hr_sr, mg_si, mg_sj, mg_sr, Nat.reduceAdd, Nat.reduceMul, Nat.reduceSub, Nat.reduceLT, Nat.reduceGT, Nat.reduceEqDiff, Nat.reduceLeDiff, Nat.left_eq_add, Nat.add_eq_left, Nat.reduceMod, Nat.reduceDiv, Nat.succ_ne_self, g, o1, i43, i45, i42, n2, n3, c39]
  · have o1 : opb 22 = 47 := rfl
    by_cases b0 : b = 0
    · subst b0
      rw [if_pos ⟨Or.inl rfl, l0⟩]
      refine ⟨mh_si h 67 10 2, flH_f, fun i _ => by rw [hi_si, if_neg (by omega)], by rw [hi_si, if_neg (by omega)], xo_t (by decide) (by rw [hi_si, if_pos ⟨rfl, rfl⟩]), fun Q => ?_⟩
      have z00 : ((0 : Int64) = 0) = True := by decide
      simp (disch := omega) only [s_42_0, s_42_1, s_42_3, s_42_6, s_42_7, s_42_8, s_42_10, s_42_11, s_42_14, s_42_17, s_42_18, s_42_20, s_42_23, s_42_24, s_42_25, s_42_27, s_42_28, s_42_31, s_42_34, s_42_35, s_42_37, s_42_40, s_42_41, s_42_42, s_42_44, s_42_45, s_42_48, s_42_51, s_42_53, s_42_54, s_42_55, s_42_58, s_42_59, s_42_60, s_42_63, s_42_66, s_42_67, s_42_68, s_42_70, s_42_73, s_42_74, s_42_76, s_42_77, s_42_80, s_42_81, s_42_83, s_42_84, s_42_87, e_42, mv_i_1, mv_l_1, mv_a_1, mv_a_2, mv_a_3, mk2_n, mk2_i, mk2_l, mk2_a, mk2_u, mk2_x, mB_T, mB_F, mS_cons, mS_nil, mSB_T, mSB_F, mca_nil, mca_i, mca_l, mca_r, mca_u, mca_x, mcat_i, mcat_l, mcat_r, mcat_u, mcat_x, mK_some, mK_none, va_rf_s, va_rf_n, lgc_eq, lgc_lt, lgc_gt, lgc_ge, lgc_le, mrd_104, mrd_105, mrd_106, mrd_107, true_and, and_true, and_self, false_and, and_false, true_or, or_true, false_or, or_false, not_true_eq_false, not_false_eq_true, mgb, mga, mgr, mN, reduceCtorEq, ↓reduceIte, eq_self, ge_iff_le, gt_iff_lt, hk_si, hk_sj, hk_sr, hl_si, hl_sj, hl_sr, hn_si, hn_sj, hn_sr, hs_si, hs_sj, hs_sr, hi_sj, hi_sr, hj_si, hj_sr, hr_si, hr_sj, hi_si, hj_sj, hr_sr, mg_si, mg_sj, mg_sr, Nat.reduceAdd, Nat.reduceMul, Nat.reduceSub, Nat.reduceLT, Nat.reduceGT, Nat.reduceEqDiff, Nat.reduceLeDiff, Nat.left_eq_add, Nat.add_eq_left, Nat.reduceMod, Nat.reduceDiv, Nat.succ_ne_self, g, o1, i43, i45, i42, n4, n5, n6, z00, c31]
    · have b1 : ¬ b.toInt = 0 := fun z => b0 (Int64.toInt_inj.mp (z.trans l0.symm))
      rw [if_neg (by omega)]
      obtain ⟨h1, q0, q1, q2, q3, q4⟩ := key (a / b)
      rw [ldiv_int ha] at q4
      refine ⟨h1, q1, q2, q3, q4, fun Q => ?_⟩
      rw [← q0]
      have b0' : (b = 0) = False := eq_false b0
      simp (disch := omega) only [s_42_0, s_42_1, s_42_3, s_42_6, s_42_7, s_42_8, s_42_10, s_42_11, s_42_14, s_42_17, s_42_18, s_42_20, s_42_23, s_42_24, s_42_25, s_42_27, s_42_28, s_42_31, s_42_34, s_42_35, s_42_37, s_42_40, s_42_41, s_42_42, s_42_44, s_42_45, s_42_48, s_42_51, s_42_53, s_42_54, s_42_55, s_42_58, s_42_59, s_42_60, s_42_63, s_42_66, s_42_67, s_42_68, s_42_70, s_42_73, s_42_74, s_42_76, s_42_77, s_42_80, s_42_81, s_42_83, s_42_84, s_42_87, e_42, mv_i_1, mv_l_1, mv_a_1, mv_a_2, mv_a_3, mk2_n, mk2_i, mk2_l, mk2_a, mk2_u, mk2_x, mB_T, mB_F, mS_cons, mS_nil, mSB_T, mSB_F, mca_nil, mca_i, mca_l, mca_r, mca_u, mca_x, mcat_i, mcat_l, mcat_r, mcat_u, mcat_x, mK_some, mK_none, va_rf_s, va_rf_n, lgc_eq, lgc_lt, lgc_gt, lgc_ge, lgc_le, mrd_104, mrd_105, mrd_106, mrd_107, true_and, and_true, and_self, false_and, and_false, true_or, or_true, false_or, or_false, not_true_eq_false, not_false_eq_true, mgb, mga, mgr, mN, reduceCtorEq, ↓reduceIte, eq_self, ge_iff_le, gt_iff_lt, hk_si, hk_sj, hk_sr, hl_si, hl_sj, hl_sr, hn_si, hn_sj, hn_sr, hs_si, hs_sj, hs_sr, hi_sj, hi_sr, hj_si, hj_sr, hr_si, hr_sj, hi_si, hj_sj, hr_sr, mg_si, mg_sj, mg_sr, Nat.reduceAdd, Nat.reduceMul, Nat.reduceSub, Nat.reduceLT, Nat.reduceGT, Nat.reduceEqDiff, Nat.reduceLeDiff, Nat.left_eq_add, Nat.add_eq_left, Nat.reduceMod, Nat.reduceDiv, Nat.succ_ne_self, g, o1, i43, i45, i42, i47, n4, n5, n6, b0', c39]
  · have o1 : opb 23 = 37 := rfl
    by_cases b0 : b = 0
    · subst b0
      rw [if_pos ⟨Or.inr rfl, l0⟩]
      refine ⟨mh_si h 67 10 2, flH_f, fun i _ => by rw [hi_si, if_neg (by omega)], by rw [hi_si, if_neg (by omega)], xo_t (by decide) (by rw [hi_si, if_pos ⟨rfl, rfl⟩]), fun Q => ?_⟩
      have z00 : ((0 : Int64) = 0) = True := by decide
      simp (disch := omega) only [s_42_0, s_42_1, s_42_3, s_42_6, s_42_7, s_42_8, s_42_10, s_42_11, s_42_14, s_42_17, s_42_18, s_42_20, s_42_23, s_42_24, s_42_25, s_42_27, s_42_28, s_42_31, s_42_34, s_42_35, s_42_37, s_42_40, s_42_41, s_42_42, s_42_44, s_42_45, s_42_48, s_42_51, s_42_53, s_42_54, s_42_55, s_42_58, s_42_59, s_42_60, s_42_63, s_42_66, s_42_67, s_42_68, s_42_70, s_42_73, s_42_74, s_42_76, s_42_77, s_42_80, s_42_81, s_42_83, s_42_84, s_42_87, e_42, mv_i_1, mv_l_1, mv_a_1, mv_a_2, mv_a_3, mk2_n, mk2_i, mk2_l, mk2_a, mk2_u, mk2_x, mB_T, mB_F, mS_cons, mS_nil, mSB_T, mSB_F, mca_nil, mca_i, mca_l, mca_r, mca_u, mca_x, mcat_i, mcat_l, mcat_r, mcat_u, mcat_x, mK_some, mK_none, va_rf_s, va_rf_n, lgc_eq, lgc_lt, lgc_gt, lgc_ge, lgc_le, mrd_104, mrd_105, mrd_106, mrd_107, true_and, and_true, and_self, false_and, and_false, true_or, or_true, false_or, or_false, not_true_eq_false, not_false_eq_true, mgb, mga, mgr, mN, reduceCtorEq, ↓reduceIte, eq_self, ge_iff_le, gt_iff_lt, hk_si, hk_sj, hk_sr, hl_si, hl_sj, hl_sr, hn_si, hn_sj, hn_sr, hs_si, hs_sj, hs_sr, hi_sj, hi_sr, hj_si, hj_sr, hr_si, hr_sj, hi_si, hj_sj, hr_sr, mg_si, mg_sj, mg_sr, Nat.reduceAdd, Nat.reduceMul, Nat.reduceSub, Nat.reduceLT, Nat.reduceGT, Nat.reduceEqDiff, Nat.reduceLeDiff, Nat.left_eq_add, Nat.add_eq_left, Nat.reduceMod, Nat.reduceDiv, Nat.succ_ne_self, g, o1, i43, i45, i42, n7, n8, n9, z00, c31]
    · have b1 : ¬ b.toInt = 0 := fun z => b0 (Int64.toInt_inj.mp (z.trans l0.symm))
      rw [if_neg (by omega)]
      obtain ⟨h1, q0, q1, q2, q3, q4⟩ := key (a - a / b * b)
      rw [lrem_int ha hb] at q4
      refine ⟨h1, q1, q2, q3, q4, fun Q => ?_⟩
      rw [← q0]
      have b0' : (b = 0) = False := eq_false b0
      simp (disch := omega) only [s_42_0, s_42_1, s_42_3, s_42_6, s_42_7, s_42_8, s_42_10, s_42_11, s_42_14, s_42_17, s_42_18, s_42_20, s_42_23, s_42_24, s_42_25, s_42_27, s_42_28, s_42_31, s_42_34, s_42_35, s_42_37, s_42_40, s_42_41, s_42_42, s_42_44, s_42_45, s_42_48, s_42_51, s_42_53, s_42_54, s_42_55, s_42_58, s_42_59, s_42_60, s_42_63, s_42_66, s_42_67, s_42_68, s_42_70, s_42_73, s_42_74, s_42_76, s_42_77, s_42_80, s_42_81, s_42_83, s_42_84, s_42_87, e_42, mv_i_1, mv_l_1, mv_a_1, mv_a_2, mv_a_3, mk2_n, mk2_i, mk2_l, mk2_a, mk2_u, mk2_x, mB_T, mB_F, mS_cons, mS_nil, mSB_T, mSB_F, mca_nil, mca_i, mca_l, mca_r, mca_u, mca_x, mcat_i, mcat_l, mcat_r, mcat_u, mcat_x, mK_some, mK_none, va_rf_s, va_rf_n, lgc_eq, lgc_lt, lgc_gt, lgc_ge, lgc_le, mrd_104, mrd_105, mrd_106, mrd_107, true_and, and_true, and_self, false_and, and_false, true_or, or_true, false_or, or_false, not_true_eq_false, not_false_eq_true, mgb, mga, mgr, mN, reduceCtorEq, ↓reduceIte, eq_self, ge_iff_le, gt_iff_lt, hk_si, hk_sj, hk_sr, hl_si, hl_sj, hl_sr, hn_si, hn_sj, hn_sr, hs_si, hs_sj, hs_sr, hi_sj, hi_sr, hj_si, hj_sr, hr_si, hr_sj, hi_si, hj_sj, hr_sr, mg_si, mg_sj, mg_sr, Nat.reduceAdd, Nat.reduceMul, Nat.reduceSub, Nat.reduceLT, Nat.reduceGT, Nat.reduceEqDiff, Nat.reduceLeDiff, Nat.left_eq_add, Nat.add_eq_left, Nat.reduceMod, Nat.reduceDiv, Nat.succ_ne_self, g, o1, i43, i45, i42, i47, n7, n8, n9, n10, b0', c39]
end MBs
