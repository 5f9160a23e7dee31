set_option maxRecDepth 100000
/-! the class's machine: arrays, calls -/
def mSR (h : mh_H) (C SC nC nS nb na : Nat) (sN : Int → Prop) (en : Int → Nat) (A : ab) : tr → Nat → Prop
  | .leaf _, _ => True
  | .branch m cs r, sum => mS1 h C SC nC nS nb na sN en A (.branch m cs r) sum ∧ mSR h C SC nC nS nb na sN en A r (sum + 1)
section SUs
variable {d : Nat} {h h1 : mh_H} {Y C SC nC nS nb na p gv c sum s n a x sz St : Nat} {en : Int → Nat} {sN : Int → Prop} {A : ab} {t : tr} {v w : Int32} {rm : Nat → Nat}
theorem mdW_i (f : fG mdW h h1) {b : Nat} (hb : b ≠ 67 ∧ (b < 69 ∨ 72 < b)) : mh_i h1 b = mh_i h b := funext fun j => (f.2.2.2.2.2 b j (by unfold mdW; omega)).1
theorem MB_D (f : fG mdW h h1) (e4 : mh_i h1 67 4 = mh_i h 67 4) (B : MB h Y C SC nC nS nb na p gv) (hC : C < 67 ∨ 72 < C) (hS : SC < 67 ∨ 72 < SC) : MB h1 Y C SC nC nS nb na p gv := by
  have i := f.2.2.2.2.2
  refine MB.of ⟨?_, ?_, ?_, ?_, ?_, ?_, ?_, ?_, ?_, ?_, ?_, ?_, ?_, ?_, ?_, ?_, ?_, ?_, ?_, ?_, ?_, ?_, ?_, ?_, ?_, ?_, ?_, ?_, ?_, ?_, ?_, ?_, ?_, B.pb, B.gb, B.bC, B.bS, B.ne⟩
  · rw [fG_me f]; exact B.g
  · rw [f.2.2.1]; exact B.r0
  · rw [f.2.2.1]; exact B.r1
  · rw [f.2.2.1]; exact B.r6
  · rw [f.2.2.1]; exact B.r7
  · rw [f.2.2.1]; exact B.r11
  · rw [fG_me f]; exact B.g2
  · rw [f.2.2.1]; exact B.r21
  · rw [f.2.2.1]; exact B.r24
  · rw [f.2.2.1]; exact B.r25
  · rw [fG_me f]; exact B.gY
  · rw [f.2.2.1]; exact B.y0
  · rw [f.2.2.1]; exact B.y6
  · rw [fG_me f]; exact B.gC
  · rw [f.2.1]; exact B.lC
  · rw [fG_me f]; exact B.gS
  · rw [f.2.1]; exact B.lS
  · rw [fG_me f]; exact B.g21
  · rw [f.2.1]; exact B.l21
  · rw [fG_me f]; exact B.g22
  · rw [f.2.1]; exact B.l22
  · rw [fG_me f]; exact B.g68
  · rw [f.2.1]; exact B.l68
  · rw [fG_me f]; exact B.g69
  · rw [f.2.1]; exact B.l69
  · rw [fG_me f]; exact B.g70
  · rw [f.2.1]; exact B.l70
  · rw [fG_me f]; exact B.g72
  · rw [f.2.1]; exact B.l72
  · rw [e4]; exact B.p4
  · rw [(i 21 p (by unfold mdW; omega)).1]; exact B.i21
  · rw [(i 22 p (by unfold mdW; omega)).1]; exact B.i22
  · rw [(i 67 2 (by unfold mdW; omega)).1]; exact B.i2
theorem mS1_D (f : fG mdW h h1) (hC : C < 67 ∨ 72 < C) (hS : SC < 67 ∨ 72 < SC) (m : mS1 h C SC nC nS nb na sN en A t sum) : mS1 h1 C SC nC nS nb na sN en A t sum := by
  unfold mS1 at m ⊢
  rw [mdW_i f (by omega), mdW_i f (by omega)]
  exact m
theorem mSR_D (f : fG mdW h h1) (hC : C < 67 ∨ 72 < C) (hS : SC < 67 ∨ 72 < SC) : ∀ t sum, mSR h C SC nC nS nb na sN en A t sum → mSR h1 C SC nC nS nb na sN en A t sum := by
  intro t
  induction t with
  | leaf u => exact fun _ _ => trivial
  | branch m cs r _ ih => exact fun sum w => ⟨mS1_D f hC hS w.1, ih (sum + 1) w.2⟩
/-- places become 0 -/
theorem z_lp (r7 : mh_r h 67 7 = some 70) (g : mg h 67 2) (g70 : mg h 70 100) (l70 : mh_l h 70 = 384) (gS : mg h St 9) (nS' : St ≠ 70) (ha : a < 6) (hz : sz ≤ 64) (s9 : mh_i h St 9 = Int32.ofNat sz) : ∀ m i (h1 : mh_H), i + m = sz → fG (fun b _ => b = 70) h h1 → ∃ h', fG (fun b _ => b = 70) h1 h' ∧ (∀ j, mh_i h' 70 j = if 64 * a + i ≤ j ∧ j < 64 * a + sz then 0 else mh_i h1 70 j) ∧ ∀ Q, mw d 33 Q 66 [some (.ref 67), some (.ref St), some (.int (Int32.ofNat a)), some (.int (Int32.ofNat i))] [] h1 = Q none h' := by
  intro m
  induction m with
  | zero =>
    intro i h1 hi f
    refine ⟨h1, fG_id, fun j => by rw [if_neg (by omega)], fun Q => ?_⟩
    have gS1 : mg h1 St 9 := by rw [fG_me f]; exact gS
    have s91 : mh_i h1 St 9 = Int32.ofNat sz := by rw [(f.2.2.2.2.2 St 9 nS').1]; exact s9
    have le : (sz ≤ i) = True := eq_true (by omega)
    clear r7 g g70 l70 gS s9
    simp (disch := omega) only [s_33_0, s_33_1, s_33_4, s_33_7, s_33_8, s_33_9, s_33_12, s_33_13, s_33_16, s_33_19, s_33_20, s_33_23, s_33_26, s_33_27, s_33_30, s_33_31, s_33_32, s_33_35, s_33_38, s_33_41, s_33_42, s_33_43, s_33_46, s_33_47, s_33_50, s_33_53, s_33_54, s_33_55, s_33_58, s_33_59, s_33_60, s_33_63, s_33_64, s_33_65, s_33_66, s_33_67, s_33_68, s_33_71, s_33_74, s_33_75, s_33_78, s_33_79, s_33_81, s_33_82, s_33_83, s_33_84, s_33_85, s_33_86, s_33_89, s_33_92, e_33, mv_i_1, mv_l_1, mv_a_1, mv_a_2, mv_a_3, mk2_n, mk2_i, mk2_l, mk2_a, mk2_u, mk2_x, mB_T, mB_F, mS_cons, mS_nil, mSB_T, mSB_F, mca_nil, mca_i, mca_l, mca_r, mca_u, mca_x, mcat_i, mcat_l, mcat_r, mcat_u, mcat_x, mK_some, mK_none, va_rf_s, va_rf_n, lgc_eq, lgc_lt, lgc_gt, lgc_ge, lgc_le, mrd_104, mrd_105, mrd_106, mrd_107, true_and, and_true, and_self, false_and, and_false, true_or, or_true, false_or, or_false, not_true_eq_false, not_false_eq_true, mgb, mga, mgr, mN, reduceCtorEq, ↓reduceIte, eq_self, ge_iff_le, gt_iff_lt, hk_si, hk_sj, hk_sr, hl_si, hl_sj, hl_sr, hn_si, hn_sj, hn_sr, hs_si, hs_sj, hs_sr, hi_sj, hi_sr, hj_si, hj_sr, hr_si, hr_sj, hi_si, hj_sj, hr_sr, mg_si, mg_sj, mg_sr, Nat.reduceAdd, Nat.reduceMul, Nat.reduceSub, Nat.reduceLT, Nat.reduceGT, Nat.reduceEqDiff, Nat.reduceLeDiff, Nat.left_eq_add, Nat.add_eq_left, Nat.reduceMod, Nat.reduceDiv, Nat.succ_ne_self, gS1, s91, nn_le, le]
  | succ m ih =>
    intro i h1 hi f
    have f1 : fG (fun b _ => b = 70) h1 (mh_si h1 70 (64 * a + i) 0) := fG_si rfl
    obtain ⟨h', f', e', run⟩ := ih (i + 1) (mh_si h1 70 (64 * a + i) 0) (by omega) (fG_t f f1)
    refine ⟨h', fG_t f1 f', fun j => ?_, fun Q => ?_⟩
    · rw [e', hi_si]
      by_cases c : j = 64 * a + i
      · rw [if_neg (by omega), if_pos ⟨rfl, c⟩, if_pos (by omega)]
      · rw [if_neg (c := 70 = 70 ∧ j = 64 * a + i) (fun z => c z.2)]
        by_cases c2 : 64 * a + (i + 1) ≤ j ∧ j < 64 * a + sz
        · rw [if_pos c2, if_pos (by omega)]
        · rw [if_neg c2, if_neg (by omega)]
    · rw [← run Q]
      have g1 : mg h1 67 2 := by rw [fG_me f]; exact g
      have r71 : mh_r h1 67 7 = some 70 := by rw [f.2.2.1]; exact r7
      have g701 : mg h1 70 100 := by rw [fG_me f]; exact g70
      have l701 : mh_l h1 70 = 384 := by rw [f.2.1]; exact l70
      have gS1 : mg h1 St 9 := by rw [fG_me f]; exact gS
      have s91 : mh_i h1 St 9 = Int32.ofNat sz := by rw [(f.2.2.2.2.2 St 9 nS').1]; exact s9
      have le : (sz ≤ i) = False := eq_false (by omega)
      have em : Int32.ofNat a * 64 = Int32.ofNat (a * 64) := nn_mul (a := a) (b := 64)
      have ek : Int32.ofNat (a * 64) + Int32.ofNat i = Int32.ofNat (a * 64 + i) := nn_add
      have ec : a * 64 + i = 64 * a + i := by omega
      rw [ec] at ek
      have ei : Int32.ofNat i + 1 = Int32.ofNat (i + 1) := nn_add (a := i) (b := 1)
      clear r7 g g70 l70 gS s9 ih run e'
      rw [s_33_66]
      simp (disch := omega) only [s_33_0, s_33_1, s_33_4, s_33_7, s_33_8, s_33_9, s_33_12, s_33_13, s_33_16, s_33_19, s_33_20, s_33_23, s_33_26, s_33_27, s_33_30, s_33_31, s_33_32, s_33_35, s_33_38, s_33_41, s_33_42, s_33_43, s_33_46, s_33_47, s_33_50, s_33_53, s_33_54, s_33_55, s_33_58, s_33_59, s_33_60, s_33_63, s_33_64, s_33_65, s_33_67, s_33_68, s_33_71, s_33_74, s_33_75, s_33_78, s_33_79, s_33_81, s_33_82, s_33_83, s_33_84, s_33_85, s_33_86, s_33_89, s_33_92, e_33, mv_i_1, mv_l_1, mv_a_1, mv_a_2, mv_a_3, mk2_n, mk2_i, mk2_l, mk2_a, mk2_u, mk2_x, mB_T, mB_F, mS_cons, mS_nil, mSB_T, mSB_F, mca_nil, mca_i, mca_l, mca_r, mca_u, mca_x, mcat_i, mcat_l, mcat_r, mcat_u, mcat_x, mK_some, mK_none, va_rf_s, va_rf_n, lgc_eq, lgc_lt, lgc_gt, lgc_ge, lgc_le, mrd_104, mrd_105, mrd_106, mrd_107, true_and, and_true, and_self, false_and, and_false, true_or, or_true, false_or, or_false, not_true_eq_false, not_false_eq_true, mgb, mga, mgr, mN, reduceCtorEq, ↓reduceIte, eq_self, ge_iff_le, gt_iff_lt, hk_si, hk_sj, hk_sr, hl_si, hl_sj, hl_sr, hn_si, hn_sj, hn_sr, hs_si, hs_sj, hs_sr, hi_sj, hi_sr, hj_si, hj_sr, hr_si, hr_sj, hi_si, hj_sj, hr_sr, mg_si, mg_sj, mg_sr, Nat.reduceAdd, Nat.reduceMul, Nat.reduceSub, Nat.reduceLT, Nat.reduceGT, Nat.reduceEqDiff, Nat.reduceLeDiff, Nat.left_eq_add, Nat.add_eq_left, Nat.reduceMod, Nat.reduceDiv, Nat.succ_ne_self, g1, r71, g701, l701, gS1, s91, nn_le, le, em, ek, ei, nn_mxT, nn_clamp]
/-- declare an array -/
theorem v_33c (B : MB h Y C SC nC nS nb na p gv) (gS : mg h St 9) (nS' : St < 67 ∨ 72 < St) (ha : a < 6) (hz : 0 < sz ∧ sz ≤ 64) (s9 : mh_i h St 9 = Int32.ofNat sz) (r8 : mh_r h 67 8 = some 71) (g71 : mg h 71 100) (l71 : mh_l h 71 = 6) (e10 : mh_i h 67 10 = 0) (e3 : mh_i h 67 3 = Int32.ofNat (min c gv)) (h81 : ∀ Q, mcall (d + 3) 81 [.ref 2, .int (Int32.ofNat p)] h Q = Q (some (.int (Int32.ofNat a))) h) : ∃ h', fG mdW h h' ∧ mh_i h' 67 3 = Int32.ofNat (min c gv) ∧ mh_i h' 67 10 = 0 ∧ mh_i h' 67 4 = mh_i h 67 4 ∧ mh_i h' 69 = mh_i h 69 ∧ (∀ j, mh_i h' 70 j = if 64 * a ≤ j ∧ j < 64 * a + sz then 0 else mh_i h 70 j) ∧ (∀ j, mh_i h' 71 j = if j = a then Int32.ofNat sz else mh_i h 71 j) ∧ ∀ Q, mcall (d + 4) 33 [.ref 67, .ref St] h Q = Q none h' := by
  have f0 : fG (fun b _ => b = 71) h (mh_si h 71 a (Int32.ofNat sz)) := fG_si rfl
  obtain ⟨h', f', e', run⟩ := z_lp (d := d + 4) (St := St) (a := a) (sz := sz) (h := mh_si h 71 a (Int32.ofNat sz)) (by rw [f0.2.2.1]; exact B.r7) (by rw [fG_me f0]; exact B.g) (by rw [fG_me f0]; exact B.g70) (by rw [f0.2.1]; exact B.l70) (by rw [fG_me f0]; exact gS) (by omega) ha (by omega) (by rw [hi_si, if_neg (by omega)]; exact s9) sz 0 _ (by omega) fG_id
  have i' := f'.2.2.2.2.2
  refine ⟨h', fG_t (fG_w f0 (fun b j z => Or.inl (by omega))) (fG_w f' (fun b j z => Or.inl (by omega))), ?_, ?_, ?_, ?_, fun j => ?_, fun j => ?_, fun Q => ?_⟩
  · rw [(i' 67 3 (by omega)).1, hi_si, if_neg (by omega)]; exact e3
  · rw [(i' 67 10 (by omega)).1, hi_si, if_neg (by omega)]; exact e10
  · rw [(i' 67 4 (by omega)).1, hi_si, if_neg (by omega)]
  · funext j; rw [(i' 69 j (by omega)).1, hi_si, if_neg (by omega)]
  · rw [e', hi_si, if_neg (c := 70 = 71 ∧ j = a) (by omega)]; rfl
  · rw [(i' 71 j (by omega)).1, hi_si]
    by_cases c : j = a
    · rw [if_pos ⟨rfl, c⟩, if_pos c]
    · rw [if_neg (fun z => c z.2), if_neg c]
  · have g := B.g
    have r0 := B.r0
    have g2 := B.g2
    have f4 := B.p4
    have n0 : (Int32.ofNat sz = 0) = False := by
      have e0 : (0 : Int32) = Int32.ofNat 0 := rfl
      rw [e0, nn_eq (by omega) (by omega)]
      exact eq_false (by omega)
    have r' := run Q
    have e0 : Int32.ofNat 0 = 0 := rfl
    rw [e0] at r'
    rw [← r']
    clear B f0 f' e' run r' i'
    simp (disch := omega) only [s_33_0, s_33_1, s_33_4, s_33_7, s_33_8, s_33_9, s_33_12, s_33_13, s_33_16, s_33_19, s_33_20, s_33_23, s_33_26, s_33_27, s_33_30, s_33_31, s_33_32, s_33_35, s_33_38, s_33_41, s_33_42, s_33_43, s_33_46, s_33_47, s_33_50, s_33_53, s_33_54, s_33_55, s_33_58, s_33_59, s_33_60, s_33_63, s_33_64, s_33_65, s_33_67, s_33_68, s_33_71, s_33_74, s_33_75, s_33_78, s_33_79, s_33_81, s_33_82, s_33_83, s_33_84, s_33_85, s_33_86, s_33_89, s_33_92, e_33, mv_i_1, mv_l_1, mv_a_1, mv_a_2, mv_a_3, mk2_n, mk2_i, mk2_l, mk2_a, mk2_u, mk2_x, mB_T, mB_F, mS_cons, mS_nil, mSB_T, mSB_F, mca_nil, mca_i, mca_l, mca_r, mca_u, mca_x, mcat_i, mcat_l, mcat_r, mcat_u, mcat_x, mK_some, mK_none, va_rf_s, va_rf_n, lgc_eq, lgc_lt, lgc_gt, lgc_ge, lgc_le, mrd_104, mrd_105, mrd_106, mrd_107, true_and, and_true, and_self, false_and, and_false, true_or, or_true, false_or, or_false, not_true_eq_false, not_false_eq_true, mgb, mga, mgr, mN, reduceCtorEq, ↓reduceIte, eq_self, ge_iff_le, gt_iff_lt, hk_si, hk_sj, hk_sr, hl_si, hl_sj, hl_sr, hn_si, hn_sj, hn_sr, hs_si, hs_sj, hs_sr, hi_sj, hi_sr, hj_si, hj_sr, hr_si, hr_sj, hi_si, hj_sj, hr_sr, mg_si, mg_sj, mg_sr, Nat.reduceAdd, Nat.reduceMul, Nat.reduceSub, Nat.reduceLT, Nat.reduceGT, Nat.reduceEqDiff, Nat.reduceLeDiff, Nat.left_eq_add, Nat.add_eq_left, Nat.reduceMod, Nat.reduceDiv, Nat.succ_ne_self, g, gS, s9, n0, r0, g2, f4, h81, r8, g71, l71, nn_mxT, nn_clamp]
/-- the SUMs of a call -/
theorem cl_lp (hA : A.n ≤ 12 ∧ A.a ≤ 6) (hC : C < 67 ∨ 72 < C) (hS : SC < 67 ∨ 72 < SC) (nS' : St < 67 ∨ 72 < St) {V0 P0 N0 : Nat → Int32} {su : Nat} (hsu : A.n + su ≤ 12) (hsum : sum < 900000) (h80 : ∀ h', fG mdW h h' → mh_i h' 67 4 = mh_i h 67 4 → ∀ Q, mcall (d + 3) 80 [.ref 2, .int (Int32.ofNat p)] h' Q = Q (some (.int (Int32.ofNat A.n))) h') (gS : mg h St 9) (s11 : mh_i h St 11 = Int32.ofNat su) (s10 : mh_i h St 10 = Int32.ofNat sum) {x2 x3 : Int32} : ∀ t k c (h1 : mh_H), k + tl t = su → fG mdW h h1 → mh_i h1 67 4 = mh_i h 67 4 → MB h1 Y C SC nC nS nb na p gv → mSR h1 C SC nC nS nb na sN en A t (sum + k) → (∀ j, j < A.n → mh_i h1 69 j = V0 j) → mh_i h1 70 = P0 → mh_i h1 68 = N0 → mh_i h1 67 10 = 0 → mh_i h1 67 3 = Int32.ofNat (min c gv) → ∃ h', fG mdW h1 h' ∧ mh_i h' 67 4 = mh_i h1 67 4 ∧ mh_i h' 67 3 = Int32.ofNat (min (s_row en V0 P0 A.rm N0 gv t (A.n + k) c (mh_i h1 69)).c gv) ∧ mh_i h' 67 10 = (s_row en V0 P0 A.rm N0 gv t (A.n + k) c (mh_i h1 69)).w ∧ ((s_row en V0 P0 A.rm N0 gv t (A.n + k) c (mh_i h1 69)).w = 0 → mh_i h' 69 = (s_row en V0 P0 A.rm N0 gv t (A.n + k) c (mh_i h1 69)).V) ∧ (∀ j, j < A.n → mh_i h' 69 j = V0 j) ∧ mh_i h' 70 = P0 ∧ mh_i h' 71 = mh_i h1 71 ∧ ∀ Q, mw (d + 4) 30 Q 116 [some (.ref 67), some (.ref St), some (.int x2), some (.int x3), some (.int (Int32.ofNat k))] [] h1 = mw (d + 4) 30 Q 160 [some (.ref 67), some (.ref St), some (.int x2), some (.int x3), some (.int (Int32.ofNat su))] [] h' := by
  -- behind a trap nothing more comes
  have TR : ∀ m k (h1 : mh_H) (t : tr), k + m = su → tl t = m → fG mdW h h1 → mh_i h1 67 4 = mh_i h 67 4 → MB h1 Y C SC nC nS nb na p gv → mSR h1 C SC nC nS nb na sN en A t (sum + k) → ¬ mh_i h1 67 10 = 0 → ∃ h', fG mcW h1 h' ∧ mh_i h' 67 3 = mh_i h1 67 3 ∧ mh_i h' 67 10 = mh_i h1 67 10 ∧ ∀ Q, mw (d + 4) 30 Q 116 [some (.ref 67), some (.ref St), some (.int x2), some (.int x3), some (.int (Int32.ofNat k))] [] h1 = mw (d + 4) 30 Q 160 [some (.ref 67), some (.ref St), some (.int x2), some (.int x3), some (.int (Int32.ofNat su))] [] h' := by
    intro m
    induction m with
    | zero =>
      intro k h1 t hk ht f e4 B1 mR n10
      refine ⟨h1, fG_id, rfl, rfl, fun Q => ?_⟩
      have gS1 : mg h1 St 9 := by rw [fG_me f]; exact gS
      have s111 : mh_i h1 St 11 = Int32.ofNat su := by rw [mdW_i f (by omega)]; exact s11
      have le : (su ≤ k) = True := eq_true (by omega)
      have ek : k = su := by omega
      subst ek
      clear h80 gS s11 s10 B1 mR
      simp (disch := omega) only [s_30_0, s_30_1, s_30_4, s_30_7, s_30_8, s_30_11, s_30_12, s_30_13, s_30_14, s_30_17, s_30_20, s_30_21, s_30_24, s_30_25, s_30_26, s_30_27, s_30_30, s_30_76, s_30_77, s_30_78, s_30_81, s_30_84, s_30_85, s_30_86, s_30_87, s_30_90, s_30_91, s_30_92, s_30_93, s_30_96, s_30_99, s_30_102, s_30_105, s_30_106, s_30_107, s_30_110, s_30_113, s_30_114, s_30_116, s_30_118, s_30_119, s_30_122, s_30_125, s_30_126, s_30_127, s_30_130, s_30_131, s_30_134, s_30_137, s_30_139, s_30_140, s_30_141, s_30_142, s_30_145, s_30_147, s_30_148, s_30_151, s_30_154, s_30_157, s_30_163, s_30_164, s_30_165, s_30_168, s_30_169, s_30_172, s_30_175, s_30_176, s_30_177, s_30_180, s_30_183, s_30_186, s_30_189, s_30_190, s_30_191, s_30_194, s_30_197, s_30_198, s_30_201, s_30_204, s_30_205, s_30_208, s_30_209, s_30_210, s_30_211, s_30_212, s_30_215, s_30_217, s_30_220, s_30_222, s_30_225, s_30_226, s_30_229, s_30_230, s_30_233, s_30_236, s_30_237, s_30_238, s_30_241, e_30, mv_i_1, mv_l_1, mv_a_1, mv_a_2, mv_a_3, mk2_n, mk2_i, mk2_l, mk2_a, mk2_u, mk2_x, mB_T, mB_F, mS_cons, mS_nil, mSB_T, mSB_F, mca_nil, mca_i, mca_l, mca_r, mca_u, mca_x, mcat_i, mcat_l, mcat_r, mcat_u, mcat_x, mK_some, mK_none, va_rf_s, va_rf_n, lgc_eq, lgc_lt, lgc_gt, lgc_ge, lgc_le, mrd_104, mrd_105, mrd_106, mrd_107, true_and, and_true, and_self, false_and, and_false, true_or, or_true, false_or, or_false, not_true_eq_false, not_false_eq_true, mgb, mga, mgr, mN, reduceCtorEq, ↓reduceIte, eq_self, ge_iff_le, gt_iff_lt, hk_si, hk_sj, hk_sr, hl_si, hl_sj, hl_sr, hn_si, hn_sj, hn_sr, hs_si, hs_sj, hs_sr, hi_sj, hi_sr, hj_si, hj_sr, hr_si, hr_sj, hi_si, hj_sj, hr_sr, mg_si, mg_sj, mg_sr, Nat.reduceAdd, Nat.reduceMul, Nat.reduceSub, Nat.reduceLT, Nat.reduceGT, Nat.reduceEqDiff, Nat.reduceLeDiff, Nat.left_eq_add, Nat.add_eq_left, Nat.reduceMod, Nat.reduceDiv, Nat.succ_ne_self, gS1, s111, nn_le, le]
    | succ m ih =>
      intro k h1 t hk ht f e4 B1 mR n10
      cases t with
      | leaf u => exact absurd ht (by show ¬ 0 = m + 1; omega)
      | branch nn cs r =>
        obtain ⟨m1, mR'⟩ := mR
        obtain ⟨h2, y, f2, u3, u10, run2⟩ := v_37t (d := d) B1 m1 n10
        have f12 := fG_t f (fG_w f2 md_mc)
        have e42 : mh_i h2 67 4 = mh_i h 67 4 := ((f2.2.2.2.2.2 67 4 (by unfold mcW; omega)).1).trans e4
        have B2 := MB_G f2 B1
        have c32 := c_32t (d := d + 3) (v := y) (w := Int32.ofNat (A.n + k)) B2 (by rw [u10]; exact n10)
        obtain ⟨h3, f3, v3, v10, run3⟩ := ih (k + 1) h2 r (by omega) (by have : tl (.branch nn cs r) = 1 + tl r := rfl; omega) f12 e42 B2 (mSR_D (fG_w f2 md_mc) hC hS _ _ mR') (by rw [u10]; exact n10)
        refine ⟨h3, fG_t f2 f3, v3.trans u3, v10.trans u10, fun Q => ?_⟩
        rw [← run3 Q]
        have gS1 : mg h1 St 9 := by rw [fG_me f]; exact gS
        have s111 : mh_i h1 St 11 = Int32.ofNat su := by rw [mdW_i f (by omega)]; exact s11
        have s101 : mh_i h1 St 10 = Int32.ofNat sum := by rw [mdW_i f (by omega)]; exact s10
        have le : (su ≤ k) = False := eq_false (by omega)
        have h80' := h80 h1 f e4
        have g := B1.g
        have r0 := B1.r0
        have g2 := B1.g2
        have f4 := B1.p4
        have g2' := B2.g
        have ea : Int32.ofNat A.n + Int32.ofNat k = Int32.ofNat (A.n + k) := nn_add
        have eb : Int32.ofNat sum + Int32.ofNat k = Int32.ofNat (sum + k) := nn_add
        have ei : Int32.ofNat k + 1 = Int32.ofNat (k + 1) := nn_add (a := k) (b := 1)
        clear h80 gS s11 s10 B1 B2 m1 mR' ih run3 f3
        rw [s_30_116]
        simp (disch := omega) only [s_30_0, s_30_1, s_30_4, s_30_7, s_30_8, s_30_11, s_30_12, s_30_13, s_30_14, s_30_17, s_30_20, s_30_21, s_30_24, s_30_25, s_30_26, s_30_27, s_30_30, s_30_76, s_30_77, s_30_78, s_30_81, s_30_84, s_30_85, s_30_86, s_30_87, s_30_90, s_30_91, s_30_92, s_30_93, s_30_96, s_30_99, s_30_102, s_30_105, s_30_106, s_30_107, s_30_110, s_30_113, s_30_114, s_30_118, s_30_119, s_30_122, s_30_125, s_30_126, s_30_127, s_30_130, s_30_131, s_30_134, s_30_137, s_30_139, s_30_140, s_30_141, s_30_142, s_30_145, s_30_147, s_30_148, s_30_151, s_30_154, s_30_157, s_30_163, s_30_164, s_30_165, s_30_168, s_30_169, s_30_172, s_30_175, s_30_176, s_30_177, s_30_180, s_30_183, s_30_186, s_30_189, s_30_190, s_30_191, s_30_194, s_30_197, s_30_198, s_30_201, s_30_204, s_30_205, s_30_208, s_30_209, s_30_210, s_30_211, s_30_212, s_30_215, s_30_217, s_30_220, s_30_222, s_30_225, s_30_226, s_30_229, s_30_230, s_30_233, s_30_236, s_30_237, s_30_238, s_30_241, e_30, mv_i_1, mv_l_1, mv_a_1, mv_a_2, mv_a_3, mk2_n, mk2_i, mk2_l, mk2_a, mk2_u, mk2_x, mB_T, mB_F, mS_cons, mS_nil, mSB_T, mSB_F, mca_nil, mca_i, mca_l, mca_r, mca_u, mca_x, mcat_i, mcat_l, mcat_r, mcat_u, mcat_x, mK_some, mK_none, va_rf_s, va_rf_n, lgc_eq, lgc_lt, lgc_gt, lgc_ge, lgc_le, mrd_104, mrd_105, mrd_106, mrd_107, true_and, and_true, and_self, false_and, and_false, true_or, or_true, false_or, or_false, not_true_eq_false, not_false_eq_true, mgb, mga, mgr, mN, reduceCtorEq, ↓reduceIte, eq_self, ge_iff_le, gt_iff_lt, hk_si, hk_sj, hk_sr, hl_si, hl_sj, hl_sr, hn_si, hn_sj, hn_sr, hs_si, hs_sj, hs_sr, hi_sj, hi_sr, hj_si, hj_sr, hr_si, hr_sj, hi_si, hj_sj, hr_sr, mg_si, mg_sj, mg_sr, Nat.reduceAdd, Nat.reduceMul, Nat.reduceSub, Nat.reduceLT, Nat.reduceGT, Nat.reduceEqDiff, Nat.reduceLeDiff, Nat.left_eq_add, Nat.add_eq_left, Nat.reduceMod, Nat.reduceDiv, Nat.succ_ne_self, gS1, s111, nn_le, le, g, r0, g2, f4, h80', ea, s101, eb, run2, g2', c32, ei]
  intro t
  induction t with
  | leaf u =>
    intro k c h1 hk f e4 B1 mR hV hP hN e10 e3
    have hk' : k = su := hk
    refine ⟨h1, fG_id, rfl, e3, e10, fun _ => rfl, hV, hP, rfl, fun Q => ?_⟩
    have gS1 : mg h1 St 9 := by rw [fG_me f]; exact gS
    have s111 : mh_i h1 St 11 = Int32.ofNat su := by rw [mdW_i f (by omega)]; exact s11
    have le : (su ≤ k) = True := eq_true (by omega)
    subst hk'
    clear h80 gS s11 s10 B1 mR TR
    simp (disch := omega) only [s_30_0, s_30_1, s_30_4, s_30_7, s_30_8, s_30_11, s_30_12, s_30_13, s_30_14, s_30_17, s_30_20, s_30_21, s_30_24, s_30_25, s_30_26, s_30_27, s_30_30, s_30_76, s_30_77, s_30_78, s_30_81, s_30_84, s_30_85, s_30_86, s_30_87, s_30_90, s_30_91, s_30_92, s_30_93, s_30_96, s_30_99, s_30_102, s_30_105, s_30_106, s_30_107, s_30_110, s_30_113, s_30_114, s_30_116, s_30_118, s_30_119, s_30_122, s_30_125, s_30_126, s_30_127, s_30_130, s_30_131, s_30_134, s_30_137, s_30_139, s_30_140, s_30_141, s_30_142, s_30_145, s_30_147, s_30_148, s_30_151, s_30_154, s_30_157, s_30_163, s_30_164, s_30_165, s_30_168, s_30_169, s_30_172, s_30_175, s_30_176, s_30_177, s_30_180, s_30_183, s_30_186, s_30_189, s_30_190, s_30_191, s_30_194, s_30_197, s_30_198, s_30_201, s_30_204, s_30_205, s_30_208, s_30_209, s_30_210, s_30_211, s_30_212, s_30_215, s_30_217, s_30_220, s_30_222, s_30_225, s_30_226, s_30_229, s_30_230, s_30_233, s_30_236, s_30_237, s_30_238, s_30_241, e_30, mv_i_1, mv_l_1, mv_a_1, mv_a_2, mv_a_3, mk2_n, mk2_i, mk2_l, mk2_a, mk2_u, mk2_x, mB_T, mB_F, mS_cons, mS_nil, mSB_T, mSB_F, mca_nil, mca_i, mca_l, mca_r, mca_u, mca_x, mcat_i, mcat_l, mcat_r, mcat_u, mcat_x, mK_some, mK_none, va_rf_s, va_rf_n, lgc_eq, lgc_lt, lgc_gt, lgc_ge, lgc_le, mrd_104, mrd_105, mrd_106, mrd_107, true_and, and_true, and_self, false_and, and_false, true_or, or_true, false_or, or_false, not_true_eq_false, not_false_eq_true, mgb, mga, mgr, mN, reduceCtorEq, ↓reduceIte, eq_self, ge_iff_le, gt_iff_lt, hk_si, hk_sj, hk_sr, hl_si, hl_sj, hl_sr, hn_si, hn_sj, hn_sr, hs_si, hs_sj, hs_sr, hi_sj, hi_sr, hj_si, hj_sr, hr_si, hr_sj, hi_si, hj_sj, hr_sr, mg_si, mg_sj, mg_sr, Nat.reduceAdd, Nat.reduceMul, Nat.reduceSub, Nat.reduceLT, Nat.reduceGT, Nat.reduceEqDiff, Nat.reduceLeDiff, Nat.left_eq_add, Nat.add_eq_left, Nat.reduceMod, Nat.reduceDiv, Nat.succ_ne_self, gS1, s111, nn_le, le]
  | branch nn cs r _ ih =>
    intro k c h1 hk f e4 B1 mR hV hP hN e10 e3
    have htl : tl (.branch nn cs r) = 1 + tl r := rfl
    have mR0 := mR
    obtain ⟨m1, mR'⟩ := mR
    obtain ⟨h1', y, h2, f1, o, run1, run2⟩ := st_p (d := d) (s := A.n + k) hA B1 m1 e10 e3 (by omega)
    obtain ⟨o1, o2, o3, o4, o5, o6, o7⟩ := o
    have wS1 : wS sN en A (.branch nn cs r) false := by obtain ⟨c0, -, -, -, -, w, -⟩ := m1; exact w
    have ag : AG A.n A.a A.rm (mh_i h1 69) V0 (mh_i h1 70) P0 := ⟨hV, fun x i _ _ => by rw [hP]⟩
    have ex := (xv_ag (sN := sN) (en := en) (N := mh_i h1 68) (g := gv) ag (.branch nn cs r)).1 c wS1
    rw [hN] at ex
    rw [hN, ex] at o2 o3 o5 o6
    have gS1 : mg h1 St 9 := by rw [fG_me f]; exact gS
    have s111 : mh_i h1 St 11 = Int32.ofNat su := by rw [mdW_i f (by omega)]; exact s11
    have s101 : mh_i h1 St 10 = Int32.ofNat sum := by rw [mdW_i f (by omega)]; exact s10
    have le : (su ≤ k) = False := eq_false (by omega)
    have h80' := h80 h1 f e4
    have g := B1.g
    have r0 := B1.r0
    have g2 := B1.g2
    have f4 := B1.p4
    have g2' : mg h1' 67 2 := by rw [fG_me f1]; exact g
    have ea : Int32.ofNat A.n + Int32.ofNat k = Int32.ofNat (A.n + k) := nn_add
    have eb : Int32.ofNat sum + Int32.ofNat k = Int32.ofNat (sum + k) := nn_add
    have ei : Int32.ofNat k + 1 = Int32.ofNat (k + 1) := nn_add (a := k) (b := 1)
    have step : ∀ Q, mw (d + 4) 30 Q 116 [some (.ref 67), some (.ref St), some (.int x2), some (.int x3), some (.int (Int32.ofNat k))] [] h1 = mw (d + 4) 30 Q 116 [some (.ref 67), some (.ref St), some (.int x2), some (.int x3), some (.int (Int32.ofNat (k + 1)))] [] h2 := fun Q => by
      have run2' := run2 (d + 3)
      clear h80 gS s11 s10 B1 m1 mR' mR0 ih TR o1 o2 o3 o5 o6 ex ag f1 wS1
      rw [s_30_116]
      simp (disch := omega) only [s_30_0, s_30_1, s_30_4, s_30_7, s_30_8, s_30_11, s_30_12, s_30_13, s_30_14, s_30_17, s_30_20, s_30_21, s_30_24, s_30_25, s_30_26, s_30_27, s_30_30, s_30_76, s_30_77, s_30_78, s_30_81, s_30_84, s_30_85, s_30_86, s_30_87, s_30_90, s_30_91, s_30_92, s_30_93, s_30_96, s_30_99, s_30_102, s_30_105, s_30_106, s_30_107, s_30_110, s_30_113, s_30_114, s_30_118, s_30_119, s_30_122, s_30_125, s_30_126, s_30_127, s_30_130, s_30_131, s_30_134, s_30_137, s_30_139, s_30_140, s_30_141, s_30_142, s_30_145, s_30_147, s_30_148, s_30_151, s_30_154, s_30_157, s_30_163, s_30_164, s_30_165, s_30_168, s_30_169, s_30_172, s_30_175, s_30_176, s_30_177, s_30_180, s_30_183, s_30_186, s_30_189, s_30_190, s_30_191, s_30_194, s_30_197, s_30_198, s_30_201, s_30_204, s_30_205, s_30_208, s_30_209, s_30_210, s_30_211, s_30_212, s_30_215, s_30_217, s_30_220, s_30_222, s_30_225, s_30_226, s_30_229, s_30_230, s_30_233, s_30_236, s_30_237, s_30_238, s_30_241, e_30, mv_i_1, mv_l_1, mv_a_1, mv_a_2, mv_a_3, mk2_n, mk2_i, mk2_l, mk2_a, mk2_u, mk2_x, mB_T, mB_F, mS_cons, mS_nil, mSB_T, mSB_F, mca_nil, mca_i, mca_l, mca_r, mca_u, mca_x, mcat_i, mcat_l, mcat_r, mcat_u, mcat_x, mK_some, mK_none, va_rf_s, va_rf_n, lgc_eq, lgc_lt, lgc_gt, lgc_ge, lgc_le, mrd_104, mrd_105, mrd_106, mrd_107, true_and, and_true, and_self, false_and, and_false, true_or, or_true, false_or, or_false, not_true_eq_false, not_false_eq_true, mgb, mga, mgr, mN, reduceCtorEq, ↓reduceIte, eq_self, ge_iff_le, gt_iff_lt, hk_si, hk_sj, hk_sr, hl_si, hl_sj, hl_sr, hn_si, hn_sj, hn_sr, hs_si, hs_sj, hs_sr, hi_sj, hi_sr, hj_si, hj_sr, hr_si, hr_sj, hi_si, hj_sj, hr_sr, mg_si, mg_sj, mg_sr, Nat.reduceAdd, Nat.reduceMul, Nat.reduceSub, Nat.reduceLT, Nat.reduceGT, Nat.reduceEqDiff, Nat.reduceLeDiff, Nat.left_eq_add, Nat.add_eq_left, Nat.reduceMod, Nat.reduceDiv, Nat.succ_ne_self, gS1, s111, nn_le, le, g, r0, g2, f4, h80', ea, s101, eb, run1, g2', run2', ei]
    have f2 := fG_t f o1
    have e42 : mh_i h2 67 4 = mh_i h 67 4 := o4.trans e4
    have B2 := MB_D o1 o4 B1 hC hS
    have mR2 := mSR_D o1 hC hS _ _ mR'
    have i68 : mh_i h2 68 = N0 := by rw [mdW_i o1 (by omega)]; exact hN
    have sr : s_row en V0 P0 A.rm N0 gv (.branch nn cs r) (A.n + k) c (mh_i h1 69) = s_z V0 P0 (xv en V0 P0 A.rm N0 gv (.branch nn cs r) none c) (fun v c' => s_row en V0 P0 A.rm N0 gv r (A.n + k + 1) c' (s_up (mh_i h1 69) (A.n + k) v)) := rfl
    rw [sr]
    obtain ⟨q, eq⟩ : ∃ q, xv en V0 P0 A.rm N0 gv (.branch nn cs r) none c = q := ⟨_, rfl⟩
    rw [eq] at o2 o3 o5 o6 ⊢
    unfold s_z at o2 o3 o5 o6 ⊢
    cases hq : q.1 with
    | none =>
      rw [hq] at o2 o3 o5 o6
      have hw : ¬ q.2.1 = 0 := by
        -- a trap is no 0
        obtain ⟨h9, y9, -, q9, -⟩ := v_37s (d := d) hA B1 m1 e10 e3
        rw [hN, ex, eq] at q9
        obtain ⟨-, q9⟩ := q9
        rw [hq] at q9
        exact q9.1
      obtain ⟨h3, f3, v3, v10, run3⟩ := TR (su - (k + 1)) (k + 1) h2 r (by omega) (by omega) f2 e42 B2 mR2 (by rw [o3]; exact hw)
      refine ⟨h3, fG_t o1 (fG_w f3 md_mc), ((f3.2.2.2.2.2 67 4 (by unfold mcW; omega)).1).trans o4, v3.trans o2, v10.trans o3, fun z => absurd z hw, fun j hj => ?_, ?_, ?_, fun Q => (step Q).trans (run3 Q)⟩
      · rw [MB_i f3 (by omega), o5]; exact hV j hj
      · rw [MB_i f3 (by omega), o6]; exact hP
      · rw [MB_i f3 (by omega), o7]
    | some v =>
      rw [hq] at o2 o3 o5 o6
      have o5 : mh_i h2 69 = s_up (mh_i h1 69) (A.n + k) v := o5
      have o6 : mh_i h2 70 = mh_i h1 70 := o6
      have ks : sum + k + 1 = sum + (k + 1) := by omega
      rw [ks] at mR2
      obtain ⟨h3, f3, w4, w3, w10, wV, wn, wP, w71, run3⟩ := ih (k + 1) q.2.2 h2 (by omega) f2 e42 B2 mR2 (fun j hj => by rw [o5]; unfold s_up; rw [if_neg (by omega)]; exact hV j hj) (o6.trans hP) i68 o3 o2
      rw [o5] at w3 w10 wV
      have ka : A.n + (k + 1) = A.n + k + 1 := by omega
      rw [ka] at w3 w10 wV
      exact ⟨h3, fG_t o1 f3, w4.trans o4, w3, w10, wV, wn, wP, w71.trans o7, fun Q => (step Q).trans (run3 Q)⟩
end SUs
