set_option maxRecDepth 100000
/-! the class's lay, whole -/
def enL (h : mh_H) (B : Nat) : mh_H := mh_si (mh_si (mh_si (mh_si (mh_sr (mh_sr h 2 0 (some B)) 2 1 (some (B + 5))) 2 2 0) 2 16 0) 2 17 (-1)) 2 18 0
/-- what the class has laid -/
def CLD (h : mh_H) (B n m : Nat) (D : lyD) (Sf : cps) (Pt : Nat → lpt) (e : Nat) : Prop := (CLC h B n m D Sf) ∧ (CPz h B D Pt 0 e) ∧ (∀ q, q < e → mh_i h 27 q = Int32.ofNat (fstP Pt e q) ∧ mh_i h 28 q = Int32.ofNat (othP Pt e q)) ∧ (mh_i h 2 2 = Int32.ofNat (e + 1) ∧ e ≤ 249) ∧ (∃ St, mh_r h 20 e = some St ∧ mg h St 9 ∧ (∀ j, mh_i h St j = if j = 8 then -1 else 0)) ∧ (mh_i h 21 e = 0 ∧ mh_i h 22 e = 0) ∧ (∀ q, q < e → (Pt q).S < Sf.1 8)
theorem CLD.of {h : mh_H} {B n m : Nat} {D : lyD} {Sf : cps} {Pt : Nat → lpt} {e : Nat} (q : (CLC h B n m D Sf) ∧ (CPz h B D Pt 0 e) ∧ (∀ q, q < e → mh_i h 27 q = Int32.ofNat (fstP Pt e q) ∧ mh_i h 28 q = Int32.ofNat (othP Pt e q)) ∧ (mh_i h 2 2 = Int32.ofNat (e + 1) ∧ e ≤ 249) ∧ (∃ St, mh_r h 20 e = some St ∧ mg h St 9 ∧ (∀ j, mh_i h St j = if j = 8 then -1 else 0)) ∧ (mh_i h 21 e = 0 ∧ mh_i h 22 e = 0) ∧ (∀ q, q < e → (Pt q).S < Sf.1 8)) : CLD h B n m D Sf Pt e := q
theorem CLD.c {h : mh_H} {B n m : Nat} {D : lyD} {Sf : cps} {Pt : Nat → lpt} {e : Nat} (q : CLD h B n m D Sf Pt e) : CLC h B n m D Sf := q.1
theorem CLD.p {h : mh_H} {B n m : Nat} {D : lyD} {Sf : cps} {Pt : Nat → lpt} {e : Nat} (q : CLD h B n m D Sf Pt e) : CPz h B D Pt 0 e := q.2.1
theorem CLD.l {h : mh_H} {B n m : Nat} {D : lyD} {Sf : cps} {Pt : Nat → lpt} {e : Nat} (q : CLD h B n m D Sf Pt e) : ∀ q, q < e → mh_i h 27 q = Int32.ofNat (fstP Pt e q) ∧ mh_i h 28 q = Int32.ofNat (othP Pt e q) := q.2.2.1
theorem CLD.k {h : mh_H} {B n m : Nat} {D : lyD} {Sf : cps} {Pt : Nat → lpt} {e : Nat} (q : CLD h B n m D Sf Pt e) : mh_i h 2 2 = Int32.ofNat (e + 1) ∧ e ≤ 249 := q.2.2.2.1
theorem CLD.e {h : mh_H} {B n m : Nat} {D : lyD} {Sf : cps} {Pt : Nat → lpt} {e : Nat} (q : CLD h B n m D Sf Pt e) : ∃ St, mh_r h 20 e = some St ∧ mg h St 9 ∧ (∀ j, mh_i h St j = if j = 8 then -1 else 0) := q.2.2.2.2.1
theorem CLD.z {h : mh_H} {B n m : Nat} {D : lyD} {Sf : cps} {Pt : Nat → lpt} {e : Nat} (q : CLD h B n m D Sf Pt e) : mh_i h 21 e = 0 ∧ mh_i h 22 e = 0 := q.2.2.2.2.2.1
theorem CLD.s {h : mh_H} {B n m : Nat} {D : lyD} {Sf : cps} {Pt : Nat → lpt} {e : Nat} (q : CLD h B n m D Sf Pt e) : ∀ q, q < e → (Pt q).S < Sf.1 8 := q.2.2.2.2.2.2
/-- other cells stay -/
def fLx (k : Nat) (h h' : mh_H) : Prop := mh_n h' = mh_n h + k ∧ mh_s h' = mh_s h + 17 * k ∧ (∀ b, b < mh_n h → mh_k h' b = mh_k h b ∧ mh_l h' b = mh_l h b) ∧ (∀ b j, b < mh_n h → ¬ cyW b j → mh_i h' b j = mh_i h b j ∧ mh_j h' b j = mh_j h b j) ∧ ∀ b j, b < mh_n h → b ≠ 20 → ¬ (b = 2 ∧ j < 2) → mh_r h' b j = mh_r h b j
section LVl
variable {d : Nat} {h h1 h2 hL : mh_H} {B n m mn : Nat} {D : lyD} {K : Nat → Int32} {Sc Sf : cps} {Pt : Nat → lpt} {e r se f N nP : Nat} {x1 x2 : Option Value}
theorem enL_i {y j : Nat} : mh_i (enL h B) y j = if y = 2 ∧ (j = 2 ∨ j = 16 ∨ j = 18) then 0 else if y = 2 ∧ j = 17 then -1 else mh_i h y j := by
  unfold enL
  simp only [hi_si, hi_sr]
  by_cases c : y = 2
  · subst c
    by_cases c2 : j = 2
    · subst c2; rfl
    by_cases c16 : j = 16
    · subst c16; rfl
    by_cases c17 : j = 17
    · subst c17; rfl
    by_cases c18 : j = 18
    · subst c18; rfl
    rw [if_neg (by omega), if_neg (by omega), if_neg (by omega), if_neg (by omega), if_neg (by omega), if_neg (by omega)]
  · rw [if_neg (by omega), if_neg (by omega), if_neg (by omega), if_neg (by omega), if_neg (by omega), if_neg (by omega)]
theorem fLx_0 (x : fLy (enL h B) hL) : fLx 0 h hL := by
  obtain ⟨a1, a2, a3, a4, a5, a6⟩ := x
  refine ⟨by rw [a3]; rfl, by rw [a4]; rfl, fun b hb => by rw [a1, a2]; exact ⟨rfl, rfl⟩, fun b j hb w => ?_, fun b j hb w w2 => ?_⟩
  · obtain ⟨y1, y2⟩ := a5 b j w
    rw [y1, y2, enL_i, if_neg (fun z => w (by unfold cyW; omega)), if_neg (fun z => w (by unfold cyW; omega))]
    exact ⟨rfl, rfl⟩
  · rw [a6 b j w]
    unfold enL
    simp only [hr_si, hr_sr]
    rw [if_neg (by omega), if_neg (by omega)]
theorem fLx_1 (x : fLx 0 h hL) (hN : 2644 ≤ mh_n h) (y : fG lnW (leH hL e) h1) : fLx 1 h h1 := by
  obtain ⟨a1, a2, a3, a4, a5⟩ := x
  obtain ⟨b1, b2, b3, b4, b5, b6⟩ := y
  obtain ⟨-, -, n1, s1⟩ := le_k (h := hL) (e := e) (y := 0)
  refine ⟨by omega, by omega, fun b hb => ?_, fun b j hb w => ?_, fun b j hb w w2 => ?_⟩
  · obtain ⟨k1, l1, -, -⟩ := le_k (h := hL) (e := e) (y := b)
    rw [b1, b2, k1, l1, if_neg (by omega), if_neg (by omega)]
    exact a3 b hb
  · obtain ⟨y1, y2⟩ := b6 b j (fun z => w (by unfold lnW at z; unfold cyW; omega))
    obtain ⟨z1, z2⟩ := a4 b j hb w
    rw [y1, y2, le_i (by omega) (fun z => w (by unfold cyW; omega)) (fun z => w (by unfold cyW; omega)), le_j (by omega)]
    exact ⟨z1, z2⟩
  · rw [b3, le_r (by omega), if_neg (fun z => w z.1)]
    exact a5 b j hb w w2
theorem CSt_0 : CSt (enL h B) (lyX0 D) none 0 0 := by
  have e2 : mh_i (enL h B) 2 2 = 0 := by rw [enL_i, if_pos ⟨rfl, Or.inl rfl⟩]
  have e16 : mh_i (enL h B) 2 16 = 0 := by rw [enL_i, if_pos ⟨rfl, Or.inr (Or.inl rfl)⟩]
  have e18 : mh_i (enL h B) 2 18 = 0 := by rw [enL_i, if_pos ⟨rfl, Or.inr (Or.inr rfl)⟩]
  have e17 : mh_i (enL h B) 2 17 = -1 := by rw [enL_i, if_neg (by omega), if_pos ⟨rfl, rfl⟩]
  exact CSt.of ⟨⟨e2, by decide⟩, ⟨e16, Nat.le_refl _⟩, ⟨e17, fun c z => by cases z⟩, e18, Or.inl ⟨e17, rfl, rfl⟩, Or.inl ⟨rfl, rfl⟩, Or.inl ⟨rfl, rfl⟩⟩
/-- its entry -/
theorem t_85a (g2 : mg h 2 4) (C : CLC (enL h B) B n m D Sf) (hc : 0 < D.c) {len nt : Nat} (h1 : D.H (6 * (D.c - 1) + 1) = Int32.ofNat len) (hl : len < 50000) (h0 : D.H (6 * (D.c - 1)) = Int32.ofNat nt) (hnt : 0 < len → nt < m) (h3 : D.H (6 * (D.c - 1) + 3) = Int32.ofNat (D.S (D.c - 1))) : ∀ Q, mcall (d + 3) 85 [.ref 2, .ref B, .ref (B + 5)] h Q = mw (d + 3) 85 Q 89 [some (.ref 2), some (.ref B), some (.ref (B + 5)), some (.int (Int32.ofNat (D.c - 1))), some (.int (Int32.ofNat (D.S (D.c - 1)))), some (.int (Int32.ofNat 0)), none] [] (if len = 0 then enL h B else ntY (enL h B) 7 (Int32.ofNat (D.P nt))) := by
  intro Q
  have st : mcall (d + 3) 85 [.ref 2, .ref B, .ref (B + 5)] h Q = mw (d + 3) 85 Q 30 [some (.ref 2), some (.ref B), some (.ref (B + 5)), none, none, none, none] [] (enL h B) := by
    unfold enL
    clear C
    simp (disch := omega) only [s_85_0, s_85_1, s_85_2, s_85_2n, s_85_5, s_85_6, s_85_7, s_85_7n, s_85_10, s_85_11, s_85_12, s_85_15, s_85_16, s_85_17, s_85_20, s_85_21, s_85_22, s_85_25, s_85_26, s_85_27, s_85_31, s_85_34, s_85_37, s_85_38, s_85_39, s_85_40, s_85_41, s_85_44, s_85_45, s_85_46, s_85_49, s_85_52, s_85_53, s_85_55, s_85_56, s_85_59, s_85_62, s_85_63, s_85_66, s_85_67, s_85_68, s_85_71, s_85_71x, s_85_72, s_85_75, s_85_76, s_85_79, s_85_80, s_85_81, s_85_84, s_85_86, s_85_87, s_85_89, s_85_91, s_85_93, s_85_96, s_85_97, s_85_100, s_85_103, s_85_104, s_85_107, s_85_110, s_85_111, s_85_114, s_85_115, s_85_116, s_85_119, s_85_122, s_85_123, s_85_124, s_85_127, s_85_128, s_85_131, s_85_132, s_85_133, s_85_133x, s_85_134, s_85_137, s_85_139, s_85_141, s_85_143, s_85_146, s_85_147, s_85_148, s_85_151, s_85_154, s_85_156, s_85_157, s_85_160, s_85_162, s_85_165, s_85_166, s_85_169, s_85_172, s_85_173, s_85_175, s_85_178, s_85_180, s_85_183, s_85_184, s_85_187, s_85_188, s_85_191, s_85_192, s_85_193, s_85_196, s_85_199, s_85_200, e_85, mv_i_1, mv_l_1, mv_a_1, mv_a_2, mv_a_3, mk2_n, mk2_i, mk2_l, mk2_a, mk2_u, mk2_x, mB_T, mB_F, mS_cons, mS_nil, mSB_T, mSB_F, mca_nil, mca_i, mca_l, mca_r, mca_u, mca_x, mcat_i, mcat_l, mcat_r, mcat_u, mcat_x, mK_some, mK_none, va_rf_s, va_rf_n, lgc_eq, lgc_lt, lgc_gt, lgc_ge, lgc_le, mrd_104, mrd_105, mrd_106, mrd_107, true_and, and_true, and_self, false_and, and_false, true_or, or_true, false_or, or_false, not_true_eq_false, not_false_eq_true, mgb, mga, mgr, mN, reduceCtorEq, ↓reduceIte, eq_self, ge_iff_le, gt_iff_lt, hk_si, hk_sj, hk_sr, hl_si, hl_sj, hl_sr, hn_si, hn_sj, hn_sr, hs_si, hs_sj, hs_sr, hi_sj, hi_sr, hj_si, hj_sr, hr_si, hr_sj, hi_si, hj_sj, hr_sr, mg_si, mg_sj, mg_sr, Nat.reduceAdd, Nat.reduceMul, Nat.reduceSub, Nat.reduceLT, Nat.reduceGT, Nat.reduceEqDiff, Nat.reduceLeDiff, Nat.left_eq_add, Nat.add_eq_left, Nat.reduceMod, Nat.reduceDiv, Nat.succ_ne_self, g2]
  rw [st]
  clear st g2
  generalize enL h B = hE at C ⊢
  have F := C.F
  have g2 := F.g 2 4 20 (by decide +kernel)
  obtain ⟨t1, t2, t3, t4, t5⟩ := C.t
  obtain ⟨s1, s2, s3, s4, s5⟩ := C.s
  obtain ⟨e1, e2, e3, e4⟩ := C.e
  have hd := C.d
  have es : Int32.ofNat D.c - 1 = Int32.ofNat (D.c - 1) := nn_sub (a := D.c) (b := 1) hc
  have a1 := c_137L (d := d + 2) C (f := D.c - 1) (x := 1) (x' := 1) rfl (by omega) (by decide)
  have a0 := c_137L (d := d + 2) C (f := D.c - 1) (x := 0) (x' := 0) rfl (by omega) (by decide)
  have a3 := c_137L (d := d + 2) C (f := D.c - 1) (x := 3) (x' := 3) rfl (by omega) (by decide)
  rw [h1] at a1
  rw [show 6 * (D.c - 1) + 0 = 6 * (D.c - 1) from rfl, h0] at a0
  rw [h3] at a3
  have le : (Int32.ofNat len ≤ 0) = (len ≤ 0) := nn_le (a := len) (b := 0) (by omega) (by decide)
  have z0 : Int32.ofNat 0 = 0 := rfl
  rw [z0]
  by_cases c : len = 0
  · rw [if_pos c]
    have le' := le.trans (eq_true (by omega))
    clear C F
    simp (disch := omega) only [s_85_0, s_85_1, s_85_2, s_85_2n, s_85_5, s_85_6, s_85_7, s_85_7n, s_85_10, s_85_11, s_85_12, s_85_15, s_85_16, s_85_17, s_85_20, s_85_21, s_85_22, s_85_25, s_85_26, s_85_27, s_85_30, s_85_31, s_85_34, s_85_37, s_85_38, s_85_39, s_85_40, s_85_41, s_85_44, s_85_45, s_85_46, s_85_49, s_85_52, s_85_53, s_85_55, s_85_56, s_85_59, s_85_62, s_85_63, s_85_66, s_85_67, s_85_68, s_85_71, s_85_71x, s_85_72, s_85_75, s_85_76, s_85_79, s_85_80, s_85_81, s_85_84, s_85_86, s_85_87, s_85_91, s_85_93, s_85_96, s_85_97, s_85_100, s_85_103, s_85_104, s_85_107, s_85_110, s_85_111, s_85_114, s_85_115, s_85_116, s_85_119, s_85_122, s_85_123, s_85_124, s_85_127, s_85_128, s_85_131, s_85_132, s_85_133, s_85_133x, s_85_134, s_85_137, s_85_139, s_85_141, s_85_143, s_85_146, s_85_147, s_85_148, s_85_151, s_85_154, s_85_156, s_85_157, s_85_160, s_85_162, s_85_165, s_85_166, s_85_169, s_85_172, s_85_173, s_85_175, s_85_178, s_85_180, s_85_183, s_85_184, s_85_187, s_85_188, s_85_191, s_85_192, s_85_193, s_85_196, s_85_199, s_85_200, e_85, mv_i_1, mv_l_1, mv_a_1, mv_a_2, mv_a_3, mk2_n, mk2_i, mk2_l, mk2_a, mk2_u, mk2_x, mB_T, mB_F, mS_cons, mS_nil, mSB_T, mSB_F, mca_nil, mca_i, mca_l, mca_r, mca_u, mca_x, mcat_i, mcat_l, mcat_r, mcat_u, mcat_x, mK_some, mK_none, va_rf_s, va_rf_n, lgc_eq, lgc_lt, lgc_gt, lgc_ge, lgc_le, mrd_104, mrd_105, mrd_106, mrd_107, true_and, and_true, and_self, false_and, and_false, true_or, or_true, false_or, or_false, not_true_eq_false, not_false_eq_true, mgb, mga, mgr, mN, reduceCtorEq, ↓reduceIte, eq_self, ge_iff_le, gt_iff_lt, Nat.reduceAdd, Nat.reduceMul, Nat.reduceSub, Nat.reduceLT, Nat.reduceGT, Nat.reduceEqDiff, Nat.reduceLeDiff, Nat.left_eq_add, Nat.add_eq_left, Nat.reduceMod, Nat.reduceDiv, Nat.succ_ne_self, g2, s1, s2, e4, es, a1, a3, le']
  · rw [if_neg c]
    have le' := le.trans (eq_false (by omega))
    obtain ⟨p1, p2⟩ := C.p nt (hnt (by omega))
    have n7 := c_86 (d := d + 2) (w := 7) (q := Int32.ofNat (D.P nt)) F
    have lt : nt < n + 1 := by have := hnt (by omega); omega
    have i1 : ∀ y j, y ≠ 2 → mh_i (ntY hE 7 (Int32.ofNat (D.P nt))) y j = mh_i hE y j := fun y j hy => by
      unfold ntY
      rw [hi_si, if_neg (by omega), hi_si, if_neg (by omega)]
    have C2 : CLC (ntY hE 7 (Int32.ofNat (D.P nt))) B n m D Sf := CLC_L (fLy_t (fLy_si (Or.inr ⟨rfl, Or.inr ⟨by decide, by decide⟩⟩)) (fLy_si (Or.inr ⟨rfl, Or.inr ⟨by decide, by decide⟩⟩))) C
    have b3 := c_137L (d := d + 2) C2 (f := D.c - 1) (x := 3) (x' := 3) rfl (by omega) (by decide)
    rw [h3] at b3
    unfold ntY at b3 ⊢
    clear C F C2 i1
    simp (disch := omega) only [s_85_0, s_85_1, s_85_2, s_85_2n, s_85_5, s_85_6, s_85_7, s_85_7n, s_85_10, s_85_11, s_85_12, s_85_15, s_85_16, s_85_17, s_85_20, s_85_21, s_85_22, s_85_25, s_85_26, s_85_27, s_85_30, s_85_31, s_85_34, s_85_37, s_85_38, s_85_39, s_85_40, s_85_41, s_85_44, s_85_45, s_85_46, s_85_49, s_85_52, s_85_53, s_85_55, s_85_56, s_85_59, s_85_62, s_85_63, s_85_66, s_85_67, s_85_68, s_85_71, s_85_71x, s_85_72, s_85_75, s_85_76, s_85_79, s_85_80, s_85_81, s_85_84, s_85_86, s_85_87, s_85_91, s_85_93, s_85_96, s_85_97, s_85_100, s_85_103, s_85_104, s_85_107, s_85_110, s_85_111, s_85_114, s_85_115, s_85_116, s_85_119, s_85_122, s_85_123, s_85_124, s_85_127, s_85_128, s_85_131, s_85_132, s_85_133, s_85_133x, s_85_134, s_85_137, s_85_139, s_85_141, s_85_143, s_85_146, s_85_147, s_85_148, s_85_151, s_85_154, s_85_156, s_85_157, s_85_160, s_85_162, s_85_165, s_85_166, s_85_169, s_85_172, s_85_173, s_85_175, s_85_178, s_85_180, s_85_183, s_85_184, s_85_187, s_85_188, s_85_191, s_85_192, s_85_193, s_85_196, s_85_199, s_85_200, e_85, mv_i_1, mv_l_1, mv_a_1, mv_a_2, mv_a_3, mk2_n, mk2_i, mk2_l, mk2_a, mk2_u, mk2_x, mB_T, mB_F, mS_cons, mS_nil, mSB_T, mSB_F, mca_nil, mca_i, mca_l, mca_r, mca_u, mca_x, mcat_i, mcat_l, mcat_r, mcat_u, mcat_x, mK_some, mK_none, va_rf_s, va_rf_n, lgc_eq, lgc_lt, lgc_gt, lgc_ge, lgc_le, mrd_104, mrd_105, mrd_106, mrd_107, true_and, and_true, and_self, false_and, and_false, true_or, or_true, false_or, or_false, not_true_eq_false, not_false_eq_true, mgb, mga, mgr, mN, reduceCtorEq, ↓reduceIte, eq_self, ge_iff_le, gt_iff_lt, hk_si, hk_sj, hk_sr, hl_si, hl_sj, hl_sr, hn_si, hn_sj, hn_sr, hs_si, hs_sj, hs_sr, hi_sj, hi_sr, hj_si, hj_sr, hr_si, hr_sj, hi_si, hj_sj, hr_sr, mg_si, mg_sj, mg_sr, Nat.reduceAdd, Nat.reduceMul, Nat.reduceSub, Nat.reduceLT, Nat.reduceGT, Nat.reduceEqDiff, Nat.reduceLeDiff, Nat.left_eq_add, Nat.add_eq_left, Nat.reduceMod, Nat.reduceDiv, Nat.succ_ne_self, g2, s1, s2, e4, es, a1, a0, b3, le', t1, t2, t3, t4, t5, p1, n7, nn_mxT, nn_clamp]
/-- its end -/
theorem t_85e (C : CLC h B n m D Sf) (hm : mn < D.c) (hr : r < 1000000) (w0 : mh_i h 2 18 = 0) (k16 : mh_i h 2 16 = Int32.ofNat 0) (ec : mh_i h 2 2 = Int32.ofNat e) (he : e ≤ 249) (lim : D.H (6 * mn + 4) = Int32.ofNat se) (hse : se < 1000000) (PZ : CPz h B D Pt 0 e) (KD : ∀ q, q < e → (Pt q).S < Sf.1 8 ∧ Sf.2 (24 + (Pt q).S) 0 = Int32.ofNat (skN (Pt q).N)) (ow : ∀ q o, q < e → (Pt q).X.ow = some o → OWq D Pt q o) (ow0 : ∀ q, q < e → (Pt q).X.ow = none → (Pt q).B = e) (bd : ∀ q, q < e → (q < (Pt q).E ∧ (Pt q).E ≤ (Pt q).B ∧ (Pt q).B ≤ e) ∧ 3 ≤ tK (Pt q).N ∧ (tK (Pt q).N = 8 → (Pt q).M ≤ (Pt q).E)) : ∃ h', fG lnW (leH h e) h' ∧ CLD h' B n m D Sf Pt e ∧ ∀ x6 Q, mw (d + 3) 85 Q 89 [some (.ref 2), x1, x2, some (.int (Int32.ofNat mn)), some (.int (Int32.ofNat se)), some (.int (Int32.ofNat r)), x6] [] h = Q (some (.int 1)) h' := by
  have F := C.F
  have hB := C.B
  have hN : 2644 ≤ mh_n h := by have := C.t.2.1.2; omega
  have fe := fLe_le (h := h) (e := e)
  have Ce := CLC_e fe C
  have Pe := CPz_e F fe hN PZ
  obtain ⟨v21, v22, v2⟩ := le_v (h := h) (e := e)
  have r20 : mh_r (leH h e) 20 e = some (mh_n h) := by rw [le_r (by omega), if_pos ⟨rfl, rfl⟩]
  have gN : mg (leH h e) (mh_n h) 9 := by
    obtain ⟨k1, -, n1, -⟩ := le_k (h := h) (e := e) (y := mh_n h)
    exact ⟨by rw [k1, if_pos rfl], by omega⟩
  have iN : ∀ j, mh_i (leH h e) (mh_n h) j = if j = 8 then -1 else 0 := fun j => le_n hN
  have a92 := c_92 (d := d) (e := e) F ec (by omega) hN
  have CK : ∀ q, q < e → CKq (leH h e) Pt q := fun q hq => by
    obtain ⟨w1, w2, w3⟩ := Pe q (Nat.zero_le _) hq
    obtain ⟨k1, k2⟩ := KD q hq
    obtain ⟨q1, q2, q3⟩ := Ce.q _ k1
    exact ⟨_, w1.s, q2, (q3 0).trans k2, w1.o, w2, w3⟩
  obtain ⟨h', y1, y2, y3⟩ := l_93 (d := d + 1) (e := e) he ow ow0 bd e 0 (leH h e) none none (by omega) Ce.F v2 CK (fun q hq => absurd hq (Nat.not_lt_zero _))
  have g2 := F.g 2 4 20 (by decide +kernel)
  have g2L := Ce.F.g 2 4 20 (by decide +kernel)
  have a93 : ∀ Q, mcall (d + 2) 93 [.ref 2] (leH h e) Q = Q none h' := fun Q => by
    have st : mcall (d + 2) 93 [.ref 2] (leH h e) Q = mw (d + 2) 93 Q 2 [some (.ref 2), some (.int (Int32.ofNat 0)), none, none] [] (leH h e) := by
      rw [show Int32.ofNat 0 = 0 from rfl]
      simp (disch := omega) only [s_93_0, s_93_1, s_93_3, s_93_4, s_93_7, s_93_8, s_93_9, s_93_12, s_93_13, s_93_16, s_93_17, s_93_18, s_93_18n, s_93_18x, s_93_19, s_93_20, s_93_23, s_93_24, s_93_25, s_93_28, s_93_29, s_93_29x, s_93_30, s_93_31, s_93_32, s_93_35, s_93_38, s_93_39, s_93_42, s_93_43, s_93_43x, s_93_44, s_93_47, s_93_48, s_93_49, s_93_52, s_93_53, s_93_53x, s_93_54, s_93_57, s_93_58, s_93_59, s_93_62, s_93_63, s_93_64, s_93_67, s_93_68, s_93_68x, s_93_69, s_93_70, s_93_71, s_93_74, s_93_75, s_93_76, s_93_79, s_93_80, s_93_80x, s_93_81, s_93_82, s_93_83, s_93_86, s_93_87, s_93_90, s_93_91, s_93_94, s_93_95, s_93_96, s_93_97, s_93_98, s_93_99, s_93_100, s_93_103, s_93_104, s_93_107, s_93_108, s_93_108x, s_93_109, s_93_112, s_93_113, s_93_116, s_93_117, s_93_117x, s_93_118, s_93_121, s_93_122, s_93_125, s_93_126, s_93_127, s_93_128, s_93_129, s_93_130, s_93_133, s_93_134, s_93_137, s_93_139, s_93_142, s_93_143, s_93_146, s_93_147, s_93_148, s_93_149, s_93_150, s_93_153, s_93_154, s_93_157, s_93_158, s_93_158x, s_93_159, s_93_160, s_93_163, s_93_164, s_93_164x, s_93_165, s_93_168, s_93_169, s_93_172, s_93_173, s_93_174, s_93_177, s_93_178, s_93_178x, s_93_179, s_93_180, s_93_183, s_93_186, e_93, mv_i_1, mv_l_1, mv_a_1, mv_a_2, mv_a_3, mk2_n, mk2_i, mk2_l, mk2_a, mk2_u, mk2_x, mB_T, mB_F, mS_cons, mS_nil, mSB_T, mSB_F, mca_nil, mca_i, mca_l, mca_r, mca_u, mca_x, mcat_i, mcat_l, mcat_r, mcat_u, mcat_x, mK_some, mK_none, va_rf_s, va_rf_n, lgc_eq, lgc_lt, lgc_gt, lgc_ge, lgc_le, mrd_104, mrd_105, mrd_106, mrd_107, true_and, and_true, and_self, false_and, and_false, true_or, or_true, false_or, or_false, not_true_eq_false, not_false_eq_true, mgb, mga, mgr, mN, reduceCtorEq, ↓reduceIte, eq_self, ge_iff_le, gt_iff_lt, Nat.reduceAdd, Nat.reduceMul, Nat.reduceSub, Nat.reduceLT, Nat.reduceGT, Nat.reduceEqDiff, Nat.reduceLeDiff, Nat.left_eq_add, Nat.add_eq_left, Nat.reduceMod, Nat.reduceDiv, Nat.succ_ne_self]
    exact st.trans (y3 Q)
  have yL := fLe_G fe y1
  have gX : ∀ b j, ¬ (27 ≤ b ∧ b ≤ 29) → mh_i h' b j = mh_i (leH h e) b j := fun b j w => fG_i y1 w
  have hh := fun x6 => t_85h (d := d + 1) (x1 := x1) (x2 := x2) (x6 := x6) (k := 0) (nx := Int32.ofNat se) C hm hr w0 k16 (by decide) (Or.inl ⟨rfl, lim⟩)
  refine ⟨h', y1, CLD.of ⟨CLC_e yL C, CPz_e F yL hN PZ, fun q hq => ⟨(y2 q hq).2.1, (y2 q hq).2.2⟩, ⟨(gX 2 2 (by omega)).trans v2, he⟩, ⟨mh_n h, by rw [y1.2.2.1]; exact r20, by rw [fG_me y1]; exact gN, fun j => (gX _ _ (by omega)).trans (iN j)⟩, ⟨(gX 21 e (by omega)).trans v21, (gX 22 e (by omega)).trans v22⟩, fun q hq => (KD q hq).1⟩, fun x6 Q => ?_⟩
  refine (hh x6 Q).trans ?_
  have le : (se ≤ se) = True := eq_true (Nat.le_refl _)
  have l0 : (Int32.ofNat 0 ≤ 0) = True := eq_true (by decide)
  clear C Ce Pe PZ KD ow ow0 bd F CK y1 y2 y3 hh yL gX fe iN
  simp (disch := omega) only [s_85_0, s_85_1, s_85_2, s_85_2n, s_85_5, s_85_6, s_85_7, s_85_7n, s_85_10, s_85_11, s_85_12, s_85_15, s_85_16, s_85_17, s_85_20, s_85_21, s_85_22, s_85_25, s_85_26, s_85_27, s_85_30, s_85_31, s_85_34, s_85_37, s_85_38, s_85_39, s_85_40, s_85_41, s_85_44, s_85_45, s_85_46, s_85_49, s_85_52, s_85_53, s_85_55, s_85_56, s_85_59, s_85_62, s_85_63, s_85_66, s_85_67, s_85_68, s_85_71, s_85_71x, s_85_72, s_85_75, s_85_76, s_85_79, s_85_80, s_85_81, s_85_84, s_85_86, s_85_87, s_85_91, s_85_93, s_85_96, s_85_97, s_85_100, s_85_103, s_85_104, s_85_107, s_85_110, s_85_111, s_85_114, s_85_115, s_85_116, s_85_119, s_85_122, s_85_123, s_85_124, s_85_127, s_85_128, s_85_131, s_85_132, s_85_133, s_85_133x, s_85_134, s_85_137, s_85_139, s_85_141, s_85_143, s_85_146, s_85_147, s_85_148, s_85_151, s_85_154, s_85_156, s_85_157, s_85_160, s_85_162, s_85_165, s_85_166, s_85_169, s_85_172, s_85_173, s_85_175, s_85_178, s_85_180, s_85_183, s_85_184, s_85_187, s_85_188, s_85_191, s_85_192, s_85_193, s_85_196, s_85_199, s_85_200, e_85, mv_i_1, mv_l_1, mv_a_1, mv_a_2, mv_a_3, mk2_n, mk2_i, mk2_l, mk2_a, mk2_u, mk2_x, mB_T, mB_F, mS_cons, mS_nil, mSB_T, mSB_F, mca_nil, mca_i, mca_l, mca_r, mca_u, mca_x, mcat_i, mcat_l, mcat_r, mcat_u, mcat_x, mK_some, mK_none, va_rf_s, va_rf_n, lgc_eq, lgc_lt, lgc_gt, lgc_ge, lgc_le, mrd_104, mrd_105, mrd_106, mrd_107, true_and, and_true, and_self, false_and, and_false, true_or, or_true, false_or, or_false, not_true_eq_false, not_false_eq_true, mgb, mga, mgr, mN, reduceCtorEq, ↓reduceIte, eq_self, ge_iff_le, gt_iff_lt, Nat.reduceAdd, Nat.reduceMul, Nat.reduceSub, Nat.reduceLT, Nat.reduceGT, Nat.reduceEqDiff, Nat.reduceLeDiff, Nat.left_eq_add, Nat.add_eq_left, Nat.reduceMod, Nat.reduceDiv, Nat.succ_ne_self, g2, g2L, nn_le, le, k16, l0, a92, a93]
/-- something is wrong -/
theorem v_85w (g2 : mg h 2 4) (C : CLC (enL h B) B n m D Sf) (FC : ∀ g, g < D.c → FCq D K m Sc Sf N g) (fo : ∀ i j, j ≠ 5 → j ≠ 6 → Sf.2 (24 + i) j = Sc.2 (24 + i) j) (hH : D.H = Sc.2 15) (hc : 0 < D.c) (hP : D.P (D.H (6 * (D.c - 1))).toNatClampNeg = nP) (hf : ts (D.FT (D.c - 1)) + rkF D (D.c - 1) ≤ f) (W : ¬ (lyT D f nP).1.1 = 0) : ∃ h', fLx 0 h h' ∧ CLC h' B n m D Sf ∧ mh_i h' 2 18 = Int32.ofNat (lyT D f nP).1.1 ∧ mh_i h' 2 19 = Int32.ofNat (lyT D f nP).1.2 ∧ ∀ Q, mcall (d + 3) 85 [.ref 2, .ref B, .ref (B + 5)] h Q = Q (some (.int 0)) h' := by
  have hM : D.c - 1 < D.c := by omega
  have FQ := FC (D.c - 1) hM
  obtain ⟨nt, n1, n2, n3⟩ := FQ.n
  obtain ⟨l1, l2, l3⟩ := FQ.l
  obtain ⟨h31, h32⟩ := FQ.h3
  obtain ⟨se, s1, s2, s3, s4⟩ := FQ.h4
  have hd := C.d
  have ent := t_85a (d := d) g2 C hc FQ.h1 l3 n1 (fun z => by have := n3 z; omega) h31
  unfold lyT at W ⊢
  by_cases cp : (D.FP (D.c - 1)).length = 0
  · rw [if_pos cp] at W ent ⊢
    have fp0 : D.FP (D.c - 1) = [] := List.eq_nil_of_length_eq_zero cp
    rw [fp0] at s3 s4
    have z0 : ([] : cen).length = 0 := rfl
    rw [z0] at s3 s4
    have S0 := CSt_0 (D := D) (h := h) (B := B)
    obtain ⟨hL, CR, RU⟩ := CR_all (d := d) (x1 := some (.ref B)) (x2 := some (.ref (B + 5))) (mn := D.c - 1) (B := B) (n := n) FC hM fo hH f true (D.FT (D.c - 1)) (D.S (D.c - 1)) 0 [] 0 (lyX0 D) none 0 (enL h B) N se 0 C S0 ⟨⟨Nat.zero_le _, Nat.zero_le _⟩, Or.inl ⟨rfl, rfl, rfl⟩⟩ s3 s4 hM hf FQ.t FQ.v (Or.inl ⟨rfl, s1⟩) s2 (by decide)
    obtain ⟨c1, c2⟩ := CR.g W
    refine ⟨hL, fLx_0 CR.f, CLC_L CR.f C, c1, c2, fun Q => ?_⟩
    exact (ent Q).trans (RU.1 W none Q)
  · rw [if_neg cp] at W ent ⊢
    have nc : (D.H (6 * (D.c - 1))).toNatClampNeg = nt := by
      rw [n1]
      exact nn_clamp (by have := n3 (by omega); omega)
    rw [nc] at hP
    rw [hP] at ent
    have fL : fLy (enL h B) (ntY (enL h B) 7 (Int32.ofNat nP)) := fLy_t (fLy_si (Or.inr ⟨rfl, Or.inr ⟨by decide, by decide⟩⟩)) (fLy_si (Or.inr ⟨rfl, Or.inr ⟨by decide, by decide⟩⟩))
    have C2 := CLC_L fL C
    have w18 : mh_i (ntY (enL h B) 7 (Int32.ofNat nP)) 2 18 = Int32.ofNat 7 := by
      unfold ntY
      rw [hi_si, if_neg (by omega), hi_si, if_pos ⟨rfl, rfl⟩]
      rfl
    have w19 : mh_i (ntY (enL h B) 7 (Int32.ofNat nP)) 2 19 = Int32.ofNat nP := by
      unfold ntY
      rw [hi_si, if_pos ⟨rfl, rfl⟩]
    refine ⟨_, fLx_0 fL, C2, w18, w19, fun Q => ?_⟩
    exact (ent Q).trans (t_85x (d := d + 1) C2.F (by rw [w18]; decide) Q)
/-- nothing is wrong -/
theorem v_85s (g2 : mg h 2 4) (C : CLC (enL h B) B n m D Sf) (FC : ∀ g, g < D.c → FCq D K m Sc Sf N g) (fo : ∀ i j, j ≠ 5 → j ≠ 6 → Sf.2 (24 + i) j = Sc.2 (24 + i) j) (hH : D.H = Sc.2 15) (hc : 0 < D.c) (hf : ts (D.FT (D.c - 1)) + rkF D (D.c - 1) ≤ f) (W : (lyT D f nP).1.1 = 0) (ee : (lyT D f nP).2 = e) {kn wn : Nat} (ly : LYR D Pt f true (D.FT (D.c - 1)) kn wn (D.S (D.c - 1)) 0 e [] 0 (lyX0 D)) : ∃ h', fLx 1 h h' ∧ CLD h' B n m D Sf Pt e ∧ ∀ Q, mcall (d + 3) 85 [.ref 2, .ref B, .ref (B + 5)] h Q = Q (some (.int 1)) h' := by
  have hM : D.c - 1 < D.c := by omega
  have FQ := FC (D.c - 1) hM
  obtain ⟨nt, n1, n2, n3⟩ := FQ.n
  obtain ⟨l1, l2, l3⟩ := FQ.l
  obtain ⟨h31, h32⟩ := FQ.h3
  obtain ⟨se, s1, s2, s3, s4⟩ := FQ.h4
  have hd := C.d
  have ent := t_85a (d := d) g2 C hc FQ.h1 l3 n1 (fun z => by have := n3 z; omega) h31
  unfold lyT at W ee
  by_cases cp : (D.FP (D.c - 1)).length = 0
  · rw [if_pos cp] at W ent ee
    have fp0 : D.FP (D.c - 1) = [] := List.eq_nil_of_length_eq_zero cp
    rw [fp0] at s3 s4
    have z0 : ([] : cen).length = 0 := rfl
    rw [z0] at s3 s4
    have S0 := CSt_0 (D := D) (h := h) (B := B)
    obtain ⟨hL, CR, RU⟩ := CR_all (d := d) (x1 := some (.ref B)) (x2 := some (.ref (B + 5))) (mn := D.c - 1) (B := B) (n := n) FC hM fo hH f true (D.FT (D.c - 1)) (D.S (D.c - 1)) 0 [] 0 (lyX0 D) none 0 (enL h B) N se 0 C S0 ⟨⟨Nat.zero_le _, Nat.zero_le _⟩, Or.inl ⟨rfl, rfl, rfl⟩⟩ s3 s4 hM hf FQ.t FQ.v (Or.inl ⟨rfl, s1⟩) s2 (by decide)
    obtain ⟨o1, o2, o3⟩ := CR.o W
    have PZ := CR.r W Pt kn wn (by rw [ee]; exact ly)
    obtain ⟨r', r1, RU2⟩ := RU.2 W
    rw [ee] at o1 PZ r1
    have CL := CLC_L CR.f C
    obtain ⟨p1, p2⟩ := o1.p
    have STg : ∀ g, g < D.c → ∃ k', stR D.sp Sc g N true (D.FT g) (D.S g) k' (D.FP g) (D.FP g).length := fun g hg => by
      obtain ⟨se', u1, u2, u3, u4⟩ := (FC g hg).h4
      exact ⟨se', u3⟩
    have HF : ∀ g, g < D.c → D.S g + stLq (D.FT g) ≤ Sf.1 8 := fun g hg => by
      obtain ⟨se', u1, u2, u3, u4⟩ := (FC g hg).h4
      have := stR_L _ _ _ _ _ _ _ u3
      omega
    have sb := LYR_sb HF f true (D.FT (D.c - 1)) kn wn (D.S (D.c - 1)) 0 e [] 0 (lyX0 D) ly hM (HF _ hM)
    have sn := LYR_st STg f true (D.FT (D.c - 1)) kn wn (D.S (D.c - 1)) 0 e [] 0 (lyX0 D) N se ly s3 hM
    have owd := LYR_ow f true (D.FT (D.c - 1)) kn wn (D.S (D.c - 1)) 0 e [] 0 (lyX0 D) ly
    obtain ⟨h', y1, y2, y3⟩ := t_85e (d := d) (x1 := some (.ref B)) (x2 := some (.ref (B + 5))) (Pt := Pt) CL hM (show r' < 1000000 by omega) o1.w o1.k.1 p1 p2 s1 (by omega) PZ (fun q hq => by
        obtain ⟨-, N', s1', b, rl, w1, -⟩ := sn q (Nat.zero_le _) hq
        exact ⟨sb q (Nat.zero_le _) hq, (fo _ 0 (by decide) (by decide)).trans w1.1.1⟩) (fun q o hq eo => by
        rcases owd q (Nat.zero_le _) hq with ⟨i1, -⟩ | ⟨o', -, i2⟩
        · rw [i1] at eo; cases eo
        · have := i2.1
          rw [eo] at this
          cases this
          exact i2) (fun q hq eo => by
        rcases owd q (Nat.zero_le _) hq with ⟨-, i1, -⟩ | ⟨o', -, i2⟩
        · exact i1
        · have := i2.1
          rw [eo] at this
          cases this) (fun q hq => by
        obtain ⟨-, N', s1', b, rl, w1, -⟩ := sn q (Nat.zero_le _) hq
        obtain ⟨b1, b2⟩ := LYR_bd ly (Nat.zero_le q) hq
        exact ⟨b1, (stN_3 w1).1, fun z => (b2 z).2⟩)
    refine ⟨h', fLx_1 (fLx_0 CR.f) (by have u1 := C.t.2.1.2; have u2 := C.B; exact Nat.le_trans u2 (Nat.le_of_lt (show B < mh_n h from u1))) y1, y2, fun Q => ?_⟩
    obtain ⟨y6, t1⟩ := RU2 none
    exact (ent Q).trans ((t1 Q).trans (y3 y6 Q))
  · rw [if_neg cp] at W
    exact absurd W (by show ¬ 7 = 0; decide)
end LVl
