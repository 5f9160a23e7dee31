set_option maxRecDepth 100000
/-! CHECKS: look, tell, goes -/
/-- what is so all along, where claims are checked -/
def CKS (h : mh_H) (G : pgm) (e0 : Nat) (cl : Nat → Option ab) (br : Nat) : Prop := (mh_i h 115 34 = 1) ∧ (mh_i h 115 35 = Int32.ofNat br) ∧ (br ≤ 250) ∧ (∀ q, q ≤ e0 → RK h (137 + 10 * q) (cl q)) ∧ (∀ q, q < e0 → mh_i h (137 + 10 * q) 2 = Int32.ofNat (G.a q)) ∧ (∀ q, (q ≤ e0 ∨ (1000 ≤ q ∧ q < 1000 + e0)) → cnQ G h q)
theorem CKS.of {h : mh_H} {G : pgm} {e0 : Nat} {cl : Nat → Option ab} {br : Nat} (q : (mh_i h 115 34 = 1) ∧ (mh_i h 115 35 = Int32.ofNat br) ∧ (br ≤ 250) ∧ (∀ q, q ≤ e0 → RK h (137 + 10 * q) (cl q)) ∧ (∀ q, q < e0 → mh_i h (137 + 10 * q) 2 = Int32.ofNat (G.a q)) ∧ (∀ q, (q ≤ e0 ∨ (1000 ≤ q ∧ q < 1000 + e0)) → cnQ G h q)) : CKS h G e0 cl br := q
theorem CKS.z {h : mh_H} {G : pgm} {e0 : Nat} {cl : Nat → Option ab} {br : Nat} (q : CKS h G e0 cl br) : mh_i h 115 34 = 1 := q.1
theorem CKS.b {h : mh_H} {G : pgm} {e0 : Nat} {cl : Nat → Option ab} {br : Nat} (q : CKS h G e0 cl br) : mh_i h 115 35 = Int32.ofNat br := q.2.1
theorem CKS.l {h : mh_H} {G : pgm} {e0 : Nat} {cl : Nat → Option ab} {br : Nat} (q : CKS h G e0 cl br) : br ≤ 250 := q.2.2.1
theorem CKS.c {h : mh_H} {G : pgm} {e0 : Nat} {cl : Nat → Option ab} {br : Nat} (q : CKS h G e0 cl br) : ∀ q, q ≤ e0 → RK h (137 + 10 * q) (cl q) := q.2.2.2.1
theorem CKS.f {h : mh_H} {G : pgm} {e0 : Nat} {cl : Nat → Option ab} {br : Nat} (q : CKS h G e0 cl br) : ∀ q, q < e0 → mh_i h (137 + 10 * q) 2 = Int32.ofNat (G.a q) := q.2.2.2.2.1
theorem CKS.n {h : mh_H} {G : pgm} {e0 : Nat} {cl : Nat → Option ab} {br : Nat} (q : CKS h G e0 cl br) : ∀ q, (q ≤ e0 ∨ (1000 ≤ q ∧ q < 1000 + e0)) → cnQ G h q := q.2.2.2.2.2
section CKs
variable {d : Nat} {h h1 h2 : mh_H} {s0 s1 o o' p q e0 br T x : Nat} {E : nv} {D : fd} {w0 : wd} {s X : Option ab} {G : pgm} {cl : Nat → Option ab}
/-- claims' fields stay under statements -/
theorem cl_i (R : RA h s1 E D w0) (lo : 2644 ≤ o) {T' : Nat} (x : rq s0 (sV o T') h h1) (hq : q < 250) {j : Nat} : mh_i h1 (137 + 10 * q) j = mh_i h (137 + 10 * q) j := by
  have gk := (R.j.a.F.p q hq).2.1.1
  refine (x.f.1.2.2 _ j gk.2 (fun w => ?_)).1
  rcases sV_no R.j lo w with w | w | w | w | ⟨q', w1, w2⟩ | w | w
  · omega
  · omega
  · omega
  · omega
  · unfold kc at w2; omega
  · omega
  · omega
/-- under steps that don't write what is broken -/
theorem ck_t (C : CKS h G e0 cl br) (R : RA h s1 E D w0) (lo : 2644 ≤ o) (he : e0 < 250) {T' : Nat} (x : rq s0 (sV o T') h h1) (c : ∀ q, cnQ G h q → cnQ G h1 q) (e : mh_i h1 115 35 = mh_i h 115 35) : CKS h1 G e0 cl br := CKS.of ⟨(sV_z R.j lo x).trans C.z, e.trans C.b, C.l, fun q hq => cl_sV (E := E) R.j lo x (by omega) (C.c q hq), fun q hq => (cl_i R lo x (by omega)).trans (C.f q hq), fun q hq => c q (C.n q hq)⟩
/-- look -/
theorem w_258c (R : RA h s0 E D w0) (l : lv h s0 o) (C : CKS h G e0 cl br) (he : e0 < 250) (hp : p < e0) (ga : G.a p = E.ar) : ∃ h', rq s0 (sV o E.T) h h' ∧ RA h' s0 E D w0 ∧ RK h' o (cl p) ∧ mh_i h' o 2 = Int32.ofNat E.ar ∧ mh_i h' 115 24 = 0 ∧ CKS h' G e0 cl br ∧ ∀ Q, mcall (d + 1) 258 [.ref 115, .int (Int32.ofNat p), .ref o] h Q = Q (some (.int (kb (decide (cl p ≠ none))))) h' := by
  have J0 := R.j
  have so := lv_sp l
  have lo := sp_lo J0 so
  have F := J0.a.F
  obtain ⟨-, f2, -, f4⟩ := F.p p (by omega)
  have kp := C.c p (by omega)
  have ko' : ko h o := by
    obtain ⟨i, hi⟩ := so
    exact (J0.s i o hi).2
  obtain ⟨h1, x1, k1, run1⟩ := k_281 (d := d) ko' kp (by omega : o ≠ 137 + 10 * p)
  have R1 := ra_k R so x1 (RK_ko k1)
  have a1 : mh_i h1 o 2 = Int32.ofNat E.ar := by rw [k_281f ko' kp (by omega) run1, C.f p hp, ga]
  have y1 : rq s0 (sV o E.T) h h1 := sV_k R so x1
  have e35 : mh_i h1 115 35 = mh_i h 115 35 := rs_ij J0 so x1 35
  have C1 := ck_t C R lo he y1 (fun q w => cn_k R so x1 w) e35
  have so1 := sp_k so x1
  generalize eh2 : mh_si h1 115 24 0 = h2
  have R2 : RA h2 s0 E D w0 := by
    rw [← eh2]
    exact RA_o R1 (by omega)
  have y2 : rq s0 (sV o E.T) h1 h2 := by
    rw [← eh2]
    exact sV_115 (by omega)
  have i2 : ∀ b j, ¬ (b = 115 ∧ j = 24) → mh_i h2 b j = mh_i h1 b j := fun b j hb => by rw [← eh2, hi_si, if_neg hb]
  have i24 : mh_i h2 115 24 = 0 := by rw [← eh2, hi_si, if_pos ⟨rfl, rfl⟩]
  have z2 : fz (fun b _ => b = 115) h1 h2 := by
    rw [← eh2]
    exact fz_si rfl
  have C2 := ck_t C1 R1 lo he y2 (fun q w => cn_i w (fun b j hb => i2 b j (by omega))) (i2 _ _ (by omega))
  have z3 : fz (fun b _ => b = 115) h2 (mh_sr h2 115 23 (some o)) := fz_sr rfl
  have C3 : CKS (mh_sr h2 115 23 (some o)) G e0 cl br := CKS.of ⟨C2.z, C2.b, C2.l, fun q hq => RK_fz z3 (fun y hy j w => by omega) (C2.c q hq), C2.f, C2.n⟩
  refine ⟨mh_sr h2 115 23 (some o), rq_t y1 (rq_t y2 rq_23), RA_23 R2, RK_fz z3 (fun y hy j w => by omega) (RK_fz z2 (fun y hy j w => by omega) k1), (i2 _ _ (by omega)).trans a1, i24, C3, fun Q => ?_⟩
  have g := J0.a.g
  have g1 := R1.j.a.g
  have g2 := R2.j.a.g
  have go := ko'.1
  have go2 : mg h2 o 13 := (RK_ko (RK_fz z2 (fun y hy j w => by omega) k1)).1
  have a34 := C.z
  have t5 := F.f 115 5 117 (by decide +kernel)
  have g117 := (F.g 117 106 250 (by decide +kernel)).1
  have g117' := (F.g 117 106 250 (by decide +kernel)).2
  have l117 := F.l 117 106 250 (by decide +kernel)
  have hz : ∃ zz : Int32, mh_i h2 o 0 = zz ∧ ((cl p = none ∧ zz = 1) ∨ (cl p ≠ none ∧ zz = 0)) := by
    cases hc : cl p with
    | none => rw [hc] at k1; exact ⟨1, (i2 _ _ (by omega)).trans (KN.z k1), Or.inl ⟨rfl, rfl⟩⟩
    | some A => rw [hc] at k1; exact ⟨0, (i2 _ _ (by omega)).trans (KM.z k1), Or.inr ⟨(fun z => (by cases z)), rfl⟩⟩
  obtain ⟨zz, z1, z2'⟩ := hz
  have e00 : ((0 : Int32) = 0) = True := by decide
  have e10 : ((1 : Int32) = 0) = False := by decide
  have or01 : ((0 : Int32) = 0 ∨ (0 : Int32) = 1) = True := by decide
  have or11 : ((1 : Int32) = 0 ∨ (1 : Int32) = 1) = True := by decide
  have k1' : kb true = 1 := rfl
  have k0' : kb false = 0 := rfl
  have no115 : ¬ o = 115 := by omega
  clear R R1 R2 C C1 C2 C3 J0 F x1 y1 y2 z2 z3 k1 kp ko' i2 f2
  rcases z2' with ⟨e1, e2⟩ | ⟨e1, e2⟩
  · subst e2
    rw [decide_eq_false (fun y => y e1), k0']
    simp (disch := omega) only [s_258_0, s_258_1, s_258_4, s_258_7, s_258_8, s_258_9, s_258_12, s_258_13, s_258_14, s_258_17, s_258_20, s_258_21, s_258_24, s_258_25, s_258_26, s_258_27, s_258_30, s_258_31, s_258_34, s_258_35, s_258_36, s_258_37, s_258_38, s_258_39, s_258_42, s_258_43, s_258_46, s_258_49, s_258_50, s_258_53, s_258_54, s_258_55, s_258_58, s_258_59, s_258_60, s_258_63, s_258_64, s_258_67, s_258_70, s_258_73, s_258_74, s_258_77, s_258_78, s_258_79, s_258_82, s_258_83, s_258_84, s_258_87, s_258_88, s_258_89, s_258_89n, s_258_92, s_258_93, s_258_96, s_258_99, s_258_100, s_258_103, s_258_104, e_258, mv_i_1, mv_l_1, mv_a_1, mv_a_2, mv_a_3, mk2_n, mk2_i, mk2_l, mk2_a, mk2_u, mk2_x, mB_T, mB_F, mS_cons, mS_nil, mSB_T, mSB_F, mca_nil, mca_i, mca_l, mca_r, mca_u, mca_x, mcat_i, mcat_l, mcat_r, mcat_u, mcat_x, mK_some, mK_none, va_rf_s, va_rf_n, lgc_eq, lgc_lt, lgc_gt, lgc_ge, lgc_le, mrd_104, mrd_105, mrd_106, mrd_107, true_and, and_true, and_self, false_and, and_false, true_or, or_true, false_or, or_false, not_true_eq_false, not_false_eq_true, mgb, mga, mgr, mN, reduceCtorEq, ↓reduceIte, eq_self, ge_iff_le, gt_iff_lt, hk_si, hk_sj, hk_sr, hl_si, hl_sj, hl_sr, hn_si, hn_sj, hn_sr, hs_si, hs_sj, hs_sr, hi_sj, hi_sr, hj_si, hj_sr, hr_si, hr_sj, hi_si, hj_sj, hr_sr, mg_si, mg_sj, mg_sr, Nat.reduceAdd, Nat.reduceMul, Nat.reduceSub, Nat.reduceLT, Nat.reduceGT, Nat.reduceEqDiff, Nat.reduceLeDiff, Nat.left_eq_add, Nat.add_eq_left, Nat.reduceMod, Nat.reduceDiv, Nat.succ_ne_self, g, g1, g2, go, go2, a34, e10, t5, g117, g117', l117, f4, run1, eh2, z1, no115, or01, nn_mxT, nn_clamp]
  · subst e2
    rw [decide_eq_true e1, k1']
    simp (disch := omega) only [s_258_0, s_258_1, s_258_4, s_258_7, s_258_8, s_258_9, s_258_12, s_258_13, s_258_14, s_258_17, s_258_20, s_258_21, s_258_24, s_258_25, s_258_26, s_258_27, s_258_30, s_258_31, s_258_34, s_258_35, s_258_36, s_258_37, s_258_38, s_258_39, s_258_42, s_258_43, s_258_46, s_258_49, s_258_50, s_258_53, s_258_54, s_258_55, s_258_58, s_258_59, s_258_60, s_258_63, s_258_64, s_258_67, s_258_70, s_258_73, s_258_74, s_258_77, s_258_78, s_258_79, s_258_82, s_258_83, s_258_84, s_258_87, s_258_88, s_258_89, s_258_89n, s_258_92, s_258_93, s_258_96, s_258_99, s_258_100, s_258_103, s_258_104, e_258, mv_i_1, mv_l_1, mv_a_1, mv_a_2, mv_a_3, mk2_n, mk2_i, mk2_l, mk2_a, mk2_u, mk2_x, mB_T, mB_F, mS_cons, mS_nil, mSB_T, mSB_F, mca_nil, mca_i, mca_l, mca_r, mca_u, mca_x, mcat_i, mcat_l, mcat_r, mcat_u, mcat_x, mK_some, mK_none, va_rf_s, va_rf_n, lgc_eq, lgc_lt, lgc_gt, lgc_ge, lgc_le, mrd_104, mrd_105, mrd_106, mrd_107, true_and, and_true, and_self, false_and, and_false, true_or, or_true, false_or, or_false, not_true_eq_false, not_false_eq_true, mgb, mga, mgr, mN, reduceCtorEq, ↓reduceIte, eq_self, ge_iff_le, gt_iff_lt, hk_si, hk_sj, hk_sr, hl_si, hl_sj, hl_sr, hn_si, hn_sj, hn_sr, hs_si, hs_sj, hs_sr, hi_sj, hi_sr, hj_si, hj_sr, hr_si, hr_sj, hi_si, hj_sj, hr_sr, mg_si, mg_sj, mg_sr, Nat.reduceAdd, Nat.reduceMul, Nat.reduceSub, Nat.reduceLT, Nat.reduceGT, Nat.reduceEqDiff, Nat.reduceLeDiff, Nat.left_eq_add, Nat.add_eq_left, Nat.reduceMod, Nat.reduceDiv, Nat.succ_ne_self, g, g1, g2, go, go2, a34, e00, e10, t5, g117, g117', l117, f4, run1, eh2, z1, no115, or11, nn_mxT, nn_clamp]
/-- tell -/
theorem w_259c (R : RA h s0 E D w0) (z : mh_i h 115 34 = 1) {v : Int32} : ∀ Q, mcall d 259 [.ref 115, .int v] h Q = Q none h := fun Q => by
  have g := R.j.a.g
  have e10 : ((1 : Int32) = 0) = False := by decide
  clear R
  simp (disch := omega) only [s_259_0, s_259_1, s_259_4, s_259_7, s_259_8, s_259_11, s_259_12, s_259_12l, s_259_13, s_259_14, s_259_15, s_259_18, s_259_19, s_259_20, e_259, mv_i_1, mv_l_1, mv_a_1, mv_a_2, mv_a_3, mk2_n, mk2_i, mk2_l, mk2_a, mk2_u, mk2_x, mB_T, mB_F, mS_cons, mS_nil, mSB_T, mSB_F, mca_nil, mca_i, mca_l, mca_r, mca_u, mca_x, mcat_i, mcat_l, mcat_r, mcat_u, mcat_x, mK_some, mK_none, va_rf_s, va_rf_n, lgc_eq, lgc_lt, lgc_gt, lgc_ge, lgc_le, mrd_104, mrd_105, mrd_106, mrd_107, true_and, and_true, and_self, false_and, and_false, true_or, or_true, false_or, or_false, not_true_eq_false, not_false_eq_true, mgb, mga, mgr, mN, reduceCtorEq, ↓reduceIte, eq_self, ge_iff_le, gt_iff_lt, Nat.reduceAdd, Nat.reduceMul, Nat.reduceSub, Nat.reduceLT, Nat.reduceGT, Nat.reduceEqDiff, Nat.reduceLeDiff, Nat.left_eq_add, Nat.add_eq_left, Nat.reduceMod, Nat.reduceDiv, Nat.succ_ne_self, g, z, e10]
/-- what leads to a claim that doesn't hold it -/
def gsC (G : pgm) (cl : Nat → Option ab) (X : Option ab) (to : Nat) : Prop := X ≠ none ∧ ¬ o_le (o_keep (G.n to) (G.a to) X) (cl to)
noncomputable def gsB (G : pgm) (cl : Nat → Option ab) (X : Option ab) (to p br : Nat) : Nat := @ite _ (gsC G cl X to) (Classical.propDecidable _) (min br p) br
end CKs
