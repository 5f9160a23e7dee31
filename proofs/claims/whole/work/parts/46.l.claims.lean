set_option maxRecDepth 100000
/-! claimRange, unclaim, in the class -/
section CRs
variable {d : Nat} {h h1 : mh_H} {Y C E TT UU SC SP nC nE nS : Nat} {G : pgm} {cnt q o k : Nat} {p a g c : Int32} {cl kn : Nat → Option ab} {X : Option ab} {A : ab} {U : Nat → Nat → Prop}
def rgH (h : mh_H) (o k : Nat) (g c z : Int32) : mh_H := mh_si (mh_sj h (o + 2) (if g = 0 then 2 * k else 2 * k + 1) c.toInt64) o 0 z
theorem rgH_f {z : Int32} : fq (sW o 52) h (rgH h o k g c z) := fq_t (fq_sj (Or.inr (Or.inr (Or.inl rfl)))) (fq_si (Or.inl rfl))
theorem rgH_n {z : Int32} {j : Nat} (hj : ¬ j = 0) : mh_i (rgH h o k g c z) o j = mh_i h o j := by
  unfold rgH
  rw [hi_si, if_neg (fun w => hj w.2), hi_sj]
theorem rgH_N (r : RS h o (some A)) : RS (rgH h o k g c 1) o none := by
  refine ⟨⟨so_fq (rgH_f (g := g) (c := c) (k := k) (z := 1)) r.1.s, by unfold rgH; rw [hi_si, if_pos ⟨rfl, rfl⟩], ⟨A.n, r.1.n12, ?_⟩, ⟨A.a, r.1.a6, ?_⟩⟩, ?_⟩
  · rw [rgH_n (by omega)]; exact r.1.n
  · rw [rgH_n (by omega)]; exact r.1.a
  · rw [rgH_n (by omega)]; exact r.2
theorem rgH_S (r : RS h o (some A)) : RS (rgH h o k g c 0) o (some (rgO k g c.toInt A)) := by
  have f := rgH_f (h := h) (o := o) (k := k) (g := g) (c := c) (z := 0)
  have ej : mh_j (rgH h o k g c 0) (o + 1) = mh_j h (o + 1) := funext fun j => by unfold rgH; rw [hj_si, hj_sj, if_neg (by omega)]
  have e2 : ∀ j, mh_j (rgH h o k g c 0) (o + 2) j = if j = (if g = 0 then 2 * k else 2 * k + 1) then c.toInt64 else mh_j h (o + 2) j := fun j => by
    unfold rgH
    rw [hj_si, hj_sj]
    by_cases e : j = (if g = 0 then 2 * k else 2 * k + 1)
    · rw [if_pos ⟨rfl, e⟩, if_pos e]
    · rw [if_neg (fun w => e w.2), if_neg e]
  refine ⟨⟨so_fq f r.1.s, by unfold rgH; rw [hi_si, if_pos ⟨rfl, rfl⟩], by rw [rgH_n (by omega)]; exact r.1.n, r.1.n12, by rw [rgH_n (by omega)]; exact r.1.a, r.1.a6, fun i j hi hj => by rw [ej]; exact r.1.m i j hi hj, fun x hx => ?_⟩, by rw [rgH_n (by omega)]; exact r.2⟩
  obtain ⟨m1, m2⟩ := r.1.e x hx
  have el : (rgO k g c.toInt A).lo x = if x = k ∧ g = 0 then c.toInt else A.lo x := rfl
  have eh : (rgO k g c.toInt A).hi x = if x = k ∧ ¬ g = 0 then c.toInt else A.hi x := rfl
  rw [e2, e2, el, eh]
  by_cases g0 : g = 0
  · rw [if_pos g0, if_neg (c := x = k ∧ ¬ g = 0) (fun w => w.2 g0), if_neg (c := 2 * x + 1 = 2 * k) (by omega)]
    by_cases xk : x = k
    · rw [if_pos (by omega), if_pos ⟨xk, g0⟩]
      exact ⟨Int32.toInt_toInt64 _, m2⟩
    · rw [if_neg (by omega), if_neg (fun w => xk w.1)]
      exact ⟨m1, m2⟩
  · rw [if_neg g0, if_neg (c := x = k ∧ g = 0) (fun w => g0 w.2), if_neg (c := 2 * x = 2 * k + 1) (by omega)]
    by_cases xk : x = k
    · rw [if_pos (by omega), if_pos ⟨xk, g0⟩]
      exact ⟨m1, Int32.toInt_toInt64 _⟩
    · rw [if_neg (by omega), if_neg (fun w => xk w.1)]
      exact ⟨m1, m2⟩
theorem v_200 (B : BS h Y C E TT UU SC SP nC nE nS) (H : PH h G cnt) (kc : ∀ q, q < cnt → pv h 73 q (cl q)) (S : CSH G cnt cl) : ∃ h', zS (fun b j => b = 73 ∧ j < cnt) ntU h h' ∧ BS h' Y C E TT UU SC SP nC nE nS ∧ (∀ q, q < cnt → pv h' 73 q (crC G cnt cl p a g c q)) ∧ (if crR G cnt cl p a g c = 1 then mh_i h' 0 10 = 1 ∧ mh_i h' 0 11 = 0 else h' = h) ∧ ∀ Q, mcall (d + 4) 200 [.ref 0, .int p, .int a, .int g, .int c] h Q = Q (some (.int (crR G cnt cl p a g c))) h' := by
  have cb := H.b
  have c194 := v_194 (d := d + 2) (p := p) (a := a) B H
  have F := B.F
  have g0 := F.g 0 11 15 (by decide +kernel)
  have t6 := F.f 0 6 73 (by decide +kernel)
  have g73 := (F.g 73 104 250 (by decide +kernel)).1
  have g73' := (F.g 73 104 250 (by decide +kernel)).2
  have l73 := F.l 73 104 250 (by decide +kernel)
  have e00 : ((0 : Int32) = 0) = True := by decide
  have e10 : ((1 : Int32) = 0) = False := by decide
  cases ok : okA G cnt p a with
  | false =>
    have r : crR G cnt cl p a g c = -1 := by unfold crR; rw [ok, if_neg (by decide)]
    have rc : crC G cnt cl p a g c = cl := by unfold crC; rw [ok, if_neg (by decide)]
    refine ⟨h, zS_id, B, by rw [rc]; exact kc, by rw [r, if_neg (by decide)], fun Q => ?_⟩
    rw [r]
    rw [ok] at c194
    clear B H kc F S
    simp (disch := omega) only [s_200_0, s_200_1, s_200_2, s_200_3, s_200_6, s_200_9, s_200_10, s_200_11, s_200_12, s_200_15, s_200_16, s_200_17, s_200_17n, s_200_17x, s_200_19, s_200_20, s_200_23, s_200_24, s_200_25, s_200_26, s_200_27, s_200_28, s_200_31, s_200_32, s_200_33, s_200_34, s_200_36, s_200_38, s_200_41, s_200_44, s_200_45, s_200_48, s_200_50, s_200_51, s_200_53, s_200_56, s_200_58, s_200_59, s_200_60, s_200_63, s_200_66, s_200_68, s_200_69, s_200_71, s_200_74, s_200_76, s_200_77, s_200_78, s_200_81, s_200_82, s_200_83, s_200_85, s_200_88, s_200_90, s_200_92, s_200_93, s_200_94, s_200_96, s_200_98, s_200_101, s_200_102, s_200_103, s_200_104, s_200_105, s_200_107, s_200_110, s_200_111, s_200_112, s_200_113, s_200_114, s_200_115, s_200_116, s_200_117, s_200_120, s_200_121, s_200_124, s_200_125, s_200_128, s_200_129, s_200_132, s_200_133, e_200, mv_i_1, mv_l_1, mv_a_1, mv_a_2, mv_a_3, mk2_n, mk2_i, mk2_l, mk2_a, mk2_u, mk2_x, mB_T, mB_F, mS_cons, mS_nil, mSB_T, mSB_F, mca_nil, mca_i, mca_l, mca_r, mca_u, mca_x, mcat_i, mcat_l, mcat_r, mcat_u, mcat_x, mK_some, mK_none, va_rf_s, va_rf_n, lgc_eq, lgc_lt, lgc_gt, lgc_ge, lgc_le, mrd_104, mrd_105, mrd_106, mrd_107, true_and, and_true, and_self, false_and, and_false, true_or, or_true, false_or, or_false, not_true_eq_false, not_false_eq_true, mgb, mga, mgr, mN, reduceCtorEq, ↓reduceIte, eq_self, ge_iff_le, gt_iff_lt, hk_si, hk_sj, hk_sr, hl_si, hl_sj, hl_sr, hn_si, hn_sj, hn_sr, hs_si, hs_sj, hs_sr, hi_sj, hi_sr, hj_si, hj_sr, hr_si, hr_sj, hi_si, hj_sj, hr_sr, mg_si, mg_sj, mg_sr, Nat.reduceAdd, Nat.reduceMul, Nat.reduceSub, Nat.reduceLT, Nat.reduceGT, Nat.reduceEqDiff, Nat.reduceLeDiff, Nat.left_eq_add, Nat.add_eq_left, Nat.reduceMod, Nat.reduceDiv, Nat.succ_ne_self, g0, c194, kbF, e00]
  | true =>
    rw [ok] at c194
    have ok' := ok
    unfold okA at ok'
    rw [Bool.and_eq_true] at ok'
    obtain ⟨o1, o2⟩ := ok'
    obtain ⟨q, hq, ep, eq⟩ := okP_n (by omega) o1
    have kk := H.k q hq
    rw [eq] at o2
    obtain ⟨k, hk, ea, ea'⟩ := okP_n (by omega) o2
    obtain ⟨o, e, r⟩ := kc q hq
    obtain ⟨gO, -, -, -, s5, s6, s7⟩ := RS_so r
    have e2 : (2 : Int32) * Int32.ofNat k = Int32.ofNat (2 * k) := nn_mul (a := 2) (b := k)
    have e3 : Int32.ofNat (2 * k) + 1 = Int32.ofNat (2 * k + 1) := nn_add (a := 2 * k) (b := 1)
    cases ec : cl q with
    | none =>
      have w : crR G cnt cl p a g c = 0 := by unfold crR; rw [ok, if_pos rfl, eq, ec]
      have wc : crC G cnt cl p a g c = cl := by unfold crC; rw [ok, if_pos rfl, eq, ec]
      refine ⟨h, zS_id, B, by rw [wc]; exact kc, by rw [w, if_neg (by decide)], fun Q => ?_⟩
      rw [w]
      rw [ec] at r
      have z := r.1.z
      subst ep
      subst ea
      clear B H kc F S r
      rcases Classical.propComplete (g = 0) with cg | cg <;> simp (disch := omega) only [s_200_0, s_200_1, s_200_2, s_200_3, s_200_6, s_200_9, s_200_10, s_200_11, s_200_12, s_200_15, s_200_16, s_200_17, s_200_17n, s_200_17x, s_200_19, s_200_20, s_200_23, s_200_24, s_200_25, s_200_26, s_200_27, s_200_28, s_200_31, s_200_32, s_200_33, s_200_34, s_200_36, s_200_38, s_200_41, s_200_44, s_200_45, s_200_48, s_200_50, s_200_51, s_200_53, s_200_56, s_200_58, s_200_59, s_200_60, s_200_63, s_200_66, s_200_68, s_200_69, s_200_71, s_200_74, s_200_76, s_200_77, s_200_78, s_200_81, s_200_82, s_200_83, s_200_85, s_200_88, s_200_90, s_200_92, s_200_93, s_200_94, s_200_96, s_200_98, s_200_101, s_200_102, s_200_103, s_200_104, s_200_105, s_200_107, s_200_110, s_200_111, s_200_112, s_200_113, s_200_114, s_200_115, s_200_116, s_200_117, s_200_120, s_200_121, s_200_124, s_200_125, s_200_128, s_200_129, s_200_132, s_200_133, e_200, mv_i_1, mv_l_1, mv_a_1, mv_a_2, mv_a_3, mk2_n, mk2_i, mk2_l, mk2_a, mk2_u, mk2_x, mB_T, mB_F, mS_cons, mS_nil, mSB_T, mSB_F, mca_nil, mca_i, mca_l, mca_r, mca_u, mca_x, mcat_i, mcat_l, mcat_r, mcat_u, mcat_x, mK_some, mK_none, va_rf_s, va_rf_n, lgc_eq, lgc_lt, lgc_gt, lgc_ge, lgc_le, mrd_104, mrd_105, mrd_106, mrd_107, true_and, and_true, and_self, false_and, and_false, true_or, or_true, false_or, or_false, not_true_eq_false, not_false_eq_true, mgb, mga, mgr, mN, reduceCtorEq, ↓reduceIte, eq_self, ge_iff_le, gt_iff_lt, hk_si, hk_sj, hk_sr, hl_si, hl_sj, hl_sr, hn_si, hn_sj, hn_sr, hs_si, hs_sj, hs_sr, hi_sj, hi_sr, hj_si, hj_sr, hr_si, hr_sj, hi_si, hj_sj, hr_sr, mg_si, mg_sj, mg_sr, Nat.reduceAdd, Nat.reduceMul, Nat.reduceSub, Nat.reduceLT, Nat.reduceGT, Nat.reduceEqDiff, Nat.reduceLeDiff, Nat.left_eq_add, Nat.add_eq_left, Nat.reduceMod, Nat.reduceDiv, Nat.succ_ne_self, g0, c194, kbT, e10, t6, g73, g73', l73, e, gO, z, e2, e3, cg, nn_mxT, nn_clamp]
    | some A =>
      rw [ec] at r
      obtain ⟨T, n1, a1, -⟩ := S q hq A ec
      have z := r.1.z
      have av : crR G cnt cl p a g c = rgV k g c.toInt A := by unfold crR; rw [ok, if_pos rfl, eq, ec, ea']
      have ac : crC G cnt cl p a g c = upC cl q (rgP k g c.toInt A) := by unfold crC; rw [ok, if_pos rfl, eq, ec, ea']
      obtain ⟨m1, m2⟩ := r.1.e k (by omega)
      have m3 := Int32.toInt_toInt64 c
      rw [av, ac]
      by_cases c1 : if g = 0 then c.toInt ≤ A.lo k else A.hi k ≤ c.toInt
      · have w : rgV k g c.toInt A = 0 := if_pos c1
        have w2 : rgP k g c.toInt A = some A := if_pos c1
        refine ⟨h, zS_id, B, by rw [w2, ← ec, upC_i]; exact kc, by rw [w, if_neg (by decide)], fun Q => ?_⟩
        rw [w]
        subst ep
        subst ea
        rcases Classical.propComplete (g = 0) with cg | cg
        · rw [if_pos (of_eq_true cg)] at c1
          have lt : (mh_j h (o + 2) (2 * k) < c.toInt64) = False := eq_false (fun z => by rw [Int64.lt_iff_toInt_lt] at z; omega)
          clear B H kc F S r T w w2
          simp (disch := omega) only [s_200_0, s_200_1, s_200_2, s_200_3, s_200_6, s_200_9, s_200_10, s_200_11, s_200_12, s_200_15, s_200_16, s_200_17, s_200_17n, s_200_17x, s_200_19, s_200_20, s_200_23, s_200_24, s_200_25, s_200_26, s_200_27, s_200_28, s_200_31, s_200_32, s_200_33, s_200_34, s_200_36, s_200_38, s_200_41, s_200_44, s_200_45, s_200_48, s_200_50, s_200_51, s_200_53, s_200_56, s_200_58, s_200_59, s_200_60, s_200_63, s_200_66, s_200_68, s_200_69, s_200_71, s_200_74, s_200_76, s_200_77, s_200_78, s_200_81, s_200_82, s_200_83, s_200_85, s_200_88, s_200_90, s_200_92, s_200_93, s_200_94, s_200_96, s_200_98, s_200_101, s_200_102, s_200_103, s_200_104, s_200_105, s_200_107, s_200_110, s_200_111, s_200_112, s_200_113, s_200_114, s_200_115, s_200_116, s_200_117, s_200_120, s_200_121, s_200_124, s_200_125, s_200_128, s_200_129, s_200_132, s_200_133, e_200, mv_i_1, mv_l_1, mv_a_1, mv_a_2, mv_a_3, mk2_n, mk2_i, mk2_l, mk2_a, mk2_u, mk2_x, mB_T, mB_F, mS_cons, mS_nil, mSB_T, mSB_F, mca_nil, mca_i, mca_l, mca_r, mca_u, mca_x, mcat_i, mcat_l, mcat_r, mcat_u, mcat_x, mK_some, mK_none, va_rf_s, va_rf_n, lgc_eq, lgc_lt, lgc_gt, lgc_ge, lgc_le, mrd_104, mrd_105, mrd_106, mrd_107, true_and, and_true, and_self, false_and, and_false, true_or, or_true, false_or, or_false, not_true_eq_false, not_false_eq_true, mgb, mga, mgr, mN, reduceCtorEq, ↓reduceIte, eq_self, ge_iff_le, gt_iff_lt, hk_si, hk_sj, hk_sr, hl_si, hl_sj, hl_sr, hn_si, hn_sj, hn_sr, hs_si, hs_sj, hs_sr, hi_sj, hi_sr, hj_si, hj_sr, hr_si, hr_sj, hi_si, hj_sj, hr_sr, mg_si, mg_sj, mg_sr, Nat.reduceAdd, Nat.reduceMul, Nat.reduceSub, Nat.reduceLT, Nat.reduceGT, Nat.reduceEqDiff, Nat.reduceLeDiff, Nat.left_eq_add, Nat.add_eq_left, Nat.reduceMod, Nat.reduceDiv, Nat.succ_ne_self, g0, c194, kbT, e10, e00, t6, g73, g73', l73, e, gO, z, s5, s6, s7, e2, e3, cg, lt, nn_mxT, nn_clamp]
        · rw [if_neg (of_eq_false cg)] at c1
          have lt : (c.toInt64 < mh_j h (o + 2) (2 * k + 1)) = False := eq_false (fun z => by rw [Int64.lt_iff_toInt_lt] at z; omega)
          clear B H kc F S r T w w2
          simp (disch := omega) only [s_200_0, s_200_1, s_200_2, s_200_3, s_200_6, s_200_9, s_200_10, s_200_11, s_200_12, s_200_15, s_200_16, s_200_17, s_200_17n, s_200_17x, s_200_19, s_200_20, s_200_23, s_200_24, s_200_25, s_200_26, s_200_27, s_200_28, s_200_31, s_200_32, s_200_33, s_200_34, s_200_36, s_200_38, s_200_41, s_200_44, s_200_45, s_200_48, s_200_50, s_200_51, s_200_53, s_200_56, s_200_58, s_200_59, s_200_60, s_200_63, s_200_66, s_200_68, s_200_69, s_200_71, s_200_74, s_200_76, s_200_77, s_200_78, s_200_81, s_200_82, s_200_83, s_200_85, s_200_88, s_200_90, s_200_92, s_200_93, s_200_94, s_200_96, s_200_98, s_200_101, s_200_102, s_200_103, s_200_104, s_200_105, s_200_107, s_200_110, s_200_111, s_200_112, s_200_113, s_200_114, s_200_115, s_200_116, s_200_117, s_200_120, s_200_121, s_200_124, s_200_125, s_200_128, s_200_129, s_200_132, s_200_133, e_200, mv_i_1, mv_l_1, mv_a_1, mv_a_2, mv_a_3, mk2_n, mk2_i, mk2_l, mk2_a, mk2_u, mk2_x, mB_T, mB_F, mS_cons, mS_nil, mSB_T, mSB_F, mca_nil, mca_i, mca_l, mca_r, mca_u, mca_x, mcat_i, mcat_l, mcat_r, mcat_u, mcat_x, mK_some, mK_none, va_rf_s, va_rf_n, lgc_eq, lgc_lt, lgc_gt, lgc_ge, lgc_le, mrd_104, mrd_105, mrd_106, mrd_107, true_and, and_true, and_self, false_and, and_false, true_or, or_true, false_or, or_false, not_true_eq_false, not_false_eq_true, mgb, mga, mgr, mN, reduceCtorEq, ↓reduceIte, eq_self, ge_iff_le, gt_iff_lt, hk_si, hk_sj, hk_sr, hl_si, hl_sj, hl_sr, hn_si, hn_sj, hn_sr, hs_si, hs_sj, hs_sr, hi_sj, hi_sr, hj_si, hj_sr, hr_si, hr_sj, hi_si, hj_sj, hr_sr, mg_si, mg_sj, mg_sr, Nat.reduceAdd, Nat.reduceMul, Nat.reduceSub, Nat.reduceLT, Nat.reduceGT, Nat.reduceEqDiff, Nat.reduceLeDiff, Nat.left_eq_add, Nat.add_eq_left, Nat.reduceMod, Nat.reduceDiv, Nat.succ_ne_self, g0, c194, kbT, e10, e00, t6, g73, g73', l73, e, gO, z, s5, s6, s7, e2, e3, cg, lt, nn_mxT, nn_clamp]
      · have w : rgV k g c.toInt A = 1 := if_neg c1
        obtain ⟨X, z', w2, kz, kr⟩ : ∃ X z', rgP k g c.toInt A = X ∧ (z' = if (rgO k g c.toInt A).hi k < (rgO k g c.toInt A).lo k then (1 : Int32) else 0) ∧ RS (rgH h o k g c z') o X := by
          by_cases c2 : (rgO k g c.toInt A).hi k < (rgO k g c.toInt A).lo k
          · exact ⟨none, 1, by unfold rgP; rw [if_neg c1, if_pos c2], by rw [if_pos c2], rgH_N r⟩
          · exact ⟨some _, 0, by unfold rgP; rw [if_neg c1, if_neg c2], by rw [if_neg c2], rgH_S r⟩
        obtain ⟨x1, B1, kc1⟩ := cl_nt B e rgH_f kc kr (by assumption)
        refine ⟨_, x1, B1, by rw [w2]; exact kc1, by rw [w, if_pos rfl]; exact ⟨nt_10, nt_11⟩, fun Q => ?_⟩
        rw [w]
        have el : (rgO k g c.toInt A).lo k = if k = k ∧ g = 0 then c.toInt else A.lo k := rfl
        have eh : (rgO k g c.toInt A).hi k = if k = k ∧ ¬ g = 0 then c.toInt else A.hi k := rfl
        have c188 := fun Q => c_188 (d := d + 3) (h := rgH h o k g c z') ((fq_mg rgH_f).mpr g0) Q
        subst ep
        subst ea
        unfold rgH at c188 ⊢
        rcases Classical.propComplete (g = 0) with cg | cg
        · rw [if_pos (of_eq_true cg)] at c1
          rw [if_pos ⟨rfl, of_eq_true cg⟩] at el
          rw [if_neg (fun w => w.2 (of_eq_true cg))] at eh
          rw [el, eh] at kz
          rw [if_pos (of_eq_true cg)] at c188 ⊢
          have lt : (mh_j h (o + 2) (2 * k) < c.toInt64) = True := eq_true (by rw [Int64.lt_iff_toInt_lt]; omega)
          by_cases c3 : A.hi k < c.toInt
          · have le : (c.toInt64 ≤ mh_j h (o + 2) (2 * k + 1)) = False := eq_false (fun z => by rw [Int64.le_iff_toInt_le] at z; omega)
            rw [if_pos c3] at kz
            subst kz
            clear B H kc F S r T w w2 x1 B1 kc1 kr
            simp (disch := omega) only [s_200_0, s_200_1, s_200_2, s_200_3, s_200_6, s_200_9, s_200_10, s_200_11, s_200_12, s_200_15, s_200_16, s_200_17, s_200_17n, s_200_17x, s_200_19, s_200_20, s_200_23, s_200_24, s_200_25, s_200_26, s_200_27, s_200_28, s_200_31, s_200_32, s_200_33, s_200_34, s_200_36, s_200_38, s_200_41, s_200_44, s_200_45, s_200_48, s_200_50, s_200_51, s_200_53, s_200_56, s_200_58, s_200_59, s_200_60, s_200_63, s_200_66, s_200_68, s_200_69, s_200_71, s_200_74, s_200_76, s_200_77, s_200_78, s_200_81, s_200_82, s_200_83, s_200_85, s_200_88, s_200_90, s_200_92, s_200_93, s_200_94, s_200_96, s_200_98, s_200_101, s_200_102, s_200_103, s_200_104, s_200_105, s_200_107, s_200_110, s_200_111, s_200_112, s_200_113, s_200_114, s_200_115, s_200_116, s_200_117, s_200_120, s_200_121, s_200_124, s_200_125, s_200_128, s_200_129, s_200_132, s_200_133, e_200, mv_i_1, mv_l_1, mv_a_1, mv_a_2, mv_a_3, mk2_n, mk2_i, mk2_l, mk2_a, mk2_u, mk2_x, mB_T, mB_F, mS_cons, mS_nil, mSB_T, mSB_F, mca_nil, mca_i, mca_l, mca_r, mca_u, mca_x, mcat_i, mcat_l, mcat_r, mcat_u, mcat_x, mK_some, mK_none, va_rf_s, va_rf_n, lgc_eq, lgc_lt, lgc_gt, lgc_ge, lgc_le, mrd_104, mrd_105, mrd_106, mrd_107, true_and, and_true, and_self, false_and, and_false, true_or, or_true, false_or, or_false, not_true_eq_false, not_false_eq_true, mgb, mga, mgr, mN, reduceCtorEq, ↓reduceIte, eq_self, ge_iff_le, gt_iff_lt, hk_si, hk_sj, hk_sr, hl_si, hl_sj, hl_sr, hn_si, hn_sj, hn_sr, hs_si, hs_sj, hs_sr, hi_sj, hi_sr, hj_si, hj_sr, hr_si, hr_sj, hi_si, hj_sj, hr_sr, mg_si, mg_sj, mg_sr, Nat.reduceAdd, Nat.reduceMul, Nat.reduceSub, Nat.reduceLT, Nat.reduceGT, Nat.reduceEqDiff, Nat.reduceLeDiff, Nat.left_eq_add, Nat.add_eq_left, Nat.reduceMod, Nat.reduceDiv, Nat.succ_ne_self, g0, c194, kbT, e10, e00, t6, g73, g73', l73, e, gO, z, s5, s6, s7, e2, e3, cg, lt, le, c188, nn_mxT, nn_clamp]
          · have le : (c.toInt64 ≤ mh_j h (o + 2) (2 * k + 1)) = True := eq_true (by rw [Int64.le_iff_toInt_le]; omega)
            rw [if_neg c3] at kz
            subst kz
            clear B H kc F S r T w w2 x1 B1 kc1 kr
            simp (disch := omega) only [s_200_0, s_200_1, s_200_2, s_200_3, s_200_6, s_200_9, s_200_10, s_200_11, s_200_12, s_200_15, s_200_16, s_200_17, s_200_17n, s_200_17x, s_200_19, s_200_20, s_200_23, s_200_24, s_200_25, s_200_26, s_200_27, s_200_28, s_200_31, s_200_32, s_200_33, s_200_34, s_200_36, s_200_38, s_200_41, s_200_44, s_200_45, s_200_48, s_200_50, s_200_51, s_200_53, s_200_56, s_200_58, s_200_59, s_200_60, s_200_63, s_200_66, s_200_68, s_200_69, s_200_71, s_200_74, s_200_76, s_200_77, s_200_78, s_200_81, s_200_82, s_200_83, s_200_85, s_200_88, s_200_90, s_200_92, s_200_93, s_200_94, s_200_96, s_200_98, s_200_101, s_200_102, s_200_103, s_200_104, s_200_105, s_200_107, s_200_110, s_200_111, s_200_112, s_200_113, s_200_114, s_200_115, s_200_116, s_200_117, s_200_120, s_200_121, s_200_124, s_200_125, s_200_128, s_200_129, s_200_132, s_200_133, e_200, mv_i_1, mv_l_1, mv_a_1, mv_a_2, mv_a_3, mk2_n, mk2_i, mk2_l, mk2_a, mk2_u, mk2_x, mB_T, mB_F, mS_cons, mS_nil, mSB_T, mSB_F, mca_nil, mca_i, mca_l, mca_r, mca_u, mca_x, mcat_i, mcat_l, mcat_r, mcat_u, mcat_x, mK_some, mK_none, va_rf_s, va_rf_n, lgc_eq, lgc_lt, lgc_gt, lgc_ge, lgc_le, mrd_104, mrd_105, mrd_106, mrd_107, true_and, and_true, and_self, false_and, and_false, true_or, or_true, false_or, or_false, not_true_eq_false, not_false_eq_true, mgb, mga, mgr, mN, reduceCtorEq, ↓reduceIte, eq_self, ge_iff_le, gt_iff_lt, hk_si, hk_sj, hk_sr, hl_si, hl_sj, hl_sr, hn_si, hn_sj, hn_sr, hs_si, hs_sj, hs_sr, hi_sj, hi_sr, hj_si, hj_sr, hr_si, hr_sj, hi_si, hj_sj, hr_sr, mg_si, mg_sj, mg_sr, Nat.reduceAdd, Nat.reduceMul, Nat.reduceSub, Nat.reduceLT, Nat.reduceGT, Nat.reduceEqDiff, Nat.reduceLeDiff, Nat.left_eq_add, Nat.add_eq_left, Nat.reduceMod, Nat.reduceDiv, Nat.succ_ne_self, g0, c194, kbT, e10, e00, t6, g73, g73', l73, e, gO, z, s5, s6, s7, e2, e3, cg, lt, le, c188, nn_mxT, nn_clamp]
        · rw [if_neg (of_eq_false cg)] at c1
          rw [if_neg (fun w => of_eq_false cg w.2)] at el
          rw [if_pos ⟨rfl, of_eq_false cg⟩] at eh
          rw [el, eh] at kz
          rw [if_neg (of_eq_false cg)] at c188 ⊢
          have lt : (c.toInt64 < mh_j h (o + 2) (2 * k + 1)) = True := eq_true (by rw [Int64.lt_iff_toInt_lt]; omega)
          by_cases c3 : c.toInt < A.lo k
          · have le : (mh_j h (o + 2) (2 * k) ≤ c.toInt64) = False := eq_false (fun z => by rw [Int64.le_iff_toInt_le] at z; omega)
            rw [if_pos c3] at kz
            subst kz
            clear B H kc F S r T w w2 x1 B1 kc1 kr
            simp (disch := omega) only [s_200_0, s_200_1, s_200_2, s_200_3, s_200_6, s_200_9, s_200_10, s_200_11, s_200_12, s_200_15, s_200_16, s_200_17, s_200_17n, s_200_17x, s_200_19, s_200_20, s_200_23, s_200_24, s_200_25, s_200_26, s_200_27, s_200_28, s_200_31, s_200_32, s_200_33, s_200_34, s_200_36, s_200_38, s_200_41, s_200_44, s_200_45, s_200_48, s_200_50, s_200_51, s_200_53, s_200_56, s_200_58, s_200_59, s_200_60, s_200_63, s_200_66, s_200_68, s_200_69, s_200_71, s_200_74, s_200_76, s_200_77, s_200_78, s_200_81, s_200_82, s_200_83, s_200_85, s_200_88, s_200_90, s_200_92, s_200_93, s_200_94, s_200_96, s_200_98, s_200_101, s_200_102, s_200_103, s_200_104, s_200_105, s_200_107, s_200_110, s_200_111, s_200_112, s_200_113, s_200_114, s_200_115, s_200_116, s_200_117, s_200_120, s_200_121, s_200_124, s_200_125, s_200_128, s_200_129, s_200_132, s_200_133, e_200, mv_i_1, mv_l_1, mv_a_1, mv_a_2, mv_a_3, mk2_n, mk2_i, mk2_l, mk2_a, mk2_u, mk2_x, mB_T, mB_F, mS_cons, mS_nil, mSB_T, mSB_F, mca_nil, mca_i, mca_l, mca_r, mca_u, mca_x, mcat_i, mcat_l, mcat_r, mcat_u, mcat_x, mK_some, mK_none, va_rf_s, va_rf_n, lgc_eq, lgc_lt, lgc_gt, lgc_ge, lgc_le, mrd_104, mrd_105, mrd_106, mrd_107, true_and, and_true, and_self, false_and, and_false, true_or, or_true, false_or, or_false, not_true_eq_false, not_false_eq_true, mgb, mga, mgr, mN, reduceCtorEq, ↓reduceIte, eq_self, ge_iff_le, gt_iff_lt, hk_si, hk_sj, hk_sr, hl_si, hl_sj, hl_sr, hn_si, hn_sj, hn_sr, hs_si, hs_sj, hs_sr, hi_sj, hi_sr, hj_si, hj_sr, hr_si, hr_sj, hi_si, hj_sj, hr_sr, mg_si, mg_sj, mg_sr, Nat.reduceAdd, Nat.reduceMul, Nat.reduceSub, Nat.reduceLT, Nat.reduceGT, Nat.reduceEqDiff, Nat.reduceLeDiff, Nat.left_eq_add, Nat.add_eq_left, Nat.reduceMod, Nat.reduceDiv, Nat.succ_ne_self, g0, c194, kbT, e10, e00, t6, g73, g73', l73, e, gO, z, s5, s6, s7, e2, e3, cg, lt, le, c188, nn_mxT, nn_clamp]
          · have le : (mh_j h (o + 2) (2 * k) ≤ c.toInt64) = True := eq_true (by rw [Int64.le_iff_toInt_le]; omega)
            rw [if_neg c3] at kz
            subst kz
            clear B H kc F S r T w w2 x1 B1 kc1 kr
            simp (disch := omega) only [s_200_0, s_200_1, s_200_2, s_200_3, s_200_6, s_200_9, s_200_10, s_200_11, s_200_12, s_200_15, s_200_16, s_200_17, s_200_17n, s_200_17x, s_200_19, s_200_20, s_200_23, s_200_24, s_200_25, s_200_26, s_200_27, s_200_28, s_200_31, s_200_32, s_200_33, s_200_34, s_200_36, s_200_38, s_200_41, s_200_44, s_200_45, s_200_48, s_200_50, s_200_51, s_200_53, s_200_56, s_200_58, s_200_59, s_200_60, s_200_63, s_200_66, s_200_68, s_200_69, s_200_71, s_200_74, s_200_76, s_200_77, s_200_78, s_200_81, s_200_82, s_200_83, s_200_85, s_200_88, s_200_90, s_200_92, s_200_93, s_200_94, s_200_96, s_200_98, s_200_101, s_200_102, s_200_103, s_200_104, s_200_105, s_200_107, s_200_110, s_200_111, s_200_112, s_200_113, s_200_114, s_200_115, s_200_116, s_200_117, s_200_120, s_200_121, s_200_124, s_200_125, s_200_128, s_200_129, s_200_132, s_200_133, e_200, mv_i_1, mv_l_1, mv_a_1, mv_a_2, mv_a_3, mk2_n, mk2_i, mk2_l, mk2_a, mk2_u, mk2_x, mB_T, mB_F, mS_cons, mS_nil, mSB_T, mSB_F, mca_nil, mca_i, mca_l, mca_r, mca_u, mca_x, mcat_i, mcat_l, mcat_r, mcat_u, mcat_x, mK_some, mK_none, va_rf_s, va_rf_n, lgc_eq, lgc_lt, lgc_gt, lgc_ge, lgc_le, mrd_104, mrd_105, mrd_106, mrd_107, true_and, and_true, and_self, false_and, and_false, true_or, or_true, false_or, or_false, not_true_eq_false, not_false_eq_true, mgb, mga, mgr, mN, reduceCtorEq, ↓reduceIte, eq_self, ge_iff_le, gt_iff_lt, hk_si, hk_sj, hk_sr, hl_si, hl_sj, hl_sr, hn_si, hn_sj, hn_sr, hs_si, hs_sj, hs_sr, hi_sj, hi_sr, hj_si, hj_sr, hr_si, hr_sj, hi_si, hj_sj, hr_sr, mg_si, mg_sj, mg_sr, Nat.reduceAdd, Nat.reduceMul, Nat.reduceSub, Nat.reduceLT, Nat.reduceGT, Nat.reduceEqDiff, Nat.reduceLeDiff, Nat.left_eq_add, Nat.add_eq_left, Nat.reduceMod, Nat.reduceDiv, Nat.succ_ne_self, g0, c194, kbT, e10, e00, t6, g73, g73', l73, e, gO, z, s5, s6, s7, e2, e3, cg, lt, le, c188, nn_mxT, nn_clamp]
/-- claimAsAnalysed: its loop -/
theorem ca_l : ∀ m q (h : mh_H), q + m = cnt → BS h Y C E TT UU SC SP nC nE nS → PH h G cnt → (∀ i, i < 250 → mh_r h 73 i = none ∨ ∃ v, pv h 73 i v) → (∀ i, i < cnt → pv h 54 i (kn i)) → (∀ i, i < q → pv h 73 i (kn i)) → ∃ h', zS (fun b _ => b = 73) (fun _ _ => False) h h' ∧ BS h' Y C E TT UU SC SP nC nE nS ∧ (∀ i, i < 250 → mh_r h' 73 i = none ∨ ∃ v, pv h' 73 i v) ∧ (∀ i, i < cnt → pv h' 73 i (kn i)) ∧ ∀ Q, mw (d + 2) 187 Q 2 [some (.ref 0), some (.int (Int32.ofNat q))] [] h = mw (d + 2) 187 Q 59 [some (.ref 0), some (.int (Int32.ofNat cnt))] [] h' := by
  intro m
  induction m with
  | zero =>
    intro q h hq B H cn kk kq
    have e0 : q = cnt := by omega
    subst e0
    refine ⟨h, zS_id, B, cn, kq, fun Q => ?_⟩
    have cb := H.b
    have F := B.F
    have g0 := F.g 0 11 15 (by decide +kernel)
    have t2 := F.f 0 2 2 (by decide +kernel)
    have g2 := F.g 2 4 20 (by decide +kernel)
    have c := H.c
    have le : (q ≤ q) = True := eq_true (Nat.le_refl _)
    clear B F H cn kk kq
    simp (disch := omega) only [s_187_0, s_187_1, s_187_2, s_187_3, s_187_4, s_187_7, s_187_10, s_187_13, s_187_14, s_187_17, s_187_18, s_187_19n, s_187_19, s_187_22, s_187_23, s_187_26, s_187_27, s_187_30, s_187_31, s_187_34, s_187_34n, s_187_34x, s_187_35, s_187_36, s_187_39, s_187_40, s_187_41, s_187_42, s_187_45, s_187_48, s_187_49, s_187_50, s_187_53, s_187_56, s_187_60, s_187_61, s_187_64, s_187_65, s_187_66, s_187_69, e_187, mv_i_1, mv_l_1, mv_a_1, mv_a_2, mv_a_3, mk2_n, mk2_i, mk2_l, mk2_a, mk2_u, mk2_x, mB_T, mB_F, mS_cons, mS_nil, mSB_T, mSB_F, mca_nil, mca_i, mca_l, mca_r, mca_u, mca_x, mcat_i, mcat_l, mcat_r, mcat_u, mcat_x, mK_some, mK_none, va_rf_s, va_rf_n, lgc_eq, lgc_lt, lgc_gt, lgc_ge, lgc_le, mrd_104, mrd_105, mrd_106, mrd_107, true_and, and_true, and_self, false_and, and_false, true_or, or_true, false_or, or_false, not_true_eq_false, not_false_eq_true, mgb, mga, mgr, mN, reduceCtorEq, ↓reduceIte, eq_self, ge_iff_le, gt_iff_lt, hk_si, hk_sj, hk_sr, hl_si, hl_sj, hl_sr, hn_si, hn_sj, hn_sr, hs_si, hs_sj, hs_sr, hi_sj, hi_sr, hj_si, hj_sr, hr_si, hr_sj, hi_si, hj_sj, hr_sr, mg_si, mg_sj, mg_sr, Nat.reduceAdd, Nat.reduceMul, Nat.reduceSub, Nat.reduceLT, Nat.reduceGT, Nat.reduceEqDiff, Nat.reduceLeDiff, Nat.left_eq_add, Nat.add_eq_left, Nat.reduceMod, Nat.reduceDiv, Nat.succ_ne_self, g0, t2, g2, c, nn_le, le]
  | succ m ih =>
    intro q h hq B H cn kk kq
    have cb := H.b
    have F := B.F
    have g0 := F.g 0 11 15 (by decide +kernel)
    have t2 := F.f 0 2 2 (by decide +kernel)
    have t4 := F.f 0 4 53 (by decide +kernel)
    have t6 := F.f 0 6 73 (by decide +kernel)
    have g2 := F.g 2 4 20 (by decide +kernel)
    have g53 := F.g 53 0 17 (by decide +kernel)
    have u0 := F.f 53 0 54 (by decide +kernel)
    have g54 := (F.g 54 104 250 (by decide +kernel)).1
    have g54' := (F.g 54 104 250 (by decide +kernel)).2
    have l54 := F.l 54 104 250 (by decide +kernel)
    have g73 := (F.g 73 104 250 (by decide +kernel)).1
    have g73' := (F.g 73 104 250 (by decide +kernel)).2
    have l73 := F.l 73 104 250 (by decide +kernel)
    have c := H.c
    have le : (cnt ≤ q) = False := eq_false (by omega)
    have ei : Int32.ofNat q + 1 = Int32.ofNat (q + 1) := nn_add (a := q) (b := 1)
    have P7 : ∀ i, isPl 73 i := fun i => by unfold isPl; omega
    have P5 : ∀ i, isPl 54 i := fun i => by unfold isPl; omega
    rcases cn q (by omega) with hn | ⟨v, hv⟩
    · obtain ⟨x, B', r'⟩ := pl_new B (b := 73) (by omega) (by omega : q < 250) hn
      have P := nw_P (h := h) (b := 73) (j := q) (by omega) B.N
      have z := nw_z (h := h)
      have gn : mg (mh_new h 8 6) (mh_n h) 8 := ⟨by rw [hk_new, if_pos rfl], by rw [hn_new]; omega⟩
      have c9 := fun Q => c_139 (d := d + 1) (Q := Q) gn
      have nwe : nwS (mh_n h) (mh_new h 8 6) = nw h := rfl
      have gaS : mg (nw h) (mh_n h) 8 := nw_so.1
      have k73 : mh_k (nw h) 73 = 104 := (fz_mg z ⟨g73, g73'⟩).1
      have n73 : 73 < mh_n (nw h) := (fz_mg z ⟨g73, g73'⟩).2
      have la : mh_l (nw h) 73 = 250 := by rw [fz_l z ⟨g73, g73'⟩]; exact l73
      have ac : me_ac 104 = 8 := by decide
      obtain ⟨h1, eh⟩ : ∃ h1, mh_sr (nw h) 73 q (some (mh_n h)) = h1 := ⟨_, rfl⟩
      rw [eh] at x B' r' P
      have F1 := B'.F
      have g01 := F1.g 0 11 15 (by decide +kernel)
      have t41 := F1.f 0 4 53 (by decide +kernel)
      have t61 := F1.f 0 6 73 (by decide +kernel)
      have g531 := F1.g 53 0 17 (by decide +kernel)
      have u01 := F1.f 53 0 54 (by decide +kernel)
      have g541 := (F1.g 54 104 250 (by decide +kernel)).1
      have g541' := (F1.g 54 104 250 (by decide +kernel)).2
      have l541 := F1.l 54 104 250 (by decide +kernel)
      have g731 := (F1.g 73 104 250 (by decide +kernel)).1
      have g731' := (F1.g 73 104 250 (by decide +kernel)).2
      have l731 := F1.l 73 104 250 (by decide +kernel)
      have kk1 : pv h1 54 q (kn q) := x.pp 54 q _ (P5 q) (by omega) (kk q (by omega))
      obtain ⟨o2, e2, -⟩ := id kk1
      have gO1 := (cs_so B'.S ⟨73, q, P7 q, r'⟩).1.1
      have gO2 := (cs_so B'.S ⟨54, q, P5 q, e2⟩).1.1
      obtain ⟨h2, x2, B2, -, k2, c2⟩ := w_copy (d := d) B' (P7 q) (P5 q) (by omega) r' e2 kk1
      have x12 : zS (fun b j => b = 73 ∧ j = q) (fun _ _ => False) h h2 := zS_t x x2
      obtain ⟨h3, x3, B3, cn3, kq3, run⟩ := ih (q + 1) h2 (by omega) B2 (PH_s B x12 (fun _ _ z => z.elim) H) (fun i hi => by
        by_cases c : i = q
        · rw [c]; exact Or.inr ⟨_, k2⟩
        · rcases cn i hi with z | ⟨v, z⟩
          · exact Or.inl (x12.pz 73 i (P7 i) (fun y => c y.2) z)
          · exact Or.inr ⟨v, x12.pp 73 i v (P7 i) (fun y => c y.2) z⟩) (fun i hi => x12.pp 54 i _ (P5 i) (by omega) (kk i hi)) (fun i hi => by
        by_cases c : i = q
        · rw [c]; exact k2
        · exact x12.pp 73 i _ (P7 i) (fun y => c y.2) (kq i (by omega)))
      refine ⟨h3, zS_t (zS_w x12 (fun b j z => z.1) (fun _ _ z => z)) x3, B3, cn3, kq3, fun Q => ?_⟩
      clear B F H cn kk kq x B' P x2 B2 x12 x3 B3 cn3 kq3 k2 kk1 F1 ih z
      refine s_187_2.trans ?_
      simp (disch := omega) only [s_187_0, s_187_1, s_187_3, s_187_4, s_187_7, s_187_10, s_187_13, s_187_14, s_187_17, s_187_18, s_187_19n, s_187_19, s_187_22, s_187_23, s_187_26, s_187_27, s_187_30, s_187_31, s_187_34, s_187_34n, s_187_34x, s_187_35, s_187_36, s_187_39, s_187_40, s_187_41, s_187_42, s_187_45, s_187_48, s_187_49, s_187_50, s_187_53, s_187_56, s_187_60, s_187_61, s_187_64, s_187_65, s_187_66, s_187_69, e_187, mv_i_1, mv_l_1, mv_a_1, mv_a_2, mv_a_3, mk2_n, mk2_i, mk2_l, mk2_a, mk2_u, mk2_x, mB_T, mB_F, mS_cons, mS_nil, mSB_T, mSB_F, mca_nil, mca_i, mca_l, mca_r, mca_u, mca_x, mcat_i, mcat_l, mcat_r, mcat_u, mcat_x, mK_some, mK_none, va_rf_s, va_rf_n, lgc_eq, lgc_lt, lgc_gt, lgc_ge, lgc_le, mrd_104, mrd_105, mrd_106, mrd_107, true_and, and_true, and_self, false_and, and_false, true_or, or_true, false_or, or_false, not_true_eq_false, not_false_eq_true, mgb, mga, mgr, mN, reduceCtorEq, ↓reduceIte, eq_self, ge_iff_le, gt_iff_lt, hk_si, hk_sj, hk_sr, hl_si, hl_sj, hl_sr, hn_si, hn_sj, hn_sr, hs_si, hs_sj, hs_sr, hi_sj, hi_sr, hj_si, hj_sr, hr_si, hr_sj, hi_si, hj_sj, hr_sr, mg_si, mg_sj, mg_sr, Nat.reduceAdd, Nat.reduceMul, Nat.reduceSub, Nat.reduceLT, Nat.reduceGT, Nat.reduceEqDiff, Nat.reduceLeDiff, Nat.left_eq_add, Nat.add_eq_left, Nat.reduceMod, Nat.reduceDiv, Nat.succ_ne_self, g0, t2, g2, c, nn_le, le, t6, g73, g73', l73, hn, gn, c9, nwe, gaS, k73, n73, la, ac, eh, g01, t41, t61, g531, u01, g541, g541', l541, g731, g731', l731, r', e2, gO1, gO2, c2, nn_mxT, nn_clamp, ei, run]
    · obtain ⟨o1, e1, -⟩ := id hv
      obtain ⟨o2, e2, -⟩ := id (kk q (by omega))
      have gO1 := (cs_so B.S ⟨73, q, P7 q, e1⟩).1.1
      have gO2 := (cs_so B.S ⟨54, q, P5 q, e2⟩).1.1
      obtain ⟨h2, x12, B2, -, k2, c2⟩ := w_copy (d := d) B (P7 q) (P5 q) (by omega) e1 e2 (kk q (by omega))
      obtain ⟨h3, x3, B3, cn3, kq3, run⟩ := ih (q + 1) h2 (by omega) B2 (PH_s B x12 (fun _ _ z => z.elim) H) (fun i hi => by
        by_cases c : i = q
        · rw [c]; exact Or.inr ⟨_, k2⟩
        · rcases cn i hi with z | ⟨v, z⟩
          · exact Or.inl (x12.pz 73 i (P7 i) (fun y => c y.2) z)
          · exact Or.inr ⟨v, x12.pp 73 i v (P7 i) (fun y => c y.2) z⟩) (fun i hi => x12.pp 54 i _ (P5 i) (by omega) (kk i hi)) (fun i hi => by
        by_cases c : i = q
        · rw [c]; exact k2
        · exact x12.pp 73 i _ (P7 i) (fun y => c y.2) (kq i (by omega)))
      refine ⟨h3, zS_t (zS_w x12 (fun b j z => z.1) (fun _ _ z => z)) x3, B3, cn3, kq3, fun Q => ?_⟩
      clear B F H cn kk kq B2 x12 x3 B3 cn3 kq3 k2 ih hv
      refine s_187_2.trans ?_
      simp (disch := omega) only [s_187_0, s_187_1, s_187_3, s_187_4, s_187_7, s_187_10, s_187_13, s_187_14, s_187_17, s_187_18, s_187_19n, s_187_19, s_187_22, s_187_23, s_187_26, s_187_27, s_187_30, s_187_31, s_187_34, s_187_34n, s_187_34x, s_187_35, s_187_36, s_187_39, s_187_40, s_187_41, s_187_42, s_187_45, s_187_48, s_187_49, s_187_50, s_187_53, s_187_56, s_187_60, s_187_61, s_187_64, s_187_65, s_187_66, s_187_69, e_187, mv_i_1, mv_l_1, mv_a_1, mv_a_2, mv_a_3, mk2_n, mk2_i, mk2_l, mk2_a, mk2_u, mk2_x, mB_T, mB_F, mS_cons, mS_nil, mSB_T, mSB_F, mca_nil, mca_i, mca_l, mca_r, mca_u, mca_x, mcat_i, mcat_l, mcat_r, mcat_u, mcat_x, mK_some, mK_none, va_rf_s, va_rf_n, lgc_eq, lgc_lt, lgc_gt, lgc_ge, lgc_le, mrd_104, mrd_105, mrd_106, mrd_107, true_and, and_true, and_self, false_and, and_false, true_or, or_true, false_or, or_false, not_true_eq_false, not_false_eq_true, mgb, mga, mgr, mN, reduceCtorEq, ↓reduceIte, eq_self, ge_iff_le, gt_iff_lt, hk_si, hk_sj, hk_sr, hl_si, hl_sj, hl_sr, hn_si, hn_sj, hn_sr, hs_si, hs_sj, hs_sr, hi_sj, hi_sr, hj_si, hj_sr, hr_si, hr_sj, hi_si, hj_sj, hr_sr, mg_si, mg_sj, mg_sr, Nat.reduceAdd, Nat.reduceMul, Nat.reduceSub, Nat.reduceLT, Nat.reduceGT, Nat.reduceEqDiff, Nat.reduceLeDiff, Nat.left_eq_add, Nat.add_eq_left, Nat.reduceMod, Nat.reduceDiv, Nat.succ_ne_self, g0, t2, t4, g53, u0, g54, g54', l54, g2, c, nn_le, le, t6, g73, g73', l73, e1, e2, gO1, gO2, c2, nn_mxT, nn_clamp, ei, run]
def caH (h : mh_H) : mh_H := mh_si (mh_si h 0 10 0) 0 11 0
theorem ca_z (B : BS h Y C E TT UU SC SP nC nE nS) : zS (fun _ _ => False) ntU h (caH h) ∧ BS (caH h) Y C E TT UU SC SP nC nE nS := zS_G B (show fG ntU h (caH h) from fG_t (fG_si ⟨rfl, Or.inl rfl⟩) (fG_si ⟨rfl, Or.inr rfl⟩)) ntX
theorem v_187 (B : BS h Y C E TT UU SC SP nC nE nS) (H : PH h G cnt) (cn : ∀ i, i < 250 → mh_r h 73 i = none ∨ ∃ v, pv h 73 i v) (kk : ∀ i, i < cnt → pv h 54 i (kn i)) : ∃ h', zS (fun b _ => b = 73) ntU h h' ∧ BS h' Y C E TT UU SC SP nC nE nS ∧ (∀ i, i < 250 → mh_r h' 73 i = none ∨ ∃ v, pv h' 73 i v) ∧ (∀ i, i < cnt → pv h' 73 i (kn i)) ∧ mh_i h' 0 10 = 0 ∧ mh_i h' 0 11 = 0 ∧ ∀ Q, mcall (d + 2) 187 [.ref 0] h Q = Q none h' := by
  obtain ⟨h1, x1, B1, cn1, k1, run⟩ := ca_l (d := d) cnt 0 h (by omega) B H cn kk (fun i hi => by omega)
  obtain ⟨x2, B2⟩ := ca_z B1
  have P7 : ∀ i, isPl 73 i := fun i => by unfold isPl; omega
  refine ⟨_, zS_t (zS_w x1 (fun _ _ z => z) (fun _ _ z => z.elim)) (zS_w x2 (fun _ _ z => z.elim) (fun _ _ z => z)), B2, fun i hi => ?_, fun i hi => x2.pp 73 i _ (P7 i) (fun z => z) (k1 i hi), ?_, ?_, fun Q => ?_⟩
  · rcases cn1 i hi with z | ⟨v, z⟩
    · exact Or.inl (x2.pz 73 i (P7 i) (fun y => y) z)
    · exact Or.inr ⟨v, x2.pp 73 i v (P7 i) (fun y => y) z⟩
  · unfold caH; rw [hi_si, if_neg (by omega), hi_si, if_pos ⟨rfl, rfl⟩]
  · unfold caH; rw [hi_si, if_pos ⟨rfl, rfl⟩]
  · have g01 := B1.F.g 0 11 15 (by decide +kernel)
    have r0 := run Q
    have e0 : Int32.ofNat 0 = 0 := rfl
    rw [e0] at r0
    clear B H cn kk x1 B1 cn1 k1 x2 B2 run
    unfold caH
    simp (disch := omega) only [s_187_0, s_187_1, s_187_3, s_187_4, s_187_7, s_187_10, s_187_13, s_187_14, s_187_17, s_187_18, s_187_19n, s_187_19, s_187_22, s_187_23, s_187_26, s_187_27, s_187_30, s_187_31, s_187_34, s_187_34n, s_187_34x, s_187_35, s_187_36, s_187_39, s_187_40, s_187_41, s_187_42, s_187_45, s_187_48, s_187_49, s_187_50, s_187_53, s_187_56, s_187_59, s_187_60, s_187_61, s_187_64, s_187_65, s_187_66, s_187_69, e_187, mv_i_1, mv_l_1, mv_a_1, mv_a_2, mv_a_3, mk2_n, mk2_i, mk2_l, mk2_a, mk2_u, mk2_x, mB_T, mB_F, mS_cons, mS_nil, mSB_T, mSB_F, mca_nil, mca_i, mca_l, mca_r, mca_u, mca_x, mcat_i, mcat_l, mcat_r, mcat_u, mcat_x, mK_some, mK_none, va_rf_s, va_rf_n, lgc_eq, lgc_lt, lgc_gt, lgc_ge, lgc_le, mrd_104, mrd_105, mrd_106, mrd_107, true_and, and_true, and_self, false_and, and_false, true_or, or_true, false_or, or_false, not_true_eq_false, not_false_eq_true, mgb, mga, mgr, mN, reduceCtorEq, ↓reduceIte, eq_self, ge_iff_le, gt_iff_lt, hk_si, hk_sj, hk_sr, hl_si, hl_sj, hl_sr, hn_si, hn_sj, hn_sr, hs_si, hs_sj, hs_sr, hi_sj, hi_sr, hj_si, hj_sr, hr_si, hr_sj, hi_si, hj_sj, hr_sr, mg_si, mg_sj, mg_sr, Nat.reduceAdd, Nat.reduceMul, Nat.reduceSub, Nat.reduceLT, Nat.reduceGT, Nat.reduceEqDiff, Nat.reduceLeDiff, Nat.left_eq_add, Nat.add_eq_left, Nat.reduceMod, Nat.reduceDiv, Nat.succ_ne_self, r0, s_187_59, s_187_60, s_187_61, s_187_64, s_187_65, s_187_66, s_187_69, g01]
end CRs
