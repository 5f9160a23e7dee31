set_option maxRecDepth 100000
/-! claims, in the class -/
def ntH (h : mh_H) : mh_H := mh_si (mh_si h 0 10 1) 0 11 0
def ntU (b j : Nat) : Prop := b = 0 ∧ (j = 10 ∨ j = 11)
section CMs
variable {d : Nat} {h h1 : mh_H} {Y C E TT UU SC SP nC nE nS : Nat} {G : pgm} {cnt q o : Nat} {p x s y t b : Int32} {c : Int64} {cl kn : Nat → Option ab} {X : Option ab} {A : ab} {U : Nat → Nat → Prop}
theorem ntX : ∀ b j, ntU b j → aX h b := fun b j z => by unfold ntU at z; unfold aX; omega
theorem c_188 (g0 : mg h 0 11) : ∀ Q, mcall d 188 [.ref 0] h Q = Q none (ntH h) := fun Q => by
  unfold ntH
  simp (disch := omega) only [s_188_0, s_188_1, s_188_2, s_188_5, s_188_6, s_188_7, s_188_10, e_188, mv_i_1, mv_l_1, mv_a_1, mv_a_2, mv_a_3, mk2_n, mk2_i, mk2_l, mk2_a, mk2_u, mk2_x, mB_T, mB_F, mS_cons, mS_nil, mSB_T, mSB_F, mca_nil, mca_i, mca_l, mca_r, mca_u, mca_x, mcat_i, mcat_l, mcat_r, mcat_u, mcat_x, mK_some, mK_none, va_rf_s, va_rf_n, lgc_eq, lgc_lt, lgc_gt, lgc_ge, lgc_le, mrd_104, mrd_105, mrd_106, mrd_107, true_and, and_true, and_self, false_and, and_false, true_or, or_true, false_or, or_false, not_true_eq_false, not_false_eq_true, mgb, mga, mgr, mN, reduceCtorEq, ↓reduceIte, eq_self, ge_iff_le, gt_iff_lt, hk_si, hk_sj, hk_sr, hl_si, hl_sj, hl_sr, hn_si, hn_sj, hn_sr, hs_si, hs_sj, hs_sr, hi_sj, hi_sr, hj_si, hj_sr, hr_si, hr_sj, hi_si, hj_sj, hr_sr, mg_si, mg_sj, mg_sr, Nat.reduceAdd, Nat.reduceMul, Nat.reduceSub, Nat.reduceLT, Nat.reduceGT, Nat.reduceEqDiff, Nat.reduceLeDiff, Nat.left_eq_add, Nat.add_eq_left, Nat.reduceMod, Nat.reduceDiv, Nat.succ_ne_self, g0]
theorem nt_z (B : BS h Y C E TT UU SC SP nC nE nS) : zS (fun _ _ => False) ntU h (ntH h) ∧ BS (ntH h) Y C E TT UU SC SP nC nE nS := zS_G B (show fG ntU h (ntH h) from fG_t (fG_si ⟨rfl, Or.inl rfl⟩) (fG_si ⟨rfl, Or.inr rfl⟩)) ntX
theorem nt_10 : mh_i (ntH h) 0 10 = 1 := by unfold ntH; rw [hi_si, if_neg (by omega), hi_si, if_pos ⟨rfl, rfl⟩]
theorem nt_11 : mh_i (ntH h) 0 11 = 0 := by unfold ntH; rw [hi_si, if_pos ⟨rfl, rfl⟩]
theorem cl_up (x : zS (fun b j => b = 73 ∧ j = q) U h h1) (kc : ∀ q, q < cnt → pv h 73 q (cl q)) (k : pv h1 73 q X) : ∀ q', q' < cnt → pv h1 73 q' (upC cl q X q') := fun q' hq' => by
  by_cases e : q' = q
  · subst e; rw [upC_s]; exact k
  · rw [upC_n e]; exact x.pp 73 q' _ (by unfold isPl; omega) (fun z => e z.2) (kc q' hq')
/-- a State that is changed, and that it is noted -/
theorem cl_nt (B : BS h Y C E TT UU SC SP nC nE nS) (e : mh_r h 73 q = some o) (f : fq (sW o 52) h h1) (kc : ∀ q, q < cnt → pv h 73 q (cl q)) (k : RS h1 o X) (hqc : q < cnt) : zS (fun b j => b = 73 ∧ j < cnt) ntU h (ntH h1) ∧ BS (ntH h1) Y C E TT UU SC SP nC nE nS ∧ ∀ q', q' < cnt → pv (ntH h1) 73 q' (upC cl q X q') := by
  obtain ⟨x1, B1⟩ := zS_q B (by unfold isPl; omega : isPl 73 q) e f
  obtain ⟨x2, B2⟩ := nt_z B1
  have kc1 := cl_up x1 kc ⟨o, by rw [f.2.2.1]; exact e, k⟩
  exact ⟨zS_t (zS_w x1 (fun _ _ z => ⟨z.1, by rw [z.2]; exact hqc⟩) (fun _ _ z => z.elim)) (zS_w x2 (fun _ _ z => z.elim) (fun _ _ z => z)), B2, fun q' hq' => x2.pp 73 q' _ (by unfold isPl; omega) (fun z => z) (kc1 q' hq')⟩
/-- stateAt -/
theorem v_197 (B : BS h Y C E TT UU SC SP nC nE nS) (hq : q < 250) (e : mh_r h (if b = 0 then 54 else 73) q = some o) : ∀ Q, mcall d 197 [.ref 0, .int b, .int (Int32.ofNat q)] h Q = Q (some (.ref o)) h := fun Q => by
  have F := B.F
  have g0 := F.g 0 11 15 (by decide +kernel)
  have t4 := F.f 0 4 53 (by decide +kernel)
  have t6 := F.f 0 6 73 (by decide +kernel)
  have g53 := F.g 53 0 17 (by decide +kernel)
  have u0 := F.f 53 0 54 (by decide +kernel)
  have g54 := (F.g 54 104 250 (by decide +kernel)).1
  have g54' := (F.g 54 104 250 (by decide +kernel)).2
  have l54 := F.l 54 104 250 (by decide +kernel)
  have g73 := (F.g 73 104 250 (by decide +kernel)).1
  have g73' := (F.g 73 104 250 (by decide +kernel)).2
  have l73 := F.l 73 104 250 (by decide +kernel)
  have gO := (cs_so B.S ⟨_, q, by unfold isPl; split <;> omega, e⟩).1.1
  clear B F
  rcases Classical.propComplete (b = 0) with c | c
  · rw [if_pos (of_eq_true c)] at e
    simp (disch := omega) only [s_197_0, s_197_1, s_197_4, s_197_5, s_197_8, s_197_9, s_197_10, s_197_13, s_197_14, s_197_17, s_197_20, s_197_21, s_197_22, s_197_22n, e_197, mv_i_1, mv_l_1, mv_a_1, mv_a_2, mv_a_3, mk2_n, mk2_i, mk2_l, mk2_a, mk2_u, mk2_x, mB_T, mB_F, mS_cons, mS_nil, mSB_T, mSB_F, mca_nil, mca_i, mca_l, mca_r, mca_u, mca_x, mcat_i, mcat_l, mcat_r, mcat_u, mcat_x, mK_some, mK_none, va_rf_s, va_rf_n, lgc_eq, lgc_lt, lgc_gt, lgc_ge, lgc_le, mrd_104, mrd_105, mrd_106, mrd_107, true_and, and_true, and_self, false_and, and_false, true_or, or_true, false_or, or_false, not_true_eq_false, not_false_eq_true, mgb, mga, mgr, mN, reduceCtorEq, ↓reduceIte, eq_self, ge_iff_le, gt_iff_lt, hk_si, hk_sj, hk_sr, hl_si, hl_sj, hl_sr, hn_si, hn_sj, hn_sr, hs_si, hs_sj, hs_sr, hi_sj, hi_sr, hj_si, hj_sr, hr_si, hr_sj, hi_si, hj_sj, hr_sr, mg_si, mg_sj, mg_sr, Nat.reduceAdd, Nat.reduceMul, Nat.reduceSub, Nat.reduceLT, Nat.reduceGT, Nat.reduceEqDiff, Nat.reduceLeDiff, Nat.left_eq_add, Nat.add_eq_left, Nat.reduceMod, Nat.reduceDiv, Nat.succ_ne_self, g0, t4, g53, u0, g54, g54', l54, e, gO, c, nn_mxT, nn_clamp]
  · rw [if_neg (of_eq_false c)] at e
    simp (disch := omega) only [s_197_0, s_197_1, s_197_4, s_197_5, s_197_8, s_197_9, s_197_10, s_197_13, s_197_14, s_197_17, s_197_20, s_197_21, s_197_22, s_197_22n, e_197, mv_i_1, mv_l_1, mv_a_1, mv_a_2, mv_a_3, mk2_n, mk2_i, mk2_l, mk2_a, mk2_u, mk2_x, mB_T, mB_F, mS_cons, mS_nil, mSB_T, mSB_F, mca_nil, mca_i, mca_l, mca_r, mca_u, mca_x, mcat_i, mcat_l, mcat_r, mcat_u, mcat_x, mK_some, mK_none, va_rf_s, va_rf_n, lgc_eq, lgc_lt, lgc_gt, lgc_ge, lgc_le, mrd_104, mrd_105, mrd_106, mrd_107, true_and, and_true, and_self, false_and, and_false, true_or, or_true, false_or, or_false, not_true_eq_false, not_false_eq_true, mgb, mga, mgr, mN, reduceCtorEq, ↓reduceIte, eq_self, ge_iff_le, gt_iff_lt, hk_si, hk_sj, hk_sr, hl_si, hl_sj, hl_sr, hn_si, hn_sj, hn_sr, hs_si, hs_sj, hs_sr, hi_sj, hi_sr, hj_si, hj_sr, hr_si, hr_sj, hi_si, hj_sj, hr_sr, mg_si, mg_sj, mg_sr, Nat.reduceAdd, Nat.reduceMul, Nat.reduceSub, Nat.reduceLT, Nat.reduceGT, Nat.reduceEqDiff, Nat.reduceLeDiff, Nat.left_eq_add, Nat.add_eq_left, Nat.reduceMod, Nat.reduceDiv, Nat.succ_ne_self, g0, t6, g73, g73', l73, e, gO, c, nn_mxT, nn_clamp]
/-- bound -/
theorem v_196 (B : BS h Y C E TT UU SC SP nC nE nS) (H : PH h G cnt) {st : Nat → Option ab} (ks : ∀ q, q < cnt → pv h (if b = 0 then 54 else 73) q (st q)) (S : CSH G cnt st) : ∀ Q, mcall (d + 2) 196 [.ref 0, .int b, .int p, .int x, .int s, .int y, .int t] h Q = Q (some (.long (bdR G cnt st p x s y t))) h := fun Q => by
  have cb := H.b
  have c193 := v_193 (d := d) (p := p) (x := x) (s := s) (y := y) (t := t) B H
  have g0 := B.F.g 0 11 15 (by decide +kernel)
  have e00 : ((0 : Int32) = 0) = True := by decide
  have e10 : ((1 : Int32) = 0) = False := by decide
  unfold bdR
  cases ok : okB G cnt p x s y t with
  | false =>
    rw [ok] at c193
    rw [if_neg (by decide)]
    clear B H ks S
    simp (disch := omega) only [s_196_0, s_196_1, s_196_2, s_196_3, s_196_5, s_196_7, s_196_9, s_196_12, s_196_15, s_196_18, s_196_19, s_196_20, s_196_21, s_196_22, s_196_25, s_196_25n, s_196_27, s_196_29, s_196_32, s_196_35, s_196_38, s_196_41, s_196_43, s_196_44, s_196_46, s_196_49, s_196_51, s_196_53, s_196_56, s_196_59, e_196, mv_i_1, mv_l_1, mv_a_1, mv_a_2, mv_a_3, mk2_n, mk2_i, mk2_l, mk2_a, mk2_u, mk2_x, mB_T, mB_F, mS_cons, mS_nil, mSB_T, mSB_F, mca_nil, mca_i, mca_l, mca_r, mca_u, mca_x, mcat_i, mcat_l, mcat_r, mcat_u, mcat_x, mK_some, mK_none, va_rf_s, va_rf_n, lgc_eq, lgc_lt, lgc_gt, lgc_ge, lgc_le, mrd_104, mrd_105, mrd_106, mrd_107, true_and, and_true, and_self, false_and, and_false, true_or, or_true, false_or, or_false, not_true_eq_false, not_false_eq_true, mgb, mga, mgr, mN, reduceCtorEq, ↓reduceIte, eq_self, ge_iff_le, gt_iff_lt, hk_si, hk_sj, hk_sr, hl_si, hl_sj, hl_sr, hn_si, hn_sj, hn_sr, hs_si, hs_sj, hs_sr, hi_sj, hi_sr, hj_si, hj_sr, hr_si, hr_sj, hi_si, hj_sj, hr_sr, mg_si, mg_sj, mg_sr, Nat.reduceAdd, Nat.reduceMul, Nat.reduceSub, Nat.reduceLT, Nat.reduceGT, Nat.reduceEqDiff, Nat.reduceLeDiff, Nat.left_eq_add, Nat.add_eq_left, Nat.reduceMod, Nat.reduceDiv, Nat.succ_ne_self, g0, c193, kbF, e00]
  | true =>
    rw [ok] at c193
    rw [if_pos rfl]
    have ok' := ok
    unfold okB at ok'
    rw [Bool.and_eq_true] at ok'
    obtain ⟨o1, o2⟩ := ok'
    obtain ⟨q, hq, ep, eq⟩ := okP_n (by omega) o1
    have kk := H.k q hq
    rw [eq] at o2 ⊢
    obtain ⟨k, l, hk, hl, ex, ey, hs, ht, hv, hw, hvw⟩ := okT_n (by omega) o2
    have ca := v_195 (d := d + 1) (h := h) hs (k := k) (by omega) ex
    have cb' := v_195 (d := d + 1) (h := h) ht (k := l) (by omega) ey
    obtain ⟨v, ev⟩ : ∃ v, sgx x s = v := ⟨_, rfl⟩
    obtain ⟨w, ew⟩ : ∃ w, sgx y t = w := ⟨_, rfl⟩
    rw [ev] at ca hv ⊢
    rw [ew] at cb' hw ⊢
    obtain ⟨o, e, r⟩ := ks q hq
    have c197 := v_197 (d := d + 1) (b := b) B (by omega : q < 250) e
    have gO := (RS_so r).1
    subst ep
    cases ec : st q with
    | none =>
      rw [ec] at r
      have z := r.1.z
      clear B H ks S r
      simp (disch := omega) only [s_196_0, s_196_1, s_196_2, s_196_3, s_196_5, s_196_7, s_196_9, s_196_12, s_196_15, s_196_18, s_196_19, s_196_20, s_196_21, s_196_22, s_196_25, s_196_25n, s_196_27, s_196_29, s_196_32, s_196_35, s_196_38, s_196_41, s_196_43, s_196_44, s_196_46, s_196_49, s_196_51, s_196_53, s_196_56, s_196_59, e_196, mv_i_1, mv_l_1, mv_a_1, mv_a_2, mv_a_3, mk2_n, mk2_i, mk2_l, mk2_a, mk2_u, mk2_x, mB_T, mB_F, mS_cons, mS_nil, mSB_T, mSB_F, mca_nil, mca_i, mca_l, mca_r, mca_u, mca_x, mcat_i, mcat_l, mcat_r, mcat_u, mcat_x, mK_some, mK_none, va_rf_s, va_rf_n, lgc_eq, lgc_lt, lgc_gt, lgc_ge, lgc_le, mrd_104, mrd_105, mrd_106, mrd_107, true_and, and_true, and_self, false_and, and_false, true_or, or_true, false_or, or_false, not_true_eq_false, not_false_eq_true, mgb, mga, mgr, mN, reduceCtorEq, ↓reduceIte, eq_self, ge_iff_le, gt_iff_lt, hk_si, hk_sj, hk_sr, hl_si, hl_sj, hl_sr, hn_si, hn_sj, hn_sr, hs_si, hs_sj, hs_sr, hi_sj, hi_sr, hj_si, hj_sr, hr_si, hr_sj, hi_si, hj_sj, hr_sr, mg_si, mg_sj, mg_sr, Nat.reduceAdd, Nat.reduceMul, Nat.reduceSub, Nat.reduceLT, Nat.reduceGT, Nat.reduceEqDiff, Nat.reduceLeDiff, Nat.left_eq_add, Nat.add_eq_left, Nat.reduceMod, Nat.reduceDiv, Nat.succ_ne_self, g0, c193, kbT, e10, c197, gO, z]
    | some A =>
      rw [ec] at r
      obtain ⟨T, n1, -, -⟩ := S q hq A ec
      have z := r.1.z
      obtain ⟨g, eg, c146⟩ := l_146 (d := d + 1) r.1 T.t (v := v) (w := w) (by omega) (by omega)
      have eg' : Int64.ofInt (a_gr A v w) = g := by
        have : a_gr A v w = g.toInt := eg.symm
        rw [this, cl_ofI]
      show _ = Q (some (.long (Int64.ofInt (a_gr A v w)))) h
      rw [eg']
      clear B H ks S r T eg eg'
      simp (disch := omega) only [s_196_0, s_196_1, s_196_2, s_196_3, s_196_5, s_196_7, s_196_9, s_196_12, s_196_15, s_196_18, s_196_19, s_196_20, s_196_21, s_196_22, s_196_25, s_196_25n, s_196_27, s_196_29, s_196_32, s_196_35, s_196_38, s_196_41, s_196_43, s_196_44, s_196_46, s_196_49, s_196_51, s_196_53, s_196_56, s_196_59, e_196, mv_i_1, mv_l_1, mv_a_1, mv_a_2, mv_a_3, mk2_n, mk2_i, mk2_l, mk2_a, mk2_u, mk2_x, mB_T, mB_F, mS_cons, mS_nil, mSB_T, mSB_F, mca_nil, mca_i, mca_l, mca_r, mca_u, mca_x, mcat_i, mcat_l, mcat_r, mcat_u, mcat_x, mK_some, mK_none, va_rf_s, va_rf_n, lgc_eq, lgc_lt, lgc_gt, lgc_ge, lgc_le, mrd_104, mrd_105, mrd_106, mrd_107, true_and, and_true, and_self, false_and, and_false, true_or, or_true, false_or, or_false, not_true_eq_false, not_false_eq_true, mgb, mga, mgr, mN, reduceCtorEq, ↓reduceIte, eq_self, ge_iff_le, gt_iff_lt, hk_si, hk_sj, hk_sr, hl_si, hl_sj, hl_sr, hn_si, hn_sj, hn_sr, hs_si, hs_sj, hs_sr, hi_sj, hi_sr, hj_si, hj_sr, hr_si, hr_sj, hi_si, hj_sj, hr_sr, mg_si, mg_sj, mg_sr, Nat.reduceAdd, Nat.reduceMul, Nat.reduceSub, Nat.reduceLT, Nat.reduceGT, Nat.reduceEqDiff, Nat.reduceLeDiff, Nat.left_eq_add, Nat.add_eq_left, Nat.reduceMod, Nat.reduceDiv, Nat.succ_ne_self, g0, c193, kbT, e10, e00, c197, gO, z, ca, cb', c146]
/-- range -/
theorem v_198 (B : BS h Y C E TT UU SC SP nC nE nS) (H : PH h G cnt) {st : Nat → Option ab} (ks : ∀ q, q < cnt → pv h (if b = 0 then 54 else 73) q (st q)) (S : CSH G cnt st) {a g : Int32} : ∀ Q, mcall (d + 2) 198 [.ref 0, .int b, .int p, .int a, .int g] h Q = Q (some (.long (rgR G cnt st p a g))) h := fun Q => by
  have cb := H.b
  have c194 := v_194 (d := d) (p := p) (a := a) B H
  have g0 := B.F.g 0 11 15 (by decide +kernel)
  have e00 : ((0 : Int32) = 0) = True := by decide
  have e10 : ((1 : Int32) = 0) = False := by decide
  unfold rgR
  cases ok : okA G cnt p a with
  | false =>
    rw [ok] at c194
    rw [if_neg (by decide)]
    clear B H ks S
    simp (disch := omega) only [s_198_0, s_198_1, s_198_2, s_198_3, s_198_6, s_198_9, s_198_12, s_198_13, s_198_14, s_198_15, s_198_16, s_198_19, s_198_19n, s_198_21, s_198_23, s_198_26, s_198_29, s_198_32, s_198_35, s_198_37, s_198_40, s_198_42, s_198_45, s_198_46, s_198_47, s_198_48, s_198_49, s_198_50, s_198_53, s_198_54, s_198_55, s_198_56, s_198_57, e_198, mv_i_1, mv_l_1, mv_a_1, mv_a_2, mv_a_3, mk2_n, mk2_i, mk2_l, mk2_a, mk2_u, mk2_x, mB_T, mB_F, mS_cons, mS_nil, mSB_T, mSB_F, mca_nil, mca_i, mca_l, mca_r, mca_u, mca_x, mcat_i, mcat_l, mcat_r, mcat_u, mcat_x, mK_some, mK_none, va_rf_s, va_rf_n, lgc_eq, lgc_lt, lgc_gt, lgc_ge, lgc_le, mrd_104, mrd_105, mrd_106, mrd_107, true_and, and_true, and_self, false_and, and_false, true_or, or_true, false_or, or_false, not_true_eq_false, not_false_eq_true, mgb, mga, mgr, mN, reduceCtorEq, ↓reduceIte, eq_self, ge_iff_le, gt_iff_lt, hk_si, hk_sj, hk_sr, hl_si, hl_sj, hl_sr, hn_si, hn_sj, hn_sr, hs_si, hs_sj, hs_sr, hi_sj, hi_sr, hj_si, hj_sr, hr_si, hr_sj, hi_si, hj_sj, hr_sr, mg_si, mg_sj, mg_sr, Nat.reduceAdd, Nat.reduceMul, Nat.reduceSub, Nat.reduceLT, Nat.reduceGT, Nat.reduceEqDiff, Nat.reduceLeDiff, Nat.left_eq_add, Nat.add_eq_left, Nat.reduceMod, Nat.reduceDiv, Nat.succ_ne_self, g0, c194, kbF, e00]
  | true =>
    rw [ok] at c194
    rw [if_pos rfl]
    have ok' := ok
    unfold okA at ok'
    rw [Bool.and_eq_true] at ok'
    obtain ⟨o1, o2⟩ := ok'
    obtain ⟨q, hq, ep, eq⟩ := okP_n (by omega) o1
    have kk := H.k q hq
    rw [eq] at o2 ⊢
    obtain ⟨k, hk, ea, ea'⟩ := okP_n (by omega) o2
    obtain ⟨o, e, r⟩ := ks q hq
    have c197 := v_197 (d := d + 1) (b := b) B (by omega : q < 250) e
    obtain ⟨gO, -, -, -, s5, s6, s7⟩ := RS_so r
    rw [ea']
    subst ep
    subst ea
    cases ec : st q with
    | none =>
      rw [ec] at r
      have z := r.1.z
      clear B H ks S r
      simp (disch := omega) only [s_198_0, s_198_1, s_198_2, s_198_3, s_198_6, s_198_9, s_198_12, s_198_13, s_198_14, s_198_15, s_198_16, s_198_19, s_198_19n, s_198_21, s_198_23, s_198_26, s_198_29, s_198_32, s_198_35, s_198_37, s_198_40, s_198_42, s_198_45, s_198_46, s_198_47, s_198_48, s_198_49, s_198_50, s_198_53, s_198_54, s_198_55, s_198_56, s_198_57, e_198, mv_i_1, mv_l_1, mv_a_1, mv_a_2, mv_a_3, mk2_n, mk2_i, mk2_l, mk2_a, mk2_u, mk2_x, mB_T, mB_F, mS_cons, mS_nil, mSB_T, mSB_F, mca_nil, mca_i, mca_l, mca_r, mca_u, mca_x, mcat_i, mcat_l, mcat_r, mcat_u, mcat_x, mK_some, mK_none, va_rf_s, va_rf_n, lgc_eq, lgc_lt, lgc_gt, lgc_ge, lgc_le, mrd_104, mrd_105, mrd_106, mrd_107, true_and, and_true, and_self, false_and, and_false, true_or, or_true, false_or, or_false, not_true_eq_false, not_false_eq_true, mgb, mga, mgr, mN, reduceCtorEq, ↓reduceIte, eq_self, ge_iff_le, gt_iff_lt, hk_si, hk_sj, hk_sr, hl_si, hl_sj, hl_sr, hn_si, hn_sj, hn_sr, hs_si, hs_sj, hs_sr, hi_sj, hi_sr, hj_si, hj_sr, hr_si, hr_sj, hi_si, hj_sj, hr_sr, mg_si, mg_sj, mg_sr, Nat.reduceAdd, Nat.reduceMul, Nat.reduceSub, Nat.reduceLT, Nat.reduceGT, Nat.reduceEqDiff, Nat.reduceLeDiff, Nat.left_eq_add, Nat.add_eq_left, Nat.reduceMod, Nat.reduceDiv, Nat.succ_ne_self, g0, c194, kbT, e10, c197, gO, z]
    | some A =>
      rw [ec] at r
      obtain ⟨-, n1, a1, -⟩ := S q hq A ec
      have z := r.1.z
      obtain ⟨m1, m2⟩ := r.1.e k (by omega)
      show _ = Q (some (.long (Int64.ofInt (if g = 0 then A.lo k else A.hi k)))) h
      have e2 : (2 : Int32) * Int32.ofNat k = Int32.ofNat (2 * k) := nn_mul (a := 2) (b := k)
      have e3 : Int32.ofNat (2 * k) + 1 = Int32.ofNat (2 * k + 1) := nn_add (a := 2 * k) (b := 1)
      rw [← m1, ← m2]
      clear B H ks S r m1 m2
      rcases Classical.propComplete (g = 0) with c | c
      · rw [if_pos (of_eq_true c), cl_ofI]
        simp (disch := omega) only [s_198_0, s_198_1, s_198_2, s_198_3, s_198_6, s_198_9, s_198_12, s_198_13, s_198_14, s_198_15, s_198_16, s_198_19, s_198_19n, s_198_21, s_198_23, s_198_26, s_198_29, s_198_32, s_198_35, s_198_37, s_198_40, s_198_42, s_198_45, s_198_46, s_198_47, s_198_48, s_198_49, s_198_50, s_198_53, s_198_54, s_198_55, s_198_56, s_198_57, e_198, mv_i_1, mv_l_1, mv_a_1, mv_a_2, mv_a_3, mk2_n, mk2_i, mk2_l, mk2_a, mk2_u, mk2_x, mB_T, mB_F, mS_cons, mS_nil, mSB_T, mSB_F, mca_nil, mca_i, mca_l, mca_r, mca_u, mca_x, mcat_i, mcat_l, mcat_r, mcat_u, mcat_x, mK_some, mK_none, va_rf_s, va_rf_n, lgc_eq, lgc_lt, lgc_gt, lgc_ge, lgc_le, mrd_104, mrd_105, mrd_106, mrd_107, true_and, and_true, and_self, false_and, and_false, true_or, or_true, false_or, or_false, not_true_eq_false, not_false_eq_true, mgb, mga, mgr, mN, reduceCtorEq, ↓reduceIte, eq_self, ge_iff_le, gt_iff_lt, hk_si, hk_sj, hk_sr, hl_si, hl_sj, hl_sr, hn_si, hn_sj, hn_sr, hs_si, hs_sj, hs_sr, hi_sj, hi_sr, hj_si, hj_sr, hr_si, hr_sj, hi_si, hj_sj, hr_sr, mg_si, mg_sj, mg_sr, Nat.reduceAdd, Nat.reduceMul, Nat.reduceSub, Nat.reduceLT, Nat.reduceGT, Nat.reduceEqDiff, Nat.reduceLeDiff, Nat.left_eq_add, Nat.add_eq_left, Nat.reduceMod, Nat.reduceDiv, Nat.succ_ne_self, g0, c194, kbT, e10, e00, c197, gO, z, s5, s6, s7, e2, c, nn_mxT, nn_clamp]
      · rw [if_neg (of_eq_false c), cl_ofI]
        simp (disch := omega) only [s_198_0, s_198_1, s_198_2, s_198_3, s_198_6, s_198_9, s_198_12, s_198_13, s_198_14, s_198_15, s_198_16, s_198_19, s_198_19n, s_198_21, s_198_23, s_198_26, s_198_29, s_198_32, s_198_35, s_198_37, s_198_40, s_198_42, s_198_45, s_198_46, s_198_47, s_198_48, s_198_49, s_198_50, s_198_53, s_198_54, s_198_55, s_198_56, s_198_57, e_198, mv_i_1, mv_l_1, mv_a_1, mv_a_2, mv_a_3, mk2_n, mk2_i, mk2_l, mk2_a, mk2_u, mk2_x, mB_T, mB_F, mS_cons, mS_nil, mSB_T, mSB_F, mca_nil, mca_i, mca_l, mca_r, mca_u, mca_x, mcat_i, mcat_l, mcat_r, mcat_u, mcat_x, mK_some, mK_none, va_rf_s, va_rf_n, lgc_eq, lgc_lt, lgc_gt, lgc_ge, lgc_le, mrd_104, mrd_105, mrd_106, mrd_107, true_and, and_true, and_self, false_and, and_false, true_or, or_true, false_or, or_false, not_true_eq_false, not_false_eq_true, mgb, mga, mgr, mN, reduceCtorEq, ↓reduceIte, eq_self, ge_iff_le, gt_iff_lt, hk_si, hk_sj, hk_sr, hl_si, hl_sj, hl_sr, hn_si, hn_sj, hn_sr, hs_si, hs_sj, hs_sr, hi_sj, hi_sr, hj_si, hj_sr, hr_si, hr_sj, hi_si, hj_sj, hr_sr, mg_si, mg_sj, mg_sr, Nat.reduceAdd, Nat.reduceMul, Nat.reduceSub, Nat.reduceLT, Nat.reduceGT, Nat.reduceEqDiff, Nat.reduceLeDiff, Nat.left_eq_add, Nat.add_eq_left, Nat.reduceMod, Nat.reduceDiv, Nat.succ_ne_self, g0, c194, kbT, e10, e00, c197, gO, z, s5, s6, s7, e2, e3, c, nn_mxT, nn_clamp]
/-- claimNothing -/
theorem v_201 (B : BS h Y C E TT UU SC SP nC nE nS) (H : PH h G cnt) (kc : ∀ q, q < cnt → pv h 73 q (cl q)) : ∃ h', zS (fun b j => b = 73 ∧ j < cnt) ntU h h' ∧ BS h' Y C E TT UU SC SP nC nE nS ∧ (∀ q, q < cnt → pv h' 73 q (cnC cnt cl p q)) ∧ (if cnR cnt cl p = 1 then mh_i h' 0 10 = 1 ∧ mh_i h' 0 11 = 0 else h' = h) ∧ ∀ Q, mcall (d + 1) 201 [.ref 0, .int p] h Q = Q (some (.int (cnR cnt cl p))) h' := by
  have cb := H.b
  have c192 := v_192 (d := d) (p := p) B H
  have F := B.F
  have g0 := F.g 0 11 15 (by decide +kernel)
  have t6 := F.f 0 6 73 (by decide +kernel)
  have g73 := (F.g 73 104 250 (by decide +kernel)).1
  have g73' := (F.g 73 104 250 (by decide +kernel)).2
  have l73 := F.l 73 104 250 (by decide +kernel)
  have e00 : ((0 : Int32) = 0) = True := by decide
  have e10 : ((1 : Int32) = 0) = False := by decide
  cases ok : okP cnt p with
  | false =>
    have r : cnR cnt cl p = -1 := by unfold cnR; rw [ok, if_neg (by decide)]
    have rc : cnC cnt cl p = cl := by unfold cnC; rw [ok, if_neg (by decide)]
    refine ⟨h, zS_id, B, by rw [rc]; exact kc, by rw [r, if_neg (by decide)], fun Q => ?_⟩
    rw [r]
    rw [ok] at c192
    clear B H kc F
    simp (disch := omega) only [s_201_0, s_201_1, s_201_2, s_201_5, s_201_8, s_201_9, s_201_10, s_201_11, s_201_14, s_201_15, s_201_16, s_201_19, s_201_22, s_201_23, s_201_24, s_201_25, s_201_28, s_201_29, s_201_30, s_201_31, s_201_34, s_201_35, s_201_38, s_201_39, e_201, mv_i_1, mv_l_1, mv_a_1, mv_a_2, mv_a_3, mk2_n, mk2_i, mk2_l, mk2_a, mk2_u, mk2_x, mB_T, mB_F, mS_cons, mS_nil, mSB_T, mSB_F, mca_nil, mca_i, mca_l, mca_r, mca_u, mca_x, mcat_i, mcat_l, mcat_r, mcat_u, mcat_x, mK_some, mK_none, va_rf_s, va_rf_n, lgc_eq, lgc_lt, lgc_gt, lgc_ge, lgc_le, mrd_104, mrd_105, mrd_106, mrd_107, true_and, and_true, and_self, false_and, and_false, true_or, or_true, false_or, or_false, not_true_eq_false, not_false_eq_true, mgb, mga, mgr, mN, reduceCtorEq, ↓reduceIte, eq_self, ge_iff_le, gt_iff_lt, hk_si, hk_sj, hk_sr, hl_si, hl_sj, hl_sr, hn_si, hn_sj, hn_sr, hs_si, hs_sj, hs_sr, hi_sj, hi_sr, hj_si, hj_sr, hr_si, hr_sj, hi_si, hj_sj, hr_sr, mg_si, mg_sj, mg_sr, Nat.reduceAdd, Nat.reduceMul, Nat.reduceSub, Nat.reduceLT, Nat.reduceGT, Nat.reduceEqDiff, Nat.reduceLeDiff, Nat.left_eq_add, Nat.add_eq_left, Nat.reduceMod, Nat.reduceDiv, Nat.succ_ne_self, g0, c192, kbF, e00]
  | true =>
    rw [ok] at c192
    obtain ⟨q, hq, ep, eq⟩ := okP_n (by omega) ok
    obtain ⟨o, e, k⟩ := kc q hq
    have gO := (RS_so k).1
    have rc : cnC cnt cl p = upC cl q none := by unfold cnC; rw [ok, if_pos rfl, eq]
    cases ec : cl q with
    | none =>
      have r : cnR cnt cl p = 0 := by unfold cnR; rw [ok, if_pos rfl, eq, ec]
      refine ⟨h, zS_id, B, by rw [rc, ← ec, upC_i]; exact kc, by rw [r, if_neg (by decide)], fun Q => ?_⟩
      rw [r]
      rw [ec] at k
      have z := k.1.z
      subst ep
      clear B H kc F k
      simp (disch := omega) only [s_201_0, s_201_1, s_201_2, s_201_5, s_201_8, s_201_9, s_201_10, s_201_11, s_201_14, s_201_15, s_201_16, s_201_19, s_201_22, s_201_23, s_201_24, s_201_25, s_201_28, s_201_29, s_201_30, s_201_31, s_201_34, s_201_35, s_201_38, s_201_39, e_201, mv_i_1, mv_l_1, mv_a_1, mv_a_2, mv_a_3, mk2_n, mk2_i, mk2_l, mk2_a, mk2_u, mk2_x, mB_T, mB_F, mS_cons, mS_nil, mSB_T, mSB_F, mca_nil, mca_i, mca_l, mca_r, mca_u, mca_x, mcat_i, mcat_l, mcat_r, mcat_u, mcat_x, mK_some, mK_none, va_rf_s, va_rf_n, lgc_eq, lgc_lt, lgc_gt, lgc_ge, lgc_le, mrd_104, mrd_105, mrd_106, mrd_107, true_and, and_true, and_self, false_and, and_false, true_or, or_true, false_or, or_false, not_true_eq_false, not_false_eq_true, mgb, mga, mgr, mN, reduceCtorEq, ↓reduceIte, eq_self, ge_iff_le, gt_iff_lt, hk_si, hk_sj, hk_sr, hl_si, hl_sj, hl_sr, hn_si, hn_sj, hn_sr, hs_si, hs_sj, hs_sr, hi_sj, hi_sr, hj_si, hj_sr, hr_si, hr_sj, hi_si, hj_sj, hr_sr, mg_si, mg_sj, mg_sr, Nat.reduceAdd, Nat.reduceMul, Nat.reduceSub, Nat.reduceLT, Nat.reduceGT, Nat.reduceEqDiff, Nat.reduceLeDiff, Nat.left_eq_add, Nat.add_eq_left, Nat.reduceMod, Nat.reduceDiv, Nat.succ_ne_self, g0, c192, kbT, e10, t6, g73, g73', l73, e, gO, z, nn_mxT, nn_clamp]
    | some A =>
      have r : cnR cnt cl p = 1 := by unfold cnR; rw [ok, if_pos rfl, eq, ec]
      rw [ec] at k
      obtain ⟨x1, B1, kc1⟩ := cl_nt B e (fq_si (Or.inl rfl)) kc (RS_no k) (by assumption)
      refine ⟨_, x1, B1, by rw [rc]; exact kc1, by rw [r, if_pos rfl]; exact ⟨nt_10, nt_11⟩, fun Q => ?_⟩
      rw [r]
      have z := k.1.z
      subst ep
      have c188 := fun Q => c_188 (d := d) (h := mh_si h o 0 1) (by rw [mg_si]; exact g0) Q
      clear B H kc F k B1 x1 kc1
      simp (disch := omega) only [s_201_0, s_201_1, s_201_2, s_201_5, s_201_8, s_201_9, s_201_10, s_201_11, s_201_14, s_201_15, s_201_16, s_201_19, s_201_22, s_201_23, s_201_24, s_201_25, s_201_28, s_201_29, s_201_30, s_201_31, s_201_34, s_201_35, s_201_38, s_201_39, e_201, mv_i_1, mv_l_1, mv_a_1, mv_a_2, mv_a_3, mk2_n, mk2_i, mk2_l, mk2_a, mk2_u, mk2_x, mB_T, mB_F, mS_cons, mS_nil, mSB_T, mSB_F, mca_nil, mca_i, mca_l, mca_r, mca_u, mca_x, mcat_i, mcat_l, mcat_r, mcat_u, mcat_x, mK_some, mK_none, va_rf_s, va_rf_n, lgc_eq, lgc_lt, lgc_gt, lgc_ge, lgc_le, mrd_104, mrd_105, mrd_106, mrd_107, true_and, and_true, and_self, false_and, and_false, true_or, or_true, false_or, or_false, not_true_eq_false, not_false_eq_true, mgb, mga, mgr, mN, reduceCtorEq, ↓reduceIte, eq_self, ge_iff_le, gt_iff_lt, hk_si, hk_sj, hk_sr, hl_si, hl_sj, hl_sr, hn_si, hn_sj, hn_sr, hs_si, hs_sj, hs_sr, hi_sj, hi_sr, hj_si, hj_sr, hr_si, hr_sj, hi_si, hj_sj, hr_sr, mg_si, mg_sj, mg_sr, Nat.reduceAdd, Nat.reduceMul, Nat.reduceSub, Nat.reduceLT, Nat.reduceGT, Nat.reduceEqDiff, Nat.reduceLeDiff, Nat.left_eq_add, Nat.add_eq_left, Nat.reduceMod, Nat.reduceDiv, Nat.succ_ne_self, g0, c192, kbT, e10, e00, t6, g73, g73', l73, e, gO, z, c188, nn_mxT, nn_clamp]
/-- claim -/
theorem v_199 (B : BS h Y C E TT UU SC SP nC nE nS) (H : PH h G cnt) (kc : ∀ q, q < cnt → pv h 73 q (cl q)) (S : CSH G cnt cl) : ∃ h', zS (fun b j => b = 73 ∧ j < cnt) ntU h h' ∧ BS h' Y C E TT UU SC SP nC nE nS ∧ (∀ q, q < cnt → pv h' 73 q (cmC G cnt cl p x s y t c q)) ∧ (if cmR G cnt cl p x s y t c = 1 then mh_i h' 0 10 = 1 ∧ mh_i h' 0 11 = 0 else h' = h) ∧ ∀ Q, mcall (d + 4) 199 [.ref 0, .int p, .int x, .int s, .int y, .int t, .long c] h Q = Q (some (.int (cmR G cnt cl p x s y t c))) h' := by
  have cb := H.b
  have c193 := v_193 (d := d + 2) (p := p) (x := x) (s := s) (y := y) (t := t) B H
  have F := B.F
  have g0 := F.g 0 11 15 (by decide +kernel)
  have t3 := F.f 0 3 34 (by decide +kernel)
  have t6 := F.f 0 6 73 (by decide +kernel)
  have g34 := F.g 34 1 9 (by decide +kernel)
  have u7 := F.f 34 7 52 (by decide +kernel)
  have g73 := (F.g 73 104 250 (by decide +kernel)).1
  have g73' := (F.g 73 104 250 (by decide +kernel)).2
  have l73 := F.l 73 104 250 (by decide +kernel)
  have r52 : rw_ok h 52 := ⟨F.g 52 101 48 (by decide +kernel), F.l 52 101 48 (by decide +kernel)⟩
  have e00 : ((0 : Int32) = 0) = True := by decide
  have e10 : ((1 : Int32) = 0) = False := by decide
  cases ok : okB G cnt p x s y t with
  | false =>
    have r : cmR G cnt cl p x s y t c = -1 := by unfold cmR; rw [ok, if_neg (by decide)]
    have rc : cmC G cnt cl p x s y t c = cl := by unfold cmC; rw [ok, if_neg (by decide)]
    refine ⟨h, zS_id, B, by rw [rc]; exact kc, by rw [r, if_neg (by decide)], fun Q => ?_⟩
    rw [r]
    rw [ok] at c193
    clear B H kc F S r52
    simp (disch := omega) only [s_199_0, s_199_1, s_199_2, s_199_3, s_199_4, s_199_6, s_199_8, s_199_11, s_199_14, s_199_15, s_199_16, s_199_17, s_199_20, s_199_21, s_199_22, s_199_22n, s_199_22x, s_199_24, s_199_25, s_199_26, s_199_29, s_199_31, s_199_33, s_199_35, s_199_38, s_199_40, s_199_42, s_199_45, s_199_48, s_199_50, s_199_52, s_199_54, s_199_56, s_199_59, s_199_60, s_199_63, s_199_64, s_199_65, s_199_67, s_199_69, s_199_71, s_199_72, s_199_73, s_199_75, s_199_76, s_199_77, s_199_80, s_199_81, s_199_82, s_199_85, s_199_87, s_199_88, s_199_91, s_199_94, s_199_96, s_199_98, s_199_100, s_199_102, s_199_105, s_199_107, s_199_108, s_199_111, s_199_114, s_199_117, s_199_118, s_199_121, s_199_122, e_199, mv_i_1, mv_l_1, mv_a_1, mv_a_2, mv_a_3, mk2_n, mk2_i, mk2_l, mk2_a, mk2_u, mk2_x, mB_T, mB_F, mS_cons, mS_nil, mSB_T, mSB_F, mca_nil, mca_i, mca_l, mca_r, mca_u, mca_x, mcat_i, mcat_l, mcat_r, mcat_u, mcat_x, mK_some, mK_none, va_rf_s, va_rf_n, lgc_eq, lgc_lt, lgc_gt, lgc_ge, lgc_le, mrd_104, mrd_105, mrd_106, mrd_107, true_and, and_true, and_self, false_and, and_false, true_or, or_true, false_or, or_false, not_true_eq_false, not_false_eq_true, mgb, mga, mgr, mN, reduceCtorEq, ↓reduceIte, eq_self, ge_iff_le, gt_iff_lt, hk_si, hk_sj, hk_sr, hl_si, hl_sj, hl_sr, hn_si, hn_sj, hn_sr, hs_si, hs_sj, hs_sr, hi_sj, hi_sr, hj_si, hj_sr, hr_si, hr_sj, hi_si, hj_sj, hr_sr, mg_si, mg_sj, mg_sr, Nat.reduceAdd, Nat.reduceMul, Nat.reduceSub, Nat.reduceLT, Nat.reduceGT, Nat.reduceEqDiff, Nat.reduceLeDiff, Nat.left_eq_add, Nat.add_eq_left, Nat.reduceMod, Nat.reduceDiv, Nat.succ_ne_self, g0, c193, kbF, e00]
  | true =>
    rw [ok] at c193
    have ok' := ok
    unfold okB at ok'
    rw [Bool.and_eq_true] at ok'
    obtain ⟨o1, o2⟩ := ok'
    obtain ⟨q, hq, ep, eq⟩ := okP_n (by omega) o1
    have kk := H.k q hq
    rw [eq] at o2
    obtain ⟨k, l, hk, hl, ex, ey, hs, ht, hv, hw, hvw⟩ := okT_n (by omega) o2
    have ca := v_195 (d := d + 3) (h := h) hs (k := k) (by omega) ex
    have cb' := v_195 (d := d + 3) (h := h) ht (k := l) (by omega) ey
    obtain ⟨v, ev⟩ : ∃ v, sgx x s = v := ⟨_, rfl⟩
    obtain ⟨w, ew⟩ : ∃ w, sgx y t = w := ⟨_, rfl⟩
    rw [ev] at ca hv hvw
    rw [ew] at cb' hw hvw
    obtain ⟨o, e, r⟩ := kc q hq
    have gO := (RS_so r).1
    cases ec : cl q with
    | none =>
      have a : cmR G cnt cl p x s y t c = 0 := by unfold cmR; rw [ok, if_pos rfl, eq, ec]
      have ac : cmC G cnt cl p x s y t c = cl := by unfold cmC; rw [ok, if_pos rfl, eq, ec]
      refine ⟨h, zS_id, B, by rw [ac]; exact kc, by rw [a, if_neg (by decide)], fun Q => ?_⟩
      rw [a]
      rw [ec] at r
      have z := r.1.z
      subst ep
      clear B H kc F S r r52
      simp (disch := omega) only [s_199_0, s_199_1, s_199_2, s_199_3, s_199_4, s_199_6, s_199_8, s_199_11, s_199_14, s_199_15, s_199_16, s_199_17, s_199_20, s_199_21, s_199_22, s_199_22n, s_199_22x, s_199_24, s_199_25, s_199_26, s_199_29, s_199_31, s_199_33, s_199_35, s_199_38, s_199_40, s_199_42, s_199_45, s_199_48, s_199_50, s_199_52, s_199_54, s_199_56, s_199_59, s_199_60, s_199_63, s_199_64, s_199_65, s_199_67, s_199_69, s_199_71, s_199_72, s_199_73, s_199_75, s_199_76, s_199_77, s_199_80, s_199_81, s_199_82, s_199_85, s_199_87, s_199_88, s_199_91, s_199_94, s_199_96, s_199_98, s_199_100, s_199_102, s_199_105, s_199_107, s_199_108, s_199_111, s_199_114, s_199_117, s_199_118, s_199_121, s_199_122, e_199, mv_i_1, mv_l_1, mv_a_1, mv_a_2, mv_a_3, mk2_n, mk2_i, mk2_l, mk2_a, mk2_u, mk2_x, mB_T, mB_F, mS_cons, mS_nil, mSB_T, mSB_F, mca_nil, mca_i, mca_l, mca_r, mca_u, mca_x, mcat_i, mcat_l, mcat_r, mcat_u, mcat_x, mK_some, mK_none, va_rf_s, va_rf_n, lgc_eq, lgc_lt, lgc_gt, lgc_ge, lgc_le, mrd_104, mrd_105, mrd_106, mrd_107, true_and, and_true, and_self, false_and, and_false, true_or, or_true, false_or, or_false, not_true_eq_false, not_false_eq_true, mgb, mga, mgr, mN, reduceCtorEq, ↓reduceIte, eq_self, ge_iff_le, gt_iff_lt, hk_si, hk_sj, hk_sr, hl_si, hl_sj, hl_sr, hn_si, hn_sj, hn_sr, hs_si, hs_sj, hs_sr, hi_sj, hi_sr, hj_si, hj_sr, hr_si, hr_sj, hi_si, hj_sj, hr_sr, mg_si, mg_sj, mg_sr, Nat.reduceAdd, Nat.reduceMul, Nat.reduceSub, Nat.reduceLT, Nat.reduceGT, Nat.reduceEqDiff, Nat.reduceLeDiff, Nat.left_eq_add, Nat.add_eq_left, Nat.reduceMod, Nat.reduceDiv, Nat.succ_ne_self, g0, c193, kbT, e10, t6, g73, g73', l73, e, gO, ca, cb', z, nn_mxT, nn_clamp]
    | some A =>
      rw [ec] at r
      obtain ⟨T, n1, -, -⟩ := S q hq A ec
      have z := r.1.z
      have av : cmR G cnt cl p x s y t c = cmV v w c.toInt A := by unfold cmR; rw [ok, if_pos rfl, eq, ec, ev, ew]
      have ac : cmC G cnt cl p x s y t c = upC cl q (cmO v w c.toInt A) := by unfold cmC; rw [ok, if_pos rfl, eq, ec, ev, ew]
      obtain ⟨g, eg, c146⟩ := l_146 (d := d + 3) r.1 T.t (v := v) (w := w) (by omega) (by omega)
      obtain ⟨g', eg', c146'⟩ := l_146 (d := d + 3) r.1 T.t (v := oc_b v) (w := oc_b w) (oc_bl (by omega)) (oc_bl (by omega))
      have eg : g.toInt = a_gr A v w := eg
      have eg' : g'.toInt = a_gr A (oc_b v) (oc_b w) := eg'
      have b1 := gr_b T (v := v) (w := w) (by omega) (by omega)
      have b2 := gr_b T (v := oc_b v) (w := oc_b w) (oc_bl (by omega)) (oc_bl (by omega))
      have en : (-g').toInt = -g'.toInt := i64_n (by omega)
      have xv := nn_xor1 (a := v) (by omega)
      have xw := nn_xor1 (a := w) (by omega)
      rw [av, ac]
      by_cases c1 : a_gr A v w ≤ c.toInt
      · have a : cmV v w c.toInt A = 0 := if_pos c1
        have a2 : cmO v w c.toInt A = some A := if_pos c1
        refine ⟨h, zS_id, B, by rw [a2, ← ec, upC_i]; exact kc, by rw [a, if_neg (by decide)], fun Q => ?_⟩
        rw [a]
        have lt : (c < g) = False := eq_false (fun z => by rw [Int64.lt_iff_toInt_lt] at z; omega)
        subst ep
        clear B H kc F S r r52 T a a2
        simp (disch := omega) only [s_199_0, s_199_1, s_199_2, s_199_3, s_199_4, s_199_6, s_199_8, s_199_11, s_199_14, s_199_15, s_199_16, s_199_17, s_199_20, s_199_21, s_199_22, s_199_22n, s_199_22x, s_199_24, s_199_25, s_199_26, s_199_29, s_199_31, s_199_33, s_199_35, s_199_38, s_199_40, s_199_42, s_199_45, s_199_48, s_199_50, s_199_52, s_199_54, s_199_56, s_199_59, s_199_60, s_199_63, s_199_64, s_199_65, s_199_67, s_199_69, s_199_71, s_199_72, s_199_73, s_199_75, s_199_76, s_199_77, s_199_80, s_199_81, s_199_82, s_199_85, s_199_87, s_199_88, s_199_91, s_199_94, s_199_96, s_199_98, s_199_100, s_199_102, s_199_105, s_199_107, s_199_108, s_199_111, s_199_114, s_199_117, s_199_118, s_199_121, s_199_122, e_199, mv_i_1, mv_l_1, mv_a_1, mv_a_2, mv_a_3, mk2_n, mk2_i, mk2_l, mk2_a, mk2_u, mk2_x, mB_T, mB_F, mS_cons, mS_nil, mSB_T, mSB_F, mca_nil, mca_i, mca_l, mca_r, mca_u, mca_x, mcat_i, mcat_l, mcat_r, mcat_u, mcat_x, mK_some, mK_none, va_rf_s, va_rf_n, lgc_eq, lgc_lt, lgc_gt, lgc_ge, lgc_le, mrd_104, mrd_105, mrd_106, mrd_107, true_and, and_true, and_self, false_and, and_false, true_or, or_true, false_or, or_false, not_true_eq_false, not_false_eq_true, mgb, mga, mgr, mN, reduceCtorEq, ↓reduceIte, eq_self, ge_iff_le, gt_iff_lt, hk_si, hk_sj, hk_sr, hl_si, hl_sj, hl_sr, hn_si, hn_sj, hn_sr, hs_si, hs_sj, hs_sr, hi_sj, hi_sr, hj_si, hj_sr, hr_si, hr_sj, hi_si, hj_sj, hr_sr, mg_si, mg_sj, mg_sr, Nat.reduceAdd, Nat.reduceMul, Nat.reduceSub, Nat.reduceLT, Nat.reduceGT, Nat.reduceEqDiff, Nat.reduceLeDiff, Nat.left_eq_add, Nat.add_eq_left, Nat.reduceMod, Nat.reduceDiv, Nat.succ_ne_self, g0, c193, kbT, e10, e00, t6, g73, g73', l73, e, gO, ca, cb', z, c146, lt, nn_mxT, nn_clamp]
      · have a : cmV v w c.toInt A = 1 := if_neg c1
        have lt : (c < g) = True := eq_true (by rw [Int64.lt_iff_toInt_lt]; omega)
        by_cases c2 : c.toInt < -a_gr A (oc_b v) (oc_b w)
        · have a2 : cmO v w c.toInt A = none := by unfold cmO; rw [if_neg c1, if_pos c2]
          obtain ⟨x1, B1, kc1⟩ := cl_nt B e (fq_si (Or.inl rfl)) kc (RS_no r) (by assumption)
          refine ⟨_, x1, B1, by rw [a2]; exact kc1, by rw [a, if_pos rfl]; exact ⟨nt_10, nt_11⟩, fun Q => ?_⟩
          rw [a]
          have le : (-g' ≤ c) = False := eq_false (fun z => by rw [Int64.le_iff_toInt_le] at z; omega)
          have c188 := fun Q => c_188 (d := d + 3) (h := mh_si h o 0 1) (by rw [mg_si]; exact g0) Q
          subst ep
          clear B H kc F S r r52 T a a2 B1 x1 kc1
          simp (disch := omega) only [s_199_0, s_199_1, s_199_2, s_199_3, s_199_4, s_199_6, s_199_8, s_199_11, s_199_14, s_199_15, s_199_16, s_199_17, s_199_20, s_199_21, s_199_22, s_199_22n, s_199_22x, s_199_24, s_199_25, s_199_26, s_199_29, s_199_31, s_199_33, s_199_35, s_199_38, s_199_40, s_199_42, s_199_45, s_199_48, s_199_50, s_199_52, s_199_54, s_199_56, s_199_59, s_199_60, s_199_63, s_199_64, s_199_65, s_199_67, s_199_69, s_199_71, s_199_72, s_199_73, s_199_75, s_199_76, s_199_77, s_199_80, s_199_81, s_199_82, s_199_85, s_199_87, s_199_88, s_199_91, s_199_94, s_199_96, s_199_98, s_199_100, s_199_102, s_199_105, s_199_107, s_199_108, s_199_111, s_199_114, s_199_117, s_199_118, s_199_121, s_199_122, e_199, mv_i_1, mv_l_1, mv_a_1, mv_a_2, mv_a_3, mk2_n, mk2_i, mk2_l, mk2_a, mk2_u, mk2_x, mB_T, mB_F, mS_cons, mS_nil, mSB_T, mSB_F, mca_nil, mca_i, mca_l, mca_r, mca_u, mca_x, mcat_i, mcat_l, mcat_r, mcat_u, mcat_x, mK_some, mK_none, va_rf_s, va_rf_n, lgc_eq, lgc_lt, lgc_gt, lgc_ge, lgc_le, mrd_104, mrd_105, mrd_106, mrd_107, true_and, and_true, and_self, false_and, and_false, true_or, or_true, false_or, or_false, not_true_eq_false, not_false_eq_true, mgb, mga, mgr, mN, reduceCtorEq, ↓reduceIte, eq_self, ge_iff_le, gt_iff_lt, hk_si, hk_sj, hk_sr, hl_si, hl_sj, hl_sr, hn_si, hn_sj, hn_sr, hs_si, hs_sj, hs_sr, hi_sj, hi_sr, hj_si, hj_sr, hr_si, hr_sj, hi_si, hj_sj, hr_sr, mg_si, mg_sj, mg_sr, Nat.reduceAdd, Nat.reduceMul, Nat.reduceSub, Nat.reduceLT, Nat.reduceGT, Nat.reduceEqDiff, Nat.reduceLeDiff, Nat.left_eq_add, Nat.add_eq_left, Nat.reduceMod, Nat.reduceDiv, Nat.succ_ne_self, g0, c193, kbT, e10, e00, t6, g73, g73', l73, e, gO, ca, cb', z, c146, lt, xv, xw, c146', le, c188, nn_mxT, nn_clamp]
        · have a2 : cmO v w c.toInt A = a_cl (a_lim v w c.toInt A) := by unfold cmO; rw [if_neg c1, if_neg c2]
          obtain ⟨h1, y1, f1, r1, c147⟩ := l_147 (d := d + 2) 52 (k := c) (RL_of r T.t) (v := v) (w := w) (by omega) (by omega) hvw (by omega)
          have lb : ∀ i j, i < 2 * A.n → j < 2 * A.n → -34359738368 ≤ (a_lim v w c.toInt A).m i j ∧ (a_lim v w c.toInt A).m i j ≤ 1125899906842624 := fun i j hi hj => by
            have q := T.lo2 hi hj
            rw [a_lim_at]
            split
            · split <;> omega
            · omega
          obtain ⟨h2, f2, r2, c159⟩ := l_159 (d := d + 1) (R := 52) (rw_fq f1 r52) r1 lb
          have f12 := fq_t f1 f2
          obtain ⟨x1, B1, kc1⟩ := cl_nt B e f12 kc r2 (by assumption)
          refine ⟨_, x1, B1, by rw [a2]; exact kc1, by rw [a, if_pos rfl]; exact ⟨nt_10, nt_11⟩, fun Q => ?_⟩
          rw [a]
          have le : (-g' ≤ c) = True := eq_true (by rw [Int64.le_iff_toInt_le]; omega)
          have g01 := (fq_mg f1).mpr g0
          have gO1 := (fq_mg f1).mpr gO
          have g341 := (fq_mg f1).mpr g34
          have t31 : mh_r h1 0 3 = some 34 := by rw [f1.2.2.1]; exact t3
          have u71 : mh_r h1 34 7 = some 52 := by rw [f1.2.2.1]; exact u7
          have g52 := (rw_fq f1 r52).k
          have g02 := (fq_mg f12).mpr g0
          have c188 := fun Q => c_188 (d := d + 3) (h := h2) g02 Q
          subst ep
          clear B H kc F S r r52 T a a2 B1 x1 kc1 r1 r2 f1 f2 f12 lb
          simp (disch := omega) only [s_199_0, s_199_1, s_199_2, s_199_3, s_199_4, s_199_6, s_199_8, s_199_11, s_199_14, s_199_15, s_199_16, s_199_17, s_199_20, s_199_21, s_199_22, s_199_22n, s_199_22x, s_199_24, s_199_25, s_199_26, s_199_29, s_199_31, s_199_33, s_199_35, s_199_38, s_199_40, s_199_42, s_199_45, s_199_48, s_199_50, s_199_52, s_199_54, s_199_56, s_199_59, s_199_60, s_199_63, s_199_64, s_199_65, s_199_67, s_199_69, s_199_71, s_199_72, s_199_73, s_199_75, s_199_76, s_199_77, s_199_80, s_199_81, s_199_82, s_199_85, s_199_87, s_199_88, s_199_91, s_199_94, s_199_96, s_199_98, s_199_100, s_199_102, s_199_105, s_199_107, s_199_108, s_199_111, s_199_114, s_199_117, s_199_118, s_199_121, s_199_122, e_199, mv_i_1, mv_l_1, mv_a_1, mv_a_2, mv_a_3, mk2_n, mk2_i, mk2_l, mk2_a, mk2_u, mk2_x, mB_T, mB_F, mS_cons, mS_nil, mSB_T, mSB_F, mca_nil, mca_i, mca_l, mca_r, mca_u, mca_x, mcat_i, mcat_l, mcat_r, mcat_u, mcat_x, mK_some, mK_none, va_rf_s, va_rf_n, lgc_eq, lgc_lt, lgc_gt, lgc_ge, lgc_le, mrd_104, mrd_105, mrd_106, mrd_107, true_and, and_true, and_self, false_and, and_false, true_or, or_true, false_or, or_false, not_true_eq_false, not_false_eq_true, mgb, mga, mgr, mN, reduceCtorEq, ↓reduceIte, eq_self, ge_iff_le, gt_iff_lt, hk_si, hk_sj, hk_sr, hl_si, hl_sj, hl_sr, hn_si, hn_sj, hn_sr, hs_si, hs_sj, hs_sr, hi_sj, hi_sr, hj_si, hj_sr, hr_si, hr_sj, hi_si, hj_sj, hr_sr, mg_si, mg_sj, mg_sr, Nat.reduceAdd, Nat.reduceMul, Nat.reduceSub, Nat.reduceLT, Nat.reduceGT, Nat.reduceEqDiff, Nat.reduceLeDiff, Nat.left_eq_add, Nat.add_eq_left, Nat.reduceMod, Nat.reduceDiv, Nat.succ_ne_self, g0, c193, kbT, e10, e00, t6, g73, g73', l73, e, gO, ca, cb', z, c146, lt, xv, xw, c146', le, c147, g01, gO1, g341, t31, u71, g52, c159, g02, c188, nn_mxT, nn_clamp]
end CMs
