set_option maxRecDepth 100000
/-! Effect.set, whole -/
/-- a State on which something is laid: made tight it is O -/
def TG (h : mh_H) (H : Nat) (O : Option ab) : Prop := (∃ M c u, RL h H M c u ∧ (∀ i j, i < 2 * M.n → j < 2 * M.n → -34359738368 ≤ M.m i j ∧ M.m i j ≤ 1125899906842624) ∧ O = a_cl M) ∨ (O = none ∧ RN h H)
theorem TG.t {d : Nat} {h : mh_H} {H : Nat} {O : Option ab} (x : TG h H O) (r : rw_ok h 52) : ∃ h', fq (sW H 52) h h' ∧ RS h' H O ∧ ∀ Q, mcall (d + 2) 159 [.ref H, .ref 52] h Q = Q none h' := by
  rcases x with ⟨M, c, u, k, b, e⟩ | ⟨e, k⟩
  · rw [e]; exact l_159 r k b
  · rw [e]; exact l_159n r k
theorem TG_fz {h h1 : mh_H} {H : Nat} {O : Option ab} {W : Nat → Nat → Prop} (f : fz W h h1) (w : ∀ y, y ≤ 2 → ∀ j, ¬ W (H + y) j) (x : TG h H O) : TG h1 H O := by
  rcases x with ⟨M, c, u, k, b, e⟩ | ⟨e, k⟩
  · exact Or.inl ⟨M, c, u, RL_fz f w k, b, e⟩
  · exact Or.inr ⟨e, RN_fz f (w 0 (by omega)) k⟩
theorem RN_on {h : mh_H} {H : Nat} {B : ab} (k : RS h H (some B)) : RN (mh_si h H 0 1) H ∧ mh_i (mh_si h H 0 1) H 5 = 0 := by
  obtain ⟨r, r5⟩ := k
  refine ⟨⟨r.s, ?_, ⟨B.n, r.n12, ?_⟩, ⟨B.a, r.a6, ?_⟩⟩, ?_⟩
  · rw [hi_si, if_pos ⟨rfl, rfl⟩]
  · rw [hi_si, if_neg (by omega)]; exact r.n
  · rw [hi_si, if_neg (by omega)]; exact r.a
  · rw [hi_si, if_neg (by omega)]; exact r5
section SETw
variable {d : Nat} {h Z : mh_H} {P R lP X Y C E TT UU SC SP nC nE nS nb na H : Nat} {sN : Int → Prop} {en : Int → Nat} {A B : ab} {p0 c0 sum x : Nat} {l : List (Nat × Bool × tr)} {new : Bool} {lo hi : Int} {t : tr}
/-- there is no value -/
theorem v_16n (S : ES h P R lP X Y C E TT UU SC SP nC nE nS nb na H A) (U : SU h C E TT UU SC SP nC nE nS lP nb na sN en A t false sum c0 p0) (r2 : mh_r h 34 2 = some H) (k : RS h H (some B)) (hv : (ev en A t none).1 = none) (xx : Int32) : ∃ h', fG (stW H P R) h h' ∧ mh_i h' 35 4 = mh_i h 35 4 ||| (ev en A t none).2 ∧ TG h' H none ∧ ∀ Q, mcall (d + 4) 16 [.ref 34, .int xx, .int (Int32.ofNat sum)] h Q = Q none h' := by
  have g : mg h 34 1 := S.G.F.g 34 1 9 (by decide +kernel)
  have r1 : mh_r h 34 1 = some 35 := S.G.F.f 34 1 35 (by decide +kernel)
  have g5 := S.G.g
  obtain ⟨h1, f1, al, q⟩ := v_99 (d := d) S.G U
  have F1 : fG (stW H P R) h h1 := fG_w f1 (fun b j w => Or.inl w)
  have S1 := ES_fG S F1
  rcases q with ⟨a, b, e, -⟩ | ⟨-, e⟩
  · rw [hv] at e; cases e
  · have k1 : RS h1 H (some B) := RS_fz (fG_z f1) (fun y hy j => (S.hh y hy j).1) k
    obtain ⟨n1, n2⟩ := RN_on k1
    have aH := (cs_so S.G.S S.c).2
    unfold cAd at aH
    refine ⟨mh_si h1 H 0 1, fG_t F1 (fG_si (Or.inr (Or.inr (Or.inl rfl)))), by rw [hi_si, if_neg (by omega)]; exact al, Or.inr ⟨rfl, n1⟩, fun Q => ?_⟩
    have g1 : mg h1 34 1 := S1.G.F.g 34 1 9 (by decide +kernel)
    have r21 : mh_r h1 34 2 = some H := by rw [fG_r f1]; exact r2
    have gH : mg h1 H 8 := S1.so.1
    have e00 : ((0 : Int32) = 0) = True := by decide
    have e10 : ((1 : Int32) = 0) = False := by decide
    clear S S1 U k k1 F1 f1 n1 n2 al
    simp (disch := omega) only [s_16_0, s_16_1, s_16_4, s_16_5, s_16_8, s_16_11, s_16_12, s_16_15, s_16_16, s_16_19, s_16_20, s_16_23, s_16_26, s_16_29, s_16_30, s_16_31, s_16_34, s_16_35, s_16_36, s_16_39, s_16_42, s_16_43, s_16_44, s_16_45, s_16_46, s_16_49, s_16_52, s_16_53, s_16_54, s_16_56, s_16_57, s_16_60, s_16_61, s_16_62, s_16_63, s_16_64, s_16_67, s_16_68, s_16_71, s_16_72, s_16_75, s_16_78, s_16_79, s_16_82, s_16_83, s_16_84, s_16_87, s_16_88, s_16_91, s_16_94, s_16_95, s_16_96, s_16_99, s_16_100, s_16_103, s_16_104, s_16_107, s_16_108, s_16_111, s_16_112, s_16_113, s_16_116, s_16_119, s_16_120, s_16_123, s_16_126, s_16_129, s_16_132, s_16_133, s_16_136, s_16_137, s_16_140, s_16_141, s_16_143, s_16_145, s_16_147, s_16_150, s_16_152, s_16_153, s_16_156, s_16_157, s_16_160, s_16_162, s_16_165, s_16_168, s_16_169, s_16_172, s_16_174, s_16_175, s_16_178, s_16_179, s_16_182, s_16_185, s_16_187, s_16_188, s_16_191, s_16_192, s_16_194, s_16_195, s_16_198, s_16_199, s_16_201, s_16_202, s_16_203, s_16_204, s_16_206, s_16_207, s_16_210, s_16_211, s_16_212, s_16_213, s_16_215, s_16_216, s_16_219, s_16_222, s_16_225, s_16_226, s_16_229, s_16_230, s_16_231, s_16_232, s_16_233, s_16_234, s_16_236, s_16_237, s_16_238, s_16_239, s_16_242, s_16_245, s_16_246, s_16_249, s_16_252, s_16_255, s_16_256, s_16_259, s_16_260, s_16_261, s_16_262, s_16_263, s_16_264, s_16_265, s_16_267, s_16_270, s_16_271, s_16_274, s_16_275, s_16_276, s_16_277, s_16_278, s_16_279, s_16_280, s_16_281, s_16_282, s_16_283, s_16_284, s_16_285, s_16_286, s_16_289, e_16, mv_i_1, mv_l_1, mv_a_1, mv_a_2, mv_a_3, mk2_n, mk2_i, mk2_l, mk2_a, mk2_u, mk2_x, mB_T, mB_F, mS_cons, mS_nil, mSB_T, mSB_F, mca_nil, mca_i, mca_l, mca_r, mca_u, mca_x, mcat_i, mcat_l, mcat_r, mcat_u, mcat_x, mK_some, mK_none, va_rf_s, va_rf_n, lgc_eq, lgc_lt, lgc_gt, lgc_ge, lgc_le, mrd_104, mrd_105, mrd_106, mrd_107, true_and, and_true, and_self, false_and, and_false, true_or, or_true, false_or, or_false, not_true_eq_false, not_false_eq_true, mgb, mga, mgr, mN, reduceCtorEq, ↓reduceIte, eq_self, ge_iff_le, gt_iff_lt, hk_si, hk_sj, hk_sr, hl_si, hl_sj, hl_sr, hn_si, hn_sj, hn_sr, hs_si, hs_sj, hs_sr, hi_sj, hi_sr, hj_si, hj_sr, hr_si, hr_sj, hi_si, hj_sj, hr_sr, mg_si, mg_sj, mg_sr, Nat.reduceAdd, Nat.reduceMul, Nat.reduceSub, Nat.reduceLT, Nat.reduceGT, Nat.reduceEqDiff, Nat.reduceLeDiff, Nat.left_eq_add, Nat.add_eq_left, Nat.reduceMod, Nat.reduceDiv, Nat.succ_ne_self, g, g5, r1, e, g1, r21, gH, e00, e10]
/-- only looked at -/
theorem v_16l (S : ES h P R lP X Y C E TT UU SC SP nC nE nS nb na H A) (U : SU h C E TT UU SC SP nC nE nS lP nb na sN en A t false sum c0 p0) (r2 : mh_r h 34 2 = some H) (k : RS h H (some B)) (hv : (ev en A t none).1 ≠ none) : ∃ h', fG (stW H P R) h h' ∧ mh_i h' 35 4 = mh_i h 35 4 ||| (ev en A t none).2 ∧ RS h' H (some B) ∧ ∀ Q, mcall (d + 4) 16 [.ref 34, .int (-1), .int (Int32.ofNat sum)] h Q = Q none h' := by
  have g : mg h 34 1 := S.G.F.g 34 1 9 (by decide +kernel)
  have r1 : mh_r h 34 1 = some 35 := S.G.F.f 34 1 35 (by decide +kernel)
  have g5 := S.G.g
  obtain ⟨h1, f1, al, q⟩ := v_99 (d := d) S.G U
  have F1 : fG (stW H P R) h h1 := fG_w f1 (fun b j w => Or.inl w)
  have S1 := ES_fG S F1
  rcases q with ⟨a, b, -, -, -, -, -, e⟩ | ⟨e, -⟩
  · have k1 : RS h1 H (some B) := RS_fz (fG_z f1) (fun y hy j => (S.hh y hy j).1) k
    refine ⟨h1, F1, al, k1, fun Q => ?_⟩
    have g1 : mg h1 34 1 := S1.G.F.g 34 1 9 (by decide +kernel)
    have r21 : mh_r h1 34 2 = some H := by rw [fG_r f1]; exact r2
    have gH : mg h1 H 8 := S1.so.1
    have z : mh_i h1 H 0 = 0 := k1.1.z
    have e00 : ((0 : Int32) = 0) = True := by decide
    have e10 : ((1 : Int32) = 0) = False := by decide
    clear S S1 U k k1 F1 f1 al
    simp (disch := omega) only [s_16_0, s_16_1, s_16_4, s_16_5, s_16_8, s_16_11, s_16_12, s_16_15, s_16_16, s_16_19, s_16_20, s_16_23, s_16_26, s_16_29, s_16_30, s_16_31, s_16_34, s_16_35, s_16_36, s_16_39, s_16_42, s_16_43, s_16_44, s_16_45, s_16_46, s_16_49, s_16_52, s_16_53, s_16_54, s_16_56, s_16_57, s_16_60, s_16_61, s_16_62, s_16_63, s_16_64, s_16_67, s_16_68, s_16_71, s_16_72, s_16_75, s_16_78, s_16_79, s_16_82, s_16_83, s_16_84, s_16_87, s_16_88, s_16_91, s_16_94, s_16_95, s_16_96, s_16_99, s_16_100, s_16_103, s_16_104, s_16_107, s_16_108, s_16_111, s_16_112, s_16_113, s_16_116, s_16_119, s_16_120, s_16_123, s_16_126, s_16_129, s_16_132, s_16_133, s_16_136, s_16_137, s_16_140, s_16_141, s_16_143, s_16_145, s_16_147, s_16_150, s_16_152, s_16_153, s_16_156, s_16_157, s_16_160, s_16_162, s_16_165, s_16_168, s_16_169, s_16_172, s_16_174, s_16_175, s_16_178, s_16_179, s_16_182, s_16_185, s_16_187, s_16_188, s_16_191, s_16_192, s_16_194, s_16_195, s_16_198, s_16_199, s_16_201, s_16_202, s_16_203, s_16_204, s_16_206, s_16_207, s_16_210, s_16_211, s_16_212, s_16_213, s_16_215, s_16_216, s_16_219, s_16_222, s_16_225, s_16_226, s_16_229, s_16_230, s_16_231, s_16_232, s_16_233, s_16_234, s_16_236, s_16_237, s_16_238, s_16_239, s_16_242, s_16_245, s_16_246, s_16_249, s_16_252, s_16_255, s_16_256, s_16_259, s_16_260, s_16_261, s_16_262, s_16_263, s_16_264, s_16_265, s_16_267, s_16_270, s_16_271, s_16_274, s_16_275, s_16_276, s_16_277, s_16_278, s_16_279, s_16_280, s_16_281, s_16_282, s_16_283, s_16_284, s_16_285, s_16_286, s_16_289, e_16, mv_i_1, mv_l_1, mv_a_1, mv_a_2, mv_a_3, mk2_n, mk2_i, mk2_l, mk2_a, mk2_u, mk2_x, mB_T, mB_F, mS_cons, mS_nil, mSB_T, mSB_F, mca_nil, mca_i, mca_l, mca_r, mca_u, mca_x, mcat_i, mcat_l, mcat_r, mcat_u, mcat_x, mK_some, mK_none, va_rf_s, va_rf_n, lgc_eq, lgc_lt, lgc_gt, lgc_ge, lgc_le, mrd_104, mrd_105, mrd_106, mrd_107, true_and, and_true, and_self, false_and, and_false, true_or, or_true, false_or, or_false, not_true_eq_false, not_false_eq_true, mgb, mga, mgr, mN, reduceCtorEq, ↓reduceIte, eq_self, ge_iff_le, gt_iff_lt, hk_si, hk_sj, hk_sr, hl_si, hl_sj, hl_sr, hn_si, hn_sj, hn_sr, hs_si, hs_sj, hs_sr, hi_sj, hi_sr, hj_si, hj_sr, hr_si, hr_sj, hi_si, hj_sj, hr_sr, mg_si, mg_sj, mg_sr, Nat.reduceAdd, Nat.reduceMul, Nat.reduceSub, Nat.reduceLT, Nat.reduceGT, Nat.reduceEqDiff, Nat.reduceLeDiff, Nat.left_eq_add, Nat.add_eq_left, Nat.reduceMod, Nat.reduceDiv, Nat.succ_ne_self, g, g5, r1, e, g1, r21, gH, z, e00, e10]
  · exact absurd e hv
/-- Effect.set -/
theorem v_16 (S : ES h P R lP X Y C E TT UU SC SP nC nE nS nb na H A) (U : SU h C E TT UU SC SP nC nE nS lP nb na sN en A t false sum c0 p0) (r2 : mh_r h 34 2 = some H) (k : RS h H (some (if new = true then a_add B else B))) (hB : ab_T B) (hn : A.n ≤ B.n) (hx1 : new = true → x = B.n ∧ B.n < 12) (hx0 : new = false → x < B.n) : ∃ h', fG (stW H P R) h h' ∧ mh_i h' 35 4 = mh_i h 35 4 ||| (ev en A t none).2 ∧ TG h' H (a_set en A B x new t) ∧ ∀ Q, mcall (d + 4) 16 [.ref 34, .int (Int32.ofNat x), .int (Int32.ofNat sum)] h Q = Q none h' := by
  cases hv : (ev en A t none).1 with
  | none =>
    have e : a_set en A B x new t = none := by unfold a_set; rw [hv]
    rw [e]
    exact v_16n S U r2 k hv _
  | some q =>
    obtain ⟨va, vb⟩ := q
    have hT := S.G.T
    obtain ⟨len, Q', ptq, O⟩ := so_cl (l := pg t false 0 false) (x := x) (new := new) hT hB U.w U.z (by have := U.m; omega) hv rfl hn hx1 hx0
    generalize pg t false 0 false = l at *
    have g : mg h 34 1 := S.G.F.g 34 1 9 (by decide +kernel)
    have r1 : mh_r h 34 1 = some 35 := S.G.F.f 34 1 35 (by decide +kernel)
    have r5 : mh_r h 35 5 = some 36 := S.G.F.f 35 5 36 (by decide +kernel)
    have r6 : mh_r h 35 6 = some 37 := S.G.F.f 35 6 37 (by decide +kernel)
    have g5 := S.G.g
    have x12 := O.x12
    have hm : l.length ≤ 12000 := by have := U.m; omega
    obtain ⟨h1, f1, al, q⟩ := v_99 (d := d) S.G U
    have F1 : fG (stW H P R) h h1 := fG_w f1 (fun b j w => Or.inl w)
    have S1 := ES_fG S F1
    have U1 := ES_U S F1 U
    rcases q with ⟨a, b, e0, ja, jb, hr, -, e1⟩ | ⟨e0, -⟩
    · rw [hv] at e0
      cases e0
      have k1 : RS h1 H (some (if new = true then a_add B else B)) := RS_fz (fG_z f1) (fun y hy j => (S.hh y hy j).1) k
      obtain ⟨h2, f2, K2, e2⟩ := v_113 (d := d + 2) S1.G Q' hm (a := sum) (b := sum + 1) (p0 := p0) (by have := U.s; omega) U.s U1.p0 (by rw [len]; exact U1.p1) (by rw [len]; exact U1.b3) (by rw [len]; exact U1.b4) (by rw [ptq]; exact hr) (by rw [ptq]; exact U1.u)
      have F2 : fG (stW H P R) h1 h2 := fG_w f2 (fun b j w => Or.inr (Or.inl w))
      have S2 := ES_fG S1 F2
      have k2 : RS h2 H (some (if new = true then a_add B else B)) := RS_fz (fG_z f2) (fun y hy j => (S1.hh y hy j).2.1) k1
      have r22 : mh_r h2 34 2 = some H := by rw [fG_r f2, fG_r f1]; exact r2
      obtain ⟨h3, f3, k3, e3⟩ := set_cb (d := d) (a3 := mh_j h1 36 0) (a5 := mh_j h1 37 0) (sm := Int32.ofNat sum) S2 Q' hm K2 r22 k2 O
      have F3 : fG (stW H P R) h2 h3 := fG_w f3 (fun b j w => soW_st w)
      have S3 := ES_fG S2 F3
      have K3 := ES_C S2 f3 K2
      have r23 : mh_r h3 34 2 = some H := by rw [fG_r f3]; exact r22
      obtain ⟨h4, w8, c, u, f4, k4, e4⟩ := set_cl (d := d) (a3 := mh_j h1 36 0) (a5 := mh_j h1 37 0) (sm := Int32.ofNat sum) S3 Q' hm K3 r23 k3 O
      have F4 : fG (stW H P R) h3 h4 := fG_w f4 (fun b j w => soW_st w)
      have S4 := ES_fG S3 F4
      have r24 : mh_r h4 34 2 = some H := by rw [fG_r f4]; exact r23
      have xn := O.xn
      obtain ⟨ix1, ix2⟩ := O.i1
      obtain ⟨iy1, iy2⟩ := O.i2
      have b0 := oc_b0 x
      have b1 := oc_b1 x
      have nl : (-mh_j h1 36 0).toInt = -(mh_j h1 36 0).toInt := i64_n (by omega)
      obtain ⟨h5, u5, f5, k5, e5⟩ := lim_c (d := d + 2) (v := 2 * x) (w := 2 * x) (k := mh_j h1 37 0) k4 (by omega) (by omega) (by omega) (by omega)
      obtain ⟨h6, u6, f6, k6, e6⟩ := lim_c (d := d + 2) (v := 2 * x + 1) (w := 2 * x + 1) (k := -mh_j h1 36 0) k5 (by omega) (by omega) (by omega) (by omega)
      have F5 : fG (stW H P R) h4 h5 := fG_w (fG_fq f5) (fun b j w => Or.inr (Or.inr w))
      have F6 : fG (stW H P R) h5 h6 := fG_w (fG_fq f6) (fun b j w => Or.inr (Or.inr w))
      have n35 := S.n35.1
      have ns : ∀ j, j = 4 → ¬ soW H 35 j := fun j hj w => by
        rcases w with w | w
        · unfold foW at w; omega
        · exact n35 w
      refine ⟨h6, fG_t F1 (fG_t F2 (fG_t F3 (fG_t F4 (fG_t F5 F6)))), ?_, ?_, fun Q => ?_⟩
      · rw [(f6.2.2.2.2.2 35 n35).1 4, (f5.2.2.2.2.2 35 n35).1 4, fG_i f4 (ns 4 rfl), fG_i f3 (ns 4 rfl), fG_i f2 (by unfold fmW; omega), al]
      · rw [nl, ja, jb, List.append_assoc] at k6
        have ce := cl_eq (A := A) (M := a_base A B (l.map (pgE en A)) x new) (tl := [(2 * x, 2 * x, vb)] ++ [(2 * x + 1, 2 * x + 1, -va)]) K2.s12 O.own
        rw [ce] at k6
        obtain ⟨c1, c2, c3⟩ := O.fin
        obtain ⟨fn, -⟩ := lims_f (setL A (l.map (pgE en A)) (fun i => !new && ownB (l.map (pgE en A)) x i) x (l.map (pgE en A)).length ++ [(2 * x, 2 * x, vb), (2 * x + 1, 2 * x + 1, -va)]) (a_base A B (l.map (pgE en A)) x new)
        refine Or.inl ⟨_, c, u6, k6, fun i j hi' hj => ?_, ?_⟩
        · have := c2 i j (by rw [← fn]; exact hi') (by rw [← fn]; exact hj)
          exact ⟨this.1, Int.le_trans this.2 (by omega)⟩
        · unfold a_set
          rw [hv, ← ptq]
          rfl
      · have g1 : mg h1 34 1 := S1.G.F.g 34 1 9 (by decide +kernel)
        have g15 := S1.G.g
        have er1 := fG_r f1
        have gH : mg h1 H 8 := S1.so.1
        have g36 : mg h1 36 101 := S1.G.F.g 36 101 124 (by decide +kernel)
        have l36 : mh_l h1 36 = 124 := S1.G.F.l 36 101 124 (by decide +kernel)
        have g37 : mg h1 37 101 := S1.G.F.g 37 101 124 (by decide +kernel)
        have l37 : mh_l h1 37 = 124 := S1.G.F.l 37 101 124 (by decide +kernel)
        have z : mh_i h1 H 0 = 0 := k1.1.z
        have g4 : mg h4 34 1 := S4.G.F.g 34 1 9 (by decide +kernel)
        have gH4 : mg h4 H 8 := S4.so.1
        have gg5 : mg h5 34 1 := (fq_mg f5).mpr g4
        have gH5 : mg h5 H 8 := (fq_mg f5).mpr gH4
        have er5 : mh_r h5 = mh_r h4 := f5.2.2.1
        have e00 : ((0 : Int32) = 0) = True := by decide
        have e10 : ((1 : Int32) = 0) = False := by decide
        have xm := rK_m1 (k := x) (by omega)
        have ei : ∀ k, Int32.ofNat k + 1 = Int32.ofNat (k + 1) := fun k => nn_add (a := k) (b := 1)
        have et : ∀ k, (2 : Int32) * Int32.ofNat k = Int32.ofNat (2 * k) := fun k => nn_mul (a := 2) (b := k)
        have m0 : mx (0 : Int32) 124 = True := eq_true ⟨by decide, by decide⟩
        have z0 : (0 : Int32).toNatClampNeg = 0 := by decide
        have E0 : mcall (d + 4) 16 [.ref 34, .int (Int32.ofNat x), .int (Int32.ofNat sum)] h Q = mw (d + 4) 16 Q 67 [some (.ref 34), some (.int (Int32.ofNat x)), some (.int (Int32.ofNat sum)), some (.long (mh_j h1 36 0)), none, some (.long (mh_j h1 37 0)), none, none, none] [] h2 := by
          clear S S1 S2 S3 S4 U U1 k k1 k2 k3 k4 k5 k6 F1 F2 F3 F4 F5 F6 O K2 K3 Q' f1 f2 f3 f4 f5 f6 hr al nl ja jb
          simp (disch := omega) only [s_16_0, s_16_1, s_16_4, s_16_5, s_16_8, s_16_11, s_16_12, s_16_15, s_16_16, s_16_19, s_16_20, s_16_23, s_16_26, s_16_29, s_16_30, s_16_31, s_16_34, s_16_35, s_16_36, s_16_39, s_16_42, s_16_43, s_16_44, s_16_45, s_16_46, s_16_49, s_16_52, s_16_53, s_16_54, s_16_56, s_16_57, s_16_60, s_16_61, s_16_62, s_16_63, s_16_64, s_16_68, s_16_71, s_16_72, s_16_75, s_16_78, s_16_79, s_16_82, s_16_83, s_16_84, s_16_87, s_16_88, s_16_91, s_16_94, s_16_95, s_16_96, s_16_99, s_16_100, s_16_103, s_16_104, s_16_107, s_16_108, s_16_111, s_16_112, s_16_113, s_16_116, s_16_119, s_16_120, s_16_123, s_16_126, s_16_129, s_16_132, s_16_133, s_16_136, s_16_137, s_16_140, s_16_141, s_16_143, s_16_145, s_16_147, s_16_150, s_16_152, s_16_153, s_16_156, s_16_157, s_16_160, s_16_162, s_16_165, s_16_168, s_16_169, s_16_172, s_16_174, s_16_175, s_16_178, s_16_179, s_16_182, s_16_185, s_16_187, s_16_188, s_16_191, s_16_192, s_16_194, s_16_195, s_16_198, s_16_199, s_16_201, s_16_202, s_16_203, s_16_204, s_16_206, s_16_207, s_16_210, s_16_211, s_16_212, s_16_213, s_16_215, s_16_216, s_16_219, s_16_222, s_16_225, s_16_226, s_16_229, s_16_230, s_16_231, s_16_232, s_16_233, s_16_234, s_16_236, s_16_237, s_16_238, s_16_239, s_16_242, s_16_245, s_16_246, s_16_249, s_16_252, s_16_255, s_16_256, s_16_259, s_16_260, s_16_261, s_16_262, s_16_263, s_16_264, s_16_265, s_16_267, s_16_270, s_16_271, s_16_274, s_16_275, s_16_276, s_16_277, s_16_278, s_16_279, s_16_280, s_16_281, s_16_282, s_16_283, s_16_284, s_16_285, s_16_286, s_16_289, e_16, mv_i_1, mv_l_1, mv_a_1, mv_a_2, mv_a_3, mk2_n, mk2_i, mk2_l, mk2_a, mk2_u, mk2_x, mB_T, mB_F, mS_cons, mS_nil, mSB_T, mSB_F, mca_nil, mca_i, mca_l, mca_r, mca_u, mca_x, mcat_i, mcat_l, mcat_r, mcat_u, mcat_x, mK_some, mK_none, va_rf_s, va_rf_n, lgc_eq, lgc_lt, lgc_gt, lgc_ge, lgc_le, mrd_104, mrd_105, mrd_106, mrd_107, true_and, and_true, and_self, false_and, and_false, true_or, or_true, false_or, or_false, not_true_eq_false, not_false_eq_true, mgb, mga, mgr, mN, reduceCtorEq, ↓reduceIte, eq_self, ge_iff_le, gt_iff_lt, hk_si, hk_sj, hk_sr, hl_si, hl_sj, hl_sr, hn_si, hn_sj, hn_sr, hs_si, hs_sj, hs_sr, hi_sj, hi_sr, hj_si, hj_sr, hr_si, hr_sj, hi_si, hj_sj, hr_sr, mg_si, mg_sj, mg_sr, Nat.reduceAdd, Nat.reduceMul, Nat.reduceSub, Nat.reduceLT, Nat.reduceGT, Nat.reduceEqDiff, Nat.reduceLeDiff, Nat.left_eq_add, Nat.add_eq_left, Nat.reduceMod, Nat.reduceDiv, Nat.succ_ne_self, g, g5, r1, r2, r5, r6, e1, er1, g1, g15, gH, g36, l36, g37, l37, z, e00, e10, xm, ei, e2, m0, z0]
          try rfl
        refine E0.trans ((e3 Q).trans ((e4 Q).trans ?_))
        clear S S1 S2 S3 S4 U U1 k k1 k2 k3 k4 k5 k6 F1 F2 F3 F4 F5 F6 O K2 K3 Q' f1 f2 f3 f4 f5 f6 hr al nl ja jb
        have l12 : ((12 : Int32) ≤ Int32.ofNat 12) = True := by decide
        rw [s_16_143]
        simp (disch := omega) only [s_16_0, s_16_1, s_16_4, s_16_5, s_16_8, s_16_11, s_16_12, s_16_15, s_16_16, s_16_19, s_16_20, s_16_23, s_16_26, s_16_29, s_16_30, s_16_31, s_16_34, s_16_35, s_16_36, s_16_39, s_16_42, s_16_43, s_16_44, s_16_45, s_16_46, s_16_49, s_16_52, s_16_53, s_16_54, s_16_56, s_16_57, s_16_60, s_16_61, s_16_62, s_16_63, s_16_64, s_16_67, s_16_68, s_16_71, s_16_72, s_16_75, s_16_78, s_16_79, s_16_82, s_16_83, s_16_84, s_16_87, s_16_88, s_16_91, s_16_94, s_16_95, s_16_96, s_16_99, s_16_100, s_16_103, s_16_104, s_16_107, s_16_108, s_16_111, s_16_112, s_16_113, s_16_116, s_16_119, s_16_120, s_16_123, s_16_126, s_16_129, s_16_132, s_16_133, s_16_136, s_16_137, s_16_140, s_16_141, s_16_145, s_16_147, s_16_150, s_16_152, s_16_153, s_16_156, s_16_157, s_16_160, s_16_162, s_16_165, s_16_168, s_16_169, s_16_172, s_16_174, s_16_175, s_16_178, s_16_179, s_16_182, s_16_185, s_16_187, s_16_188, s_16_191, s_16_192, s_16_194, s_16_195, s_16_198, s_16_199, s_16_201, s_16_202, s_16_203, s_16_204, s_16_206, s_16_207, s_16_210, s_16_211, s_16_212, s_16_213, s_16_215, s_16_216, s_16_219, s_16_222, s_16_225, s_16_226, s_16_229, s_16_230, s_16_231, s_16_232, s_16_233, s_16_234, s_16_236, s_16_237, s_16_238, s_16_239, s_16_242, s_16_245, s_16_246, s_16_249, s_16_252, s_16_255, s_16_256, s_16_259, s_16_260, s_16_261, s_16_262, s_16_263, s_16_264, s_16_265, s_16_267, s_16_270, s_16_271, s_16_274, s_16_275, s_16_276, s_16_277, s_16_278, s_16_279, s_16_280, s_16_281, s_16_282, s_16_283, s_16_284, s_16_285, s_16_286, s_16_289, e_16, mv_i_1, mv_l_1, mv_a_1, mv_a_2, mv_a_3, mk2_n, mk2_i, mk2_l, mk2_a, mk2_u, mk2_x, mB_T, mB_F, mS_cons, mS_nil, mSB_T, mSB_F, mca_nil, mca_i, mca_l, mca_r, mca_u, mca_x, mcat_i, mcat_l, mcat_r, mcat_u, mcat_x, mK_some, mK_none, va_rf_s, va_rf_n, lgc_eq, lgc_lt, lgc_gt, lgc_ge, lgc_le, mrd_104, mrd_105, mrd_106, mrd_107, true_and, and_true, and_self, false_and, and_false, true_or, or_true, false_or, or_false, not_true_eq_false, not_false_eq_true, mgb, mga, mgr, mN, reduceCtorEq, ↓reduceIte, eq_self, ge_iff_le, gt_iff_lt, hk_si, hk_sj, hk_sr, hl_si, hl_sj, hl_sr, hn_si, hn_sj, hn_sr, hs_si, hs_sj, hs_sr, hi_sj, hi_sr, hj_si, hj_sr, hr_si, hr_sj, hi_si, hj_sj, hr_sr, mg_si, mg_sj, mg_sr, Nat.reduceAdd, Nat.reduceMul, Nat.reduceSub, Nat.reduceLT, Nat.reduceGT, Nat.reduceEqDiff, Nat.reduceLeDiff, Nat.left_eq_add, Nat.add_eq_left, Nat.reduceMod, Nat.reduceDiv, Nat.succ_ne_self, l12, g4, gH4, gg5, gH5, r24, er5, e5, e6, ei, et]
    · rw [hv] at e0; cases e0
end SETw
