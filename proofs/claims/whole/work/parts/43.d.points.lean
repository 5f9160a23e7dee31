set_option maxRecDepth 100000
/-! pointsOf, pointsIn -/
theorem addL_fu {E : nv} : ∀ l, (E.addL l).fu = E.fu := by
  intro l
  induction l generalizing E with
  | nil => rfl
  | cons v l ih => exact ih (E := E.addN v)
/-- how many points a row has -/
def PQ (D : fd) (t : tr) (p e fu : Nat) : Prop := p ≤ e ∧ e ≤ 249 ∧ ∀ (d b k z n0 : Nat) (h : mh_H) (T : Nat) (sN : Int → Prop) (en : Int → Nat), RJ h T sN en → FT h D → FX (mh_i h 93) (mh_i h 95) (mh_i h 97) D → mh_i h 115 14 = Int32.ofNat fu → nd (mh_i h 93) (mh_i h 95) (mh_i h 97) k t → k + ts t = b + z → b + z ≤ 26000 → b < 26000 → mh_i h 97 b = Int32.ofNat z → n0 + (e - p) ≤ 1000 → 2 * (e - p) + 3 ≤ d → ∀ Q, mw d 253 Q 6 [some (.ref 115), some (.int (Int32.ofNat b)), some (.int (Int32.ofNat n0)), some (.int (Int32.ofNat k))] [] h = Q (some (.int (Int32.ofNat (n0 + (e - p))))) h
section PQs
variable {d : Nat} {h : mh_H} {T : Nat} {sN : Int → Prop} {en : Int → Nat} {D : fd} {G : pgm} {J : pin}
theorem PQ_c {t : tr} {p e fu b : Nat} (q : PQ D t p e fu) (A : RJ h T sN en) (F : FT h D) (X : FX (mh_i h 93) (mh_i h 95) (mh_i h 97) D) (hf : mh_i h 115 14 = Int32.ofNat fu) (n : nd (mh_i h 93) (mh_i h 95) (mh_i h 97) (b + 1) t) (hb : b + 1 + ts t ≤ 26000) (hz : mh_i h 97 b = Int32.ofNat (1 + ts t)) (hd : 2 * (e - p) + 3 ≤ d) : ∀ Q, mcall d 253 [.ref 115, .int (Int32.ofNat b)] h Q = Q (some (.int (Int32.ofNat (e - p)))) h := fun Q => by
  have q1 := q.1
  have q2 := q.2.1
  have r := q.2.2 d b (b + 1) (1 + ts t) 0 h T sN en A F X hf n (by omega) (by omega) (by omega) hz (by omega) hd Q
  rw [Nat.zero_add] at r
  rw [← r]
  have e1' : Int32.ofNat b + 1 = Int32.ofNat (b + 1) := nn_add (a := b) (b := 1)
  have z0 : Int32.ofNat 0 = (0 : Int32) := rfl
  rw [z0]
  simp only [s_253_0, s_253_1, s_253_2, s_253_3, s_253_4, s_253_5, s_253_7, s_253_8, s_253_9, s_253_12, s_253_15, s_253_16, s_253_17, s_253_18, s_253_21, s_253_22, s_253_23, s_253_24, s_253_25, s_253_28, s_253_29, s_253_32, s_253_33, e_253, mv_i_1, mv_l_1, mv_a_1, mv_a_2, mv_a_3, mk2_n, mk2_i, mk2_l, mk2_a, mk2_u, mk2_x, mB_T, mB_F, mS_cons, mS_nil, mSB_T, mSB_F, mca_nil, mca_i, mca_l, mca_r, mca_u, mca_x, mcat_i, mcat_l, mcat_r, mcat_u, mcat_x, mK_some, mK_none, va_rf_s, va_rf_n, lgc_eq, lgc_lt, lgc_gt, lgc_ge, lgc_le, mrd_104, mrd_105, mrd_106, mrd_107, true_and, and_true, and_self, false_and, and_false, true_or, or_true, false_or, or_false, not_true_eq_false, not_false_eq_true, mgb, mga, mgr, mN, reduceCtorEq, ↓reduceIte, eq_self, ge_iff_le, gt_iff_lt, Nat.reduceAdd, Nat.reduceMul, Nat.reduceSub, Nat.reduceLT, Nat.reduceGT, Nat.reduceEqDiff, Nat.reduceLeDiff, Nat.left_eq_add, Nat.add_eq_left, Nat.reduceMod, Nat.reduceDiv, Nat.succ_ne_self, e1']
theorem FT_14 {v : Int32} (F : FT h D) : FT (mh_si h 115 14 v) D := by
  obtain ⟨c, c1, c2, c3, c4, c5, c6, c7, c8⟩ := F
  exact ⟨c, c1, c2, c3, c4, c5, c6, c7, fun f hf => by rw [hi_si, if_neg (by omega)]; exact c8 f hf⟩
theorem RJ_14 {v : Int32} (A : RJ h T sN en) : RJ (mh_si h 115 14 v) T sN en := RZ.j (RZ_same (RJ_z A) rfl rfl rfl (fun _ _ _ => rfl)) (EV_same (RJ_v A) (by rw [hi_si, if_neg (by omega)]) (fun j _ => by rw [hi_si, if_neg (by omega)]) (fun j _ => by rw [hi_si, if_neg (by omega)]))
theorem rows_14 {v : Int32} {b : Nat} (hb : b ≠ 115) : mh_i (mh_si h 115 14 v) b = mh_i h b := funext fun j => by rw [hi_si, if_neg (fun z => hb z.1)]
/-- pointsIn -/
theorem u_254 {rec : tr → Nat → Nat → nv → Prop} (hr : ∀ t p e E, rec t p e E → PQ D t p e E.fu) {n : Nat} {cs r : tr} {p k : Nat} {E : nv} (L : LN G J D rec n cs p E) (hfu : E.fu ≤ D.c) (hE : p < G.E p) (A : RJ h T sN en) (F : FT h D) (X : FX (mh_i h 93) (mh_i h 95) (mh_i h 97) D) (hf : mh_i h 115 14 = Int32.ofNat E.fu) (N : nd (mh_i h 93) (mh_i h 95) (mh_i h 97) k (.branch n cs r)) (hb : k + 1 + ts cs ≤ 26000) (hd : 2 * (G.E p - p) + 2 ≤ d) : ∀ Q, mcall d 254 [.ref 115, .int (Int32.ofNat k)] h Q = Q (some (.int (Int32.ofNat (G.E p - p)))) h := fun Q => by
  obtain ⟨d, rfl⟩ : ∃ d', d = d' + 1 := ⟨d - 1, by omega⟩
  obtain ⟨n1, -, n3, n4, -⟩ := N
  have g := A.a.g
  have r0 := A.a.r0
  have gV := A.a.F.g 93 102 26000 (by decide +kernel)
  have gV1 := gV.1
  have gV2 := gV.2
  have lV := A.a.F.l 93 102 26000 (by decide +kernel)
  have e1' : ∀ k, Int32.ofNat k + 1 = Int32.ofNat (k + 1) := fun k => nn_add (a := k) (b := 1)
  have e1l : ∀ k, (1 : Int32) + Int32.ofNat k = Int32.ofNat (1 + k) := fun k => nn_add (a := 1) (b := k)
  have e87 : ((8 : Int32) = 7) = False := by decide
  have e97 : ((9 : Int32) = 7) = False := by decide
  have e98 : ((9 : Int32) = 8) = False := by decide
  -- a simple one
  have simp1 : (∃ c : Int32, mh_i h 93 k = c ∧ c ≠ 7 ∧ c ≠ 8 ∧ c ≠ 9) → G.E p = p + 1 → mcall (d + 1) 254 [.ref 115, .int (Int32.ofNat k)] h Q = Q (some (.int (Int32.ofNat (G.E p - p)))) h := fun ⟨c, c1, c2, c3, c4⟩ e => by
    have e9 : G.E p - p = 1 := by omega
    have o1 : Int32.ofNat 1 = (1 : Int32) := rfl
    rw [e9, o1]
    clear A F X hr L
    simp (disch := omega) only [s_254_0, s_254_1, s_254_4, s_254_5, s_254_6, s_254_32, s_254_33, s_254_36, s_254_37, s_254_38, s_254_39, s_254_40, s_254_43, s_254_46, s_254_47, s_254_48, s_254_49, s_254_50, s_254_53, s_254_56, s_254_59, s_254_60, s_254_61, s_254_62, s_254_63, s_254_66, s_254_67, s_254_68, s_254_69, s_254_70, s_254_71, s_254_72, s_254_75, s_254_77, s_254_78, s_254_79, s_254_81, s_254_84, s_254_85, s_254_86, s_254_88, s_254_91, s_254_92, s_254_93, s_254_96, s_254_99, s_254_100, s_254_101, s_254_103, s_254_106, s_254_109, s_254_112, s_254_113, s_254_114, s_254_115, s_254_116, s_254_117, s_254_118, s_254_119, s_254_120, s_254_121, s_254_124, s_254_127, s_254_128, s_254_129, s_254_130, e_254, mv_i_1, mv_l_1, mv_a_1, mv_a_2, mv_a_3, mk2_n, mk2_i, mk2_l, mk2_a, mk2_u, mk2_x, mB_T, mB_F, mS_cons, mS_nil, mSB_T, mSB_F, mca_nil, mca_i, mca_l, mca_r, mca_u, mca_x, mcat_i, mcat_l, mcat_r, mcat_u, mcat_x, mK_some, mK_none, va_rf_s, va_rf_n, lgc_eq, lgc_lt, lgc_gt, lgc_ge, lgc_le, mrd_104, mrd_105, mrd_106, mrd_107, true_and, and_true, and_self, false_and, and_false, true_or, or_true, false_or, or_false, not_true_eq_false, not_false_eq_true, mgb, mga, mgr, mN, reduceCtorEq, ↓reduceIte, eq_self, ge_iff_le, gt_iff_lt, Nat.reduceAdd, Nat.reduceMul, Nat.reduceSub, Nat.reduceLT, Nat.reduceGT, Nat.reduceEqDiff, Nat.reduceLeDiff, Nat.left_eq_add, Nat.add_eq_left, Nat.reduceMod, Nat.reduceDiv, Nat.succ_ne_self, g, r0, gV1, gV2, lV, c1, c2, c3, c4, nn_mxT, nn_clamp]
  have kc' : ∀ c : Nat, tK n = c → mh_i h 93 k = Int32.ofNat c := fun c hc => by rw [n1, hc]
  rcases L with ⟨hk, m, u, t, -, -, e, -⟩ | ⟨hk, m, u, q, u', r', -, -, e, -⟩ | ⟨hk, m, u, t, -, -, e, -⟩ | ⟨hk, m, u, t, -, -, e, -⟩ | ⟨hk, m, u, m2, u2, t, fg, tk, hc, -, -, -, -, hg, hm, hn, -, -, -, -, hrec⟩ | ⟨hk, m, c, b, bs, q, hc, -, -, -, -, -, hM1, hM2, hrec, h2⟩ | ⟨hk, m, c, b, bs, u, hc, -, -, -, -, -, hrec⟩ | ⟨hk, -, e, -⟩ | ⟨hk, -, e, -⟩
  · exact simp1 ⟨3, kc' _ hk, by decide, by decide, by decide⟩ e
  · exact simp1 ⟨4, kc' _ hk, by decide, by decide, by decide⟩ e
  · exact simp1 ⟨5, kc' _ hk, by decide, by decide, by decide⟩ e
  · exact simp1 ⟨6, kc' _ hk, by decide, by decide, by decide⟩ e
  · -- a call
    have k7 : mh_i h 93 k = 7 := kc' _ hk
    subst hc
    obtain ⟨-, -, -, -, -, v2, -, -, -⟩ := n4
    have tsu : ts (.branch m (.leaf u) (.branch m2 (.leaf u2) t)) = 2 + ts t := by rw [ts_B, ts_B]; show 1 + 0 + (1 + 0 + ts t) = _; omega
    have v2' : (mh_i h 95 (k + 2)).toInt = tV m2 := v2
    have ca := u_255 (d := d) A F X hf hfu (by omega) v2' hg hm hn
    have q := hr _ _ _ _ hrec
    rw [addL_fu] at q
    have q' : PQ D (D.t fg) (p + 1) (G.E p) fg := q
    have F' : FT (mh_si h 115 14 (Int32.ofNat fg)) D := FT_14 F
    have A' : RJ (mh_si h 115 14 (Int32.ofNat fg)) T sN en := RJ_14 A
    have X' : FX (mh_i (mh_si h 115 14 (Int32.ofNat fg)) 93) (mh_i (mh_si h 115 14 (Int32.ofNat fg)) 95) (mh_i (mh_si h 115 14 (Int32.ofNat fg)) 97) D := by rw [rows_14 (by decide), rows_14 (by decide), rows_14 (by decide)]; exact X
    have cb := u_256 (d := d) A' F' X' (g := fg) (by omega)
    obtain ⟨x1, -, -, -, x5, x6⟩ := X fg (by omega)
    have cc := PQ_c (d := d) (b := D.b fg) q' A' F' X' (by rw [hi_si, if_pos ⟨rfl, rfl⟩]) (by rw [rows_14 (by decide), rows_14 (by decide), rows_14 (by decide)]; exact x6) x1 (by rw [rows_14 (by decide)]; exact x5) (by omega)
    have i14 : mh_i (mh_si h 115 14 (Int32.ofNat fg)) 115 14 = Int32.ofNat fg := by rw [hi_si, if_pos ⟨rfl, rfl⟩]
    have g' : mg (mh_si h 115 14 (Int32.ofNat fg)) 115 12 := g
    have e9 : 1 + (G.E p - (p + 1)) = G.E p - p := by omega
    have fin : mh_si (mh_si h 115 14 (Int32.ofNat fg)) 115 14 (Int32.ofNat E.fu) = h := by rw [si_si, ← hf, si_id]
    clear A F X hr A' F' X' q q' hrec
    simp (disch := omega) only [s_254_0, s_254_1, s_254_4, s_254_5, s_254_6, s_254_32, s_254_33, s_254_36, s_254_37, s_254_38, s_254_39, s_254_40, s_254_43, s_254_46, s_254_47, s_254_48, s_254_49, s_254_50, s_254_53, s_254_56, s_254_59, s_254_60, s_254_61, s_254_62, s_254_63, s_254_66, s_254_67, s_254_68, s_254_69, s_254_70, s_254_71, s_254_72, s_254_75, s_254_77, s_254_78, s_254_79, s_254_81, s_254_84, s_254_85, s_254_86, s_254_88, s_254_91, s_254_92, s_254_93, s_254_96, s_254_99, s_254_100, s_254_101, s_254_103, s_254_106, s_254_109, s_254_112, s_254_113, s_254_114, s_254_115, s_254_116, s_254_117, s_254_118, s_254_119, s_254_120, s_254_121, s_254_124, s_254_127, s_254_128, s_254_129, s_254_130, e_254, mv_i_1, mv_l_1, mv_a_1, mv_a_2, mv_a_3, mk2_n, mk2_i, mk2_l, mk2_a, mk2_u, mk2_x, mB_T, mB_F, mS_cons, mS_nil, mSB_T, mSB_F, mca_nil, mca_i, mca_l, mca_r, mca_u, mca_x, mcat_i, mcat_l, mcat_r, mcat_u, mcat_x, mK_some, mK_none, va_rf_s, va_rf_n, lgc_eq, lgc_lt, lgc_gt, lgc_ge, lgc_le, mrd_104, mrd_105, mrd_106, mrd_107, true_and, and_true, and_self, false_and, and_false, true_or, or_true, false_or, or_false, not_true_eq_false, not_false_eq_true, mgb, mga, mgr, mN, reduceCtorEq, ↓reduceIte, eq_self, ge_iff_le, gt_iff_lt, Nat.reduceAdd, Nat.reduceMul, Nat.reduceSub, Nat.reduceLT, Nat.reduceGT, Nat.reduceEqDiff, Nat.reduceLeDiff, Nat.left_eq_add, Nat.add_eq_left, Nat.reduceMod, Nat.reduceDiv, Nat.succ_ne_self, g, r0, gV1, gV2, lV, k7, nn_mxT, nn_clamp, hf, ca, g', i14, cb, cc, e1l, e9, fin]
  · -- an if
    have k8 : mh_i h 93 k = 8 := kc' _ hk
    subst hc
    rw [ts_B, ts_B] at n3 hb
    obtain ⟨-, -, s1, -, -, -, s2, n5, n6⟩ := n4
    have q1 := hr _ _ _ _ hrec
    have c0 := u_228 (d := d) A.a (k := k) (by omega) n3
    have c1 := u_228 (d := d) A.a (k := k + 1) (by omega) s1
    have e3 : k + 1 + (1 + ts c) = k + 1 + 1 + ts c := by omega
    rw [e3] at c1
    have c2 := u_228 (d := d) A.a (k := k + 1 + 1 + ts c) (by omega) s2
    have p1 := PQ_c (d := d) (b := k + 1 + 1 + ts c) q1 A F X hf n5 (by omega) s2 (by omega)
    have e4 : k + 1 + 1 + ts c + (1 + ts bs) = k + 1 + 1 + ts c + 1 + ts bs := by omega
    rw [e4] at c2
    rcases h2 with ⟨⟨u, rfl⟩, e⟩ | ⟨b2, bs2, u, rfl, hrec2⟩
    · have le : (k + (1 + (1 + ts c + (1 + ts bs + ts (.leaf u : tr)))) ≤ k + 1 + 1 + ts c + 1 + ts bs) = True := eq_true (by show k + (1 + (1 + ts c + (1 + ts bs + 0))) ≤ _; omega)
      have e9 : 1 + (G.M p - (p + 1)) = G.E p - p := by omega
      have z0 : ∀ k, Int32.ofNat k + 0 = Int32.ofNat k := fun k => nn_add (a := k) (b := 0)
      clear A F X hr hrec q1
      simp (disch := omega) only [s_254_0, s_254_1, s_254_4, s_254_5, s_254_6, s_254_32, s_254_33, s_254_36, s_254_37, s_254_38, s_254_39, s_254_40, s_254_43, s_254_46, s_254_47, s_254_48, s_254_49, s_254_50, s_254_53, s_254_56, s_254_59, s_254_60, s_254_61, s_254_62, s_254_63, s_254_66, s_254_67, s_254_68, s_254_69, s_254_70, s_254_71, s_254_72, s_254_75, s_254_77, s_254_78, s_254_79, s_254_81, s_254_84, s_254_85, s_254_86, s_254_88, s_254_91, s_254_92, s_254_93, s_254_96, s_254_99, s_254_100, s_254_101, s_254_103, s_254_106, s_254_109, s_254_112, s_254_113, s_254_114, s_254_115, s_254_116, s_254_117, s_254_118, s_254_119, s_254_120, s_254_121, s_254_124, s_254_127, s_254_128, s_254_129, s_254_130, e_254, mv_i_1, mv_l_1, mv_a_1, mv_a_2, mv_a_3, mk2_n, mk2_i, mk2_l, mk2_a, mk2_u, mk2_x, mB_T, mB_F, mS_cons, mS_nil, mSB_T, mSB_F, mca_nil, mca_i, mca_l, mca_r, mca_u, mca_x, mcat_i, mcat_l, mcat_r, mcat_u, mcat_x, mK_some, mK_none, va_rf_s, va_rf_n, lgc_eq, lgc_lt, lgc_gt, lgc_ge, lgc_le, mrd_104, mrd_105, mrd_106, mrd_107, true_and, and_true, and_self, false_and, and_false, true_or, or_true, false_or, or_false, not_true_eq_false, not_false_eq_true, mgb, mga, mgr, mN, reduceCtorEq, ↓reduceIte, eq_self, ge_iff_le, gt_iff_lt, Nat.reduceAdd, Nat.reduceMul, Nat.reduceSub, Nat.reduceLT, Nat.reduceGT, Nat.reduceEqDiff, Nat.reduceLeDiff, Nat.left_eq_add, Nat.add_eq_left, Nat.reduceMod, Nat.reduceDiv, Nat.succ_ne_self, g, r0, gV1, gV2, lV, k8, e87, nn_mxT, nn_clamp, c0, c1, c2, p1, e1', e1l, nn_le, le, e9, z0]
    · have q2 := hr _ _ _ _ hrec2
      obtain ⟨-, -, s3, n7, -⟩ := n6
      have tq : ts (.branch b2 bs2 (.leaf u) : tr) = 1 + ts bs2 := by rw [ts_B]; rfl
      rw [tq] at n3 hb c0
      have p2 := PQ_c (d := d) (b := k + 1 + 1 + ts c + 1 + ts bs) q2 A F X hf n7 (by omega) s3 (by omega)
      have le : (k + (1 + (1 + ts c + (1 + ts bs + (1 + ts bs2)))) ≤ k + 1 + 1 + ts c + 1 + ts bs) = False := eq_false (by omega)
      have e9 : 1 + (G.M p - (p + 1)) + (G.E p - G.M p) = G.E p - p := by omega
      clear A F X hr hrec q1 q2 hrec2
      simp (disch := omega) only [s_254_0, s_254_1, s_254_4, s_254_5, s_254_6, s_254_32, s_254_33, s_254_36, s_254_37, s_254_38, s_254_39, s_254_40, s_254_43, s_254_46, s_254_47, s_254_48, s_254_49, s_254_50, s_254_53, s_254_56, s_254_59, s_254_60, s_254_61, s_254_62, s_254_63, s_254_66, s_254_67, s_254_68, s_254_69, s_254_70, s_254_71, s_254_72, s_254_75, s_254_77, s_254_78, s_254_79, s_254_81, s_254_84, s_254_85, s_254_86, s_254_88, s_254_91, s_254_92, s_254_93, s_254_96, s_254_99, s_254_100, s_254_101, s_254_103, s_254_106, s_254_109, s_254_112, s_254_113, s_254_114, s_254_115, s_254_116, s_254_117, s_254_118, s_254_119, s_254_120, s_254_121, s_254_124, s_254_127, s_254_128, s_254_129, s_254_130, e_254, mv_i_1, mv_l_1, mv_a_1, mv_a_2, mv_a_3, mk2_n, mk2_i, mk2_l, mk2_a, mk2_u, mk2_x, mB_T, mB_F, mS_cons, mS_nil, mSB_T, mSB_F, mca_nil, mca_i, mca_l, mca_r, mca_u, mca_x, mcat_i, mcat_l, mcat_r, mcat_u, mcat_x, mK_some, mK_none, va_rf_s, va_rf_n, lgc_eq, lgc_lt, lgc_gt, lgc_ge, lgc_le, mrd_104, mrd_105, mrd_106, mrd_107, true_and, and_true, and_self, false_and, and_false, true_or, or_true, false_or, or_false, not_true_eq_false, not_false_eq_true, mgb, mga, mgr, mN, reduceCtorEq, ↓reduceIte, eq_self, ge_iff_le, gt_iff_lt, Nat.reduceAdd, Nat.reduceMul, Nat.reduceSub, Nat.reduceLT, Nat.reduceGT, Nat.reduceEqDiff, Nat.reduceLeDiff, Nat.left_eq_add, Nat.add_eq_left, Nat.reduceMod, Nat.reduceDiv, Nat.succ_ne_self, g, r0, gV1, gV2, lV, k8, e87, nn_mxT, nn_clamp, c0, c1, c2, p1, p2, e1', e1l, nn_le, le, nn_add, e9]
  · -- a while
    have k9 : mh_i h 93 k = 9 := kc' _ hk
    subst hc
    rw [ts_B, ts_B] at n3 hb
    obtain ⟨-, -, s1, -, -, -, s2, n5, -⟩ := n4
    have q1 := hr _ _ _ _ hrec
    have c1 := u_228 (d := d) A.a (k := k + 1) (by omega) s1
    have e3 : k + 1 + (1 + ts c) = k + 1 + 1 + ts c := by omega
    rw [e3] at c1
    have p1 := PQ_c (d := d) (b := k + 1 + 1 + ts c) q1 A F X hf n5 (by omega) s2 (by omega)
    have e9 : 1 + (G.E p - (p + 1)) = G.E p - p := by omega
    clear A F X hr hrec q1
    simp (disch := omega) only [s_254_0, s_254_1, s_254_4, s_254_5, s_254_6, s_254_32, s_254_33, s_254_36, s_254_37, s_254_38, s_254_39, s_254_40, s_254_43, s_254_46, s_254_47, s_254_48, s_254_49, s_254_50, s_254_53, s_254_56, s_254_59, s_254_60, s_254_61, s_254_62, s_254_63, s_254_66, s_254_67, s_254_68, s_254_69, s_254_70, s_254_71, s_254_72, s_254_75, s_254_77, s_254_78, s_254_79, s_254_81, s_254_84, s_254_85, s_254_86, s_254_88, s_254_91, s_254_92, s_254_93, s_254_96, s_254_99, s_254_100, s_254_101, s_254_103, s_254_106, s_254_109, s_254_112, s_254_113, s_254_114, s_254_115, s_254_116, s_254_117, s_254_118, s_254_119, s_254_120, s_254_121, s_254_124, s_254_127, s_254_128, s_254_129, s_254_130, e_254, mv_i_1, mv_l_1, mv_a_1, mv_a_2, mv_a_3, mk2_n, mk2_i, mk2_l, mk2_a, mk2_u, mk2_x, mB_T, mB_F, mS_cons, mS_nil, mSB_T, mSB_F, mca_nil, mca_i, mca_l, mca_r, mca_u, mca_x, mcat_i, mcat_l, mcat_r, mcat_u, mcat_x, mK_some, mK_none, va_rf_s, va_rf_n, lgc_eq, lgc_lt, lgc_gt, lgc_ge, lgc_le, mrd_104, mrd_105, mrd_106, mrd_107, true_and, and_true, and_self, false_and, and_false, true_or, or_true, false_or, or_false, not_true_eq_false, not_false_eq_true, mgb, mga, mgr, mN, reduceCtorEq, ↓reduceIte, eq_self, ge_iff_le, gt_iff_lt, Nat.reduceAdd, Nat.reduceMul, Nat.reduceSub, Nat.reduceLT, Nat.reduceGT, Nat.reduceEqDiff, Nat.reduceLeDiff, Nat.left_eq_add, Nat.add_eq_left, Nat.reduceMod, Nat.reduceDiv, Nat.succ_ne_self, g, r0, gV1, gV2, lV, k9, e97, e98, nn_mxT, nn_clamp, c1, p1, e1', e1l, e9]
  · exact simp1 ⟨10, kc' _ hk, by decide, by decide, by decide⟩ e
  · exact simp1 ⟨11, kc' _ hk, by decide, by decide, by decide⟩ e
theorem nx_fu {n : Nat} {cs : tr} {E : nv} : (nx n cs E).fu = E.fu := by
  unfold nx
  split
  · cases cs <;> rfl
  · split
    · cases cs with
      | leaf => rfl
      | branch a b c => cases c <;> rfl
    · rfl
/-- pointsOf -/
theorem LW_Q : ∀ f t p e E, LW G J D f t p e E → e ≤ 249 → PQ D t p e E.fu := by
  intro f
  have leafC : ∀ (u : Unit) p e fu, p = e → e ≤ 249 → PQ D (.leaf u) p e fu := fun u p e fu hpe he => ⟨by omega, he, fun d b k z n0 h T sN en A F X hf N hk hb hb2 hz hn hd Q => by
    subst hpe
    obtain ⟨d, rfl⟩ : ∃ d', d = d' + 1 := ⟨d - 1, by omega⟩
    have ek : k = b + z := by have : k + 0 = b + z := hk; omega
    subst ek
    have g := A.a.g
    have c0 := u_228 (d := d) A.a hb2 hz
    have le : (b + z ≤ b + z) = True := eq_true (Nat.le_refl _)
    have e0 : n0 + (p - p) = n0 := by omega
    rw [e0, s_253_6]
    simp (disch := omega) only [s_253_0, s_253_1, s_253_2, s_253_3, s_253_4, s_253_5, s_253_7, s_253_8, s_253_9, s_253_12, s_253_15, s_253_16, s_253_17, s_253_18, s_253_21, s_253_22, s_253_23, s_253_24, s_253_25, s_253_28, s_253_29, s_253_32, s_253_33, e_253, mv_i_1, mv_l_1, mv_a_1, mv_a_2, mv_a_3, mk2_n, mk2_i, mk2_l, mk2_a, mk2_u, mk2_x, mB_T, mB_F, mS_cons, mS_nil, mSB_T, mSB_F, mca_nil, mca_i, mca_l, mca_r, mca_u, mca_x, mcat_i, mcat_l, mcat_r, mcat_u, mcat_x, mK_some, mK_none, va_rf_s, va_rf_n, lgc_eq, lgc_lt, lgc_gt, lgc_ge, lgc_le, mrd_104, mrd_105, mrd_106, mrd_107, true_and, and_true, and_self, false_and, and_false, true_or, or_true, false_or, or_false, not_true_eq_false, not_false_eq_true, mgb, mga, mgr, mN, reduceCtorEq, ↓reduceIte, eq_self, ge_iff_le, gt_iff_lt, Nat.reduceAdd, Nat.reduceMul, Nat.reduceSub, Nat.reduceLT, Nat.reduceGT, Nat.reduceEqDiff, Nat.reduceLeDiff, Nat.left_eq_add, Nat.add_eq_left, Nat.reduceMod, Nat.reduceDiv, Nat.succ_ne_self, g, c0, nn_le, le]⟩
  induction f with
  | zero =>
    intro t p e E L he
    cases t with
    | leaf u => exact leafC u p e _ L he
    | branch n cs r => exact absurd L (fun z => z)
  | succ f ih =>
    intro t p e E L he
    cases t with
    | leaf u => exact leafC u p e _ L he
    | branch n cs r =>
      obtain ⟨hpe, -, -, -, -, -, hE1, hE2, hfu, LN', LR⟩ := L
      have qr := ih r (G.E p) e _ LR he
      rw [nx_fu] at qr
      refine ⟨by omega, he, fun d b k z n0 h T sN en A F X hf N hk hb hb2 hz hn hd Q => ?_⟩
      obtain ⟨d, rfl⟩ : ∃ d', d = d' + 1 := ⟨d - 1, by omega⟩
      have N' := N
      obtain ⟨-, -, n3, -, n5⟩ := N'
      rw [ts_B] at hk
      have c1 := u_254 (d := d) (rec := fun t p e E => LW G J D f t p e E ∧ e ≤ 249) (fun t p e E w => ih t p e E w.1 w.2) (n := n) (cs := cs) (r := r) (p := p) (k := k) (E := E) (by
        unfold LN at LN' ⊢
        have mono : ∀ t a b E', b ≤ 249 → LW G J D f t a b E' → LW G J D f t a b E' ∧ b ≤ 249 := fun _ _ _ _ h1 h2 => ⟨h2, h1⟩
        rcases LN' with w | w | w | w | ⟨hk, m, u, m2, u2, t, g, tk, w⟩ | ⟨hk, m, c, b, bs, q, w1, w2, w3, w4, w5, w6, w7, w8, w9, w10⟩ | ⟨hk, m, c, b, bs, u, w⟩ | w | w
        · exact Or.inl w
        · exact Or.inr (Or.inl w)
        · exact Or.inr (Or.inr (Or.inl w))
        · exact Or.inr (Or.inr (Or.inr (Or.inl w)))
        · obtain ⟨w1, w2, w3, w4, w5, w6, w7, w8, w9, w10, w11, w12, w13⟩ := w
          exact Or.inr (Or.inr (Or.inr (Or.inr (Or.inl ⟨hk, m, u, m2, u2, t, g, tk, w1, w2, w3, w4, w5, w6, w7, w8, w9, w10, w11, w12, w13, by omega⟩))))
        · refine Or.inr (Or.inr (Or.inr (Or.inr (Or.inr (Or.inl ⟨hk, m, c, b, bs, q, w1, w2, w3, w4, w5, w6, w7, w8, ⟨w9, by omega⟩, ?_⟩)))))
          rcases w10 with w | ⟨b2, bs2, u, a1, a2⟩
          · exact Or.inl w
          · exact Or.inr ⟨b2, bs2, u, a1, a2, by omega⟩
        · obtain ⟨w1, w2, w3, w4, w5, w6, w7⟩ := w
          exact Or.inr (Or.inr (Or.inr (Or.inr (Or.inr (Or.inr (Or.inl ⟨hk, m, c, b, bs, u, w1, w2, w3, w4, w5, w6, w7, by omega⟩))))))
        · exact Or.inr (Or.inr (Or.inr (Or.inr (Or.inr (Or.inr (Or.inr (Or.inl w)))))))
        · exact Or.inr (Or.inr (Or.inr (Or.inr (Or.inr (Or.inr (Or.inr (Or.inr w)))))))) hfu hE1 A F X hf N (by omega) (by omega)
      have g := A.a.g
      have c0 := u_228 (d := d) A.a hb2 hz
      have c2 := u_228 (d := d) A.a (k := k) (by omega) n3
      have le : (b + z ≤ k) = False := eq_false (by omega)
      have e3 : k + (1 + ts cs) = k + 1 + ts cs := by omega
      rw [e3] at c2
      have e4 : n0 + (e - p) = n0 + (G.E p - p) + (e - G.E p) := by omega
      rw [e4]
      have fin := qr.2.2 (d + 1) b (k + 1 + ts cs) z (n0 + (G.E p - p)) h T sN en A F X hf n5 (by omega) hb hb2 hz (by omega) (by omega) Q
      rw [← fin, s_253_6]
      clear fin qr ih A F X LN' LR leafC
      simp (disch := omega) only [s_253_0, s_253_1, s_253_2, s_253_3, s_253_4, s_253_5, s_253_7, s_253_8, s_253_9, s_253_12, s_253_15, s_253_16, s_253_17, s_253_18, s_253_21, s_253_22, s_253_23, s_253_24, s_253_25, s_253_28, s_253_29, s_253_32, s_253_33, e_253, mv_i_1, mv_l_1, mv_a_1, mv_a_2, mv_a_3, mk2_n, mk2_i, mk2_l, mk2_a, mk2_u, mk2_x, mB_T, mB_F, mS_cons, mS_nil, mSB_T, mSB_F, mca_nil, mca_i, mca_l, mca_r, mca_u, mca_x, mcat_i, mcat_l, mcat_r, mcat_u, mcat_x, mK_some, mK_none, va_rf_s, va_rf_n, lgc_eq, lgc_lt, lgc_gt, lgc_ge, lgc_le, mrd_104, mrd_105, mrd_106, mrd_107, true_and, and_true, and_self, false_and, and_false, true_or, or_true, false_or, or_false, not_true_eq_false, not_false_eq_true, mgb, mga, mgr, mN, reduceCtorEq, ↓reduceIte, eq_self, ge_iff_le, gt_iff_lt, Nat.reduceAdd, Nat.reduceMul, Nat.reduceSub, Nat.reduceLT, Nat.reduceGT, Nat.reduceEqDiff, Nat.reduceLeDiff, Nat.left_eq_add, Nat.add_eq_left, Nat.reduceMod, Nat.reduceDiv, Nat.succ_ne_self, g, c0, c1, c2, nn_le, le, nn_add]
end PQs
