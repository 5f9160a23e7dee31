set_option maxRecDepth 100000
/-! Analysis.climb, tryLess -/
theorem RS_cong {h : mh_H} {o : Nat} {A B : ab} (hn : A.n = B.n) (ha : A.a = B.a) (hm : ∀ i j, i < 2 * A.n → j < 2 * A.n → A.m i j = B.m i j) (he : ∀ x, x < A.a → A.lo x = B.lo x ∧ A.hi x = B.hi x) (k : RS h o (some A)) : RS h o (some B) := by
  obtain ⟨k, k5⟩ := k
  exact ⟨⟨k.s, k.z, by rw [← hn]; exact k.n, by rw [← hn]; exact k.n12, by rw [← ha]; exact k.a, by rw [← ha]; exact k.a6, fun i j hi hj => by rw [← hn] at hi hj; rw [← hm i j hi hj]; exact k.m i j hi hj, fun x hx => by rw [← ha] at hx; rw [← (he x hx).1, ← (he x hx).2]; exact k.e x hx⟩, k5⟩
theorem RS_jc {h : mh_H} {o : Nat} {v u : Option ab} (hn : ∀ A' B', v = some A' → u = some B' → A'.n = B'.n ∧ A'.a = B'.a) (k : RS h o (o_join v u)) : RS h o (o_join u v) := by
  cases v with
  | none =>
    cases u with
    | none => exact k
    | some D => exact k
  | some A =>
    cases u with
    | none => exact k
    | some D =>
      obtain ⟨q1, q2⟩ := hn A D rfl rfl
      exact RS_cong (A := a_join A D) (B := a_join D A) q1 q2 (fun i j _ _ => Int.max_comm _ _) (fun x _ => ⟨Int.min_comm _ _, Int.max_comm _ _⟩) k
section CLs
variable {d : Nat} {h : mh_H} {Y C E TT UU SC SP nC nE nS : Nat} {k n a : Nat} {r : Nat → Nat}
theorem w_joinC (B : BS h Y C E TT UU SC SP nC nE nS) {b1 j1 b2 j2 o1 o2 : Nat} {v u : Option ab} (p1 : isPl b1 j1) (p2 : isPl b2 j2) (ne : ¬ (b1 = b2 ∧ j1 = j2)) (e1 : mh_r h b1 j1 = some o1) (e2 : mh_r h b2 j2 = some o2) (k1 : pv h b1 j1 v) (k2 : pv h b2 j2 u) (hn : ∀ A' B', v = some A' → u = some B' → A'.n = B'.n ∧ A'.a = B'.a) : ∃ h', zS (fun b j => b = b1 ∧ j = j1) (fun _ _ => False) h h' ∧ BS h' Y C E TT UU SC SP nC nE nS ∧ mh_r h' = mh_r h ∧ pv h' b1 j1 (o_join u v) ∧ ∀ Q, mcall (d + 2) 151 [.ref o1, .ref o2] h Q = Q none h' := by
  obtain ⟨h', x, B', er, ⟨o, e, k⟩, c⟩ := w_join (d := d) B p1 p2 ne e1 e2 k1 k2 hn
  exact ⟨h', x, B', er, ⟨o, e, RS_jc hn k⟩, c⟩
theorem w_wid (B : BS h Y C E TT UU SC SP nC nE nS) {b1 j1 b2 j2 o1 o2 : Nat} {A D : ab} (p1 : isPl b1 j1) (p2 : isPl b2 j2) (ne : ¬ (b1 = b2 ∧ j1 = j2)) (e1 : mh_r h b1 j1 = some o1) (e2 : mh_r h b2 j2 = some o2) (k1 : pv h b1 j1 (some A)) (k2 : pv h b2 j2 (some D)) (hn : A.n = D.n) (ha : A.a = D.a) : ∃ h', zS (fun b j => b = b1 ∧ j = j1) (fun _ _ => False) h h' ∧ BS h' Y C E TT UU SC SP nC nE nS ∧ mh_r h' = mh_r h ∧ pv h' b1 j1 (some (a_wid A D)) ∧ ∀ Q, mcall (d + 1) 152 [.ref o1, .ref o2] h Q = Q none h' := by
  obtain ⟨o, e, k⟩ := k1
  rw [e1] at e
  cases e
  obtain ⟨o, e, k'⟩ := k2
  rw [e2] at e
  cases e
  obtain ⟨h', f, k'', e'⟩ := l_152 (d := d) 52 k k' (fun z => ne (by rw [z] at e1; exact B.S.i b1 j1 b2 j2 o2 p1 p2 e1 e2)) hn ha
  obtain ⟨x, B'⟩ := zS_q B p1 e1 f
  exact ⟨h', x, B', f.2.2.1, ⟨o1, by rw [f.2.2.1]; exact e1, k''⟩, e'⟩
/-- all bounds are loosened, then made tight -/
theorem w_lt (B : BS h Y C E TT UU SC SP nC nE nS) {b1 j1 o1 : Nat} {A : ab} (p1 : isPl b1 j1) (e1 : mh_r h b1 j1 = some o1) (k1 : pv h b1 j1 (some A)) (s : shL n a r A) (lb : ∀ i j, i < 2 * n → j < 2 * n → -4294967296 ≤ A.m i j) : ∃ h1 h2, zS (fun b j => b = b1 ∧ j = j1) (fun _ _ => False) h h2 ∧ BS h1 Y C E TT UU SC SP nC nE nS ∧ BS h2 Y C E TT UU SC SP nC nE nS ∧ mh_r h1 = mh_r h ∧ mh_r h2 = mh_r h ∧ pv h2 b1 j1 (a_cl A) ∧ (∀ Q, mcall (d + 2) 148 [.ref o1] h Q = Q none h1) ∧ ∀ Q, mcall (d + 2) 159 [.ref o1, .ref 52] h1 Q = Q none h2 := by
  obtain ⟨o, e, k⟩ := k1
  rw [e1] at e
  cases e
  have hn := s.n
  obtain ⟨h1, f1, k1', c1⟩ := l_148 (d := d + 2) 52 k (by rw [hn]; exact s.C) (by rw [hn]; exact s.up)
  obtain ⟨x1, B1⟩ := zS_q B p1 e1 f1
  have r52 : rw_ok h1 52 := ⟨B1.F.g 52 101 48 (by decide +kernel), B1.F.l 52 101 48 (by decide +kernel)⟩
  obtain ⟨h2, f2, k2', c2⟩ := l_159 (d := d) r52 k1' (fun i j hi hj => by
    rw [hn] at hi hj
    have l := lb i j hi hj
    by_cases e : i = j
    · rw [e, s.C.1 j hj]; omega
    · have u := s.up i j hi hj e
      have g1 := gI_r j
      have g2 := gI_r (oc_b i)
      omega)
  obtain ⟨x2, B2⟩ := zS_q (b := b1) (j := j1) (o := o1) B1 p1 (by rw [f1.2.2.1]; exact e1) f2
  exact ⟨h1, h2, zS_t x1 x2, B1, B2, f1.2.2.1, f2.2.2.1.trans f1.2.2.1, ⟨o1, by rw [f2.2.2.1, f1.2.2.1]; exact e1, k2'⟩, c1, c2⟩
theorem shp_2 {v u : Option ab} (h1 : shp n a r v) (h2 : shp n a r u) : ∀ A' B', v = some A' → u = some B' → A'.n = B'.n ∧ A'.a = B'.a := fun A' B' e1 e2 => by
  obtain ⟨-, q1, q2, -⟩ := h1 A' e1
  obtain ⟨-, q3, q4, -⟩ := h2 B' e2
  exact ⟨q1.trans q3.symm, q2.trans q4.symm⟩
def kV (k b j : Nat) : Prop := (b = 53 ∧ j = 6) ∨ ((b = 61 ∨ b = 63 ∨ b = 64) ∧ j = k)
def kU (k b j : Nat) : Prop := (b = 60 ∨ b = 65 ∨ b = 66) ∧ j = k
/-- climb -/
theorem c_9 (B : BS h Y C E TT UU SC SP nC nE nS) {H D N : ab} {r0 : Nat} (hk : k < 250) (k1 : pv h 53 6 (some N)) (k2 : pv h 63 k (some H)) (k3 : pv h 64 k (some D)) (s1 : shp n a r (some N)) (s2 : shp n a r (some H)) (s3 : shL n a r D) (lb : ∀ i j, i < 2 * n → j < 2 * n → -4294967296 ≤ D.m i j) (e65 : mh_i h 65 k = Int32.ofNat r0) (hr : r0 < 100000) : ∃ h', zS (kV k) (kU k) h h' ∧ BS h' Y C E TT UU SC SP nC nE nS ∧ pv h' 63 k (if r0 + 1 ≤ 2 then o_join (some H) (some N) else o_cl (o_wid (some D) (some N))) ∧ pv h' 53 6 (if r0 + 1 ≤ 2 then o_join (some H) (some N) else o_cl (o_wid (some D) (some N))) ∧ pv h' 64 k (if r0 + 1 ≤ 2 then o_join (some H) (some N) else o_wid (some D) (some N)) ∧ mh_i h' 65 k = Int32.ofNat (r0 + 1) ∧ mh_i h' 60 k = mh_i h 60 k ∧ mh_i h' 66 k = mh_i h 66 k ∧ ∀ Q, mcall (d + 4) 9 [.ref 53, .int (Int32.ofNat k)] h Q = Q none h' := by
  have P1 : isPl 53 6 := by unfold isPl; omega
  have P2 : isPl 63 k := by unfold isPl; omega
  have P3 : isPl 64 k := by unfold isPl; omega
  obtain ⟨o1, e1, -⟩ := id k1
  obtain ⟨o2, e2, -⟩ := id k2
  obtain ⟨o3, e3, -⟩ := id k3
  have F := B.F
  have g53 := F.g 53 0 17 (by decide +kernel)
  have t13 := F.f 53 13 63 (by decide +kernel)
  have t14 := F.f 53 14 64 (by decide +kernel)
  have t15 := F.f 53 15 65 (by decide +kernel)
  have t5 := F.f 53 5 34 (by decide +kernel)
  have t7 := F.f 34 7 52 (by decide +kernel)
  have g65 := F.g 65 100 250 (by decide +kernel)
  have l65 := F.l 65 100 250 (by decide +kernel)
  have gO1 := (cs_so B.S ⟨53, 6, P1, e1⟩).1.1
  have gO2 := (cs_so B.S ⟨63, k, P2, e2⟩).1.1
  have gO3 := (cs_so B.S ⟨64, k, P3, e3⟩).1.1
  have ei : ∀ k, Int32.ofNat k + 1 = Int32.ofNat (k + 1) := fun k => nn_add (a := k) (b := 1)
  have e2' : (2 : Int32) = Int32.ofNat 2 := rfl
  obtain ⟨x0, B0⟩ := zS_i (k := k) (v := Int32.ofNat (r0 + 1)) B (b := 65) (by omega)
  have row : ∀ {h' : mh_H}, BS h' Y C E TT UU SC SP nC nE nS → mg h' 53 0 ∧ (mh_k h' 63 = 104 ∧ 63 < mh_n h' ∧ mh_l h' 63 = 250) ∧ (mh_k h' 64 = 104 ∧ 64 < mh_n h' ∧ mh_l h' 64 = 250) ∧ mg h' 34 1 ∧ mg h' 52 101 := fun B' => ⟨B'.F.g 53 0 17 (by decide +kernel), ⟨(B'.F.g 63 104 250 (by decide +kernel)).1, (B'.F.g 63 104 250 (by decide +kernel)).2, B'.F.l 63 104 250 (by decide +kernel)⟩, ⟨(B'.F.g 64 104 250 (by decide +kernel)).1, (B'.F.g 64 104 250 (by decide +kernel)).2, B'.F.l 64 104 250 (by decide +kernel)⟩, B'.F.g 34 1 9 (by decide +kernel), B'.F.g 52 101 48 (by decide +kernel)⟩
  obtain ⟨u1, ⟨u2, u3, u4⟩, ⟨u5, u6, u7⟩, u8, u9⟩ := row B
  by_cases c : r0 + 1 ≤ 2
  · rw [if_pos c, if_pos c]
    obtain ⟨h1, x1, B1, er1, q1, c1⟩ := w_join (d := d + 1) B0 P2 P1 (by omega) e2 e1 (x0.pp _ _ _ P2 (fun z => z) k2) (x0.pp _ _ _ P1 (fun z => z) k1) (shp_2 s2 s1)
    obtain ⟨h2, x2, B2, er2, q2, c2⟩ := w_copy (d := d + 2) B1 P3 P2 (by omega) (by rw [er1]; exact e3) (by rw [er1]; exact e2) q1
    have q22 := x2.pp _ _ _ P2 (by omega) q1
    obtain ⟨h3, x3, B3, er3, q3, c3⟩ := w_copy (d := d + 2) B2 P1 P2 (by omega) (by rw [er2, er1]; exact e1) (by rw [er2, er1]; exact e2) q22
    have x : zS (kV k) (kU k) h h3 := zS_t (zS_w x0 (fun _ _ z => z.elim) (fun b j z => by unfold kU; omega)) (zS_t (zS_w x1 (fun b j z => by unfold kV; omega) (fun _ _ z => z.elim)) (zS_t (zS_w x2 (fun b j z => by unfold kV; omega) (fun _ _ z => z.elim)) (zS_w x3 (fun b j z => by unfold kV; omega) (fun _ _ z => z.elim))))
    have y : zS (kV k) (fun _ _ => False) (mh_si h 65 k (Int32.ofNat (r0 + 1))) h3 := zS_t (zS_w x1 (fun b j z => by unfold kV; omega) (fun _ _ z => z)) (zS_t (zS_w x2 (fun b j z => by unfold kV; omega) (fun _ _ z => z)) (zS_w x3 (fun b j z => by unfold kV; omega) (fun _ _ z => z)))
    have yi : ∀ b j, mg h b 100 → ¬ eff b → mh_i h3 b j = mh_i (mh_si h 65 k (Int32.ofNat (r0 + 1))) b j := fun b j g ne => y.ii b 100 j (zS_g x0 g) (by omega) (by omega) ne (fun z => z)
    refine ⟨h3, x, B3, x3.pp _ _ _ P2 (by omega) q22, q3, x3.pp _ _ _ P3 (by omega) q2, ?_, ?_, ?_, fun Q => ?_⟩
    · rw [yi 65 k g65 (by unfold eff; omega), hi_si, if_pos ⟨rfl, rfl⟩]
    · rw [yi 60 k (F.g 60 100 250 (by decide +kernel)) (by unfold eff; omega), hi_si, if_neg (by omega)]
    · rw [yi 66 k (F.g 66 100 250 (by decide +kernel)) (by unfold eff; omega), hi_si, if_neg (by omega)]
    · obtain ⟨v1, ⟨v2, v3, v4⟩, ⟨v5, v6, v7⟩, -⟩ := row B1
      obtain ⟨w1, ⟨w2, w3, w4⟩, -⟩ := row B2
      have gO3' := zS_g x1 gO3
      have gO2' := zS_g x1 gO2
      have gO1' := zS_g x2 (zS_g x1 gO1)
      have gO2'' := zS_g x2 gO2'
      have gt : (2 < r0 + 1) = False := eq_false (by omega)
      clear x0 x1 x2 x3 x y yi B B0 B1 B2 B3 k1 k2 k3 q1 q2 q22 q3 s1 s2 s3 lb F row
      simp (disch := omega) only [s_9_0, s_9_1, s_9_4, s_9_5, s_9_5l, s_9_6, s_9_6x, s_9_7, s_9_8, s_9_9, s_9_10, s_9_11, s_9_14, s_9_15, s_9_15x, s_9_16, s_9_17, s_9_20, s_9_21, s_9_24, s_9_25, s_9_26, s_9_27, s_9_30, s_9_33, s_9_34, s_9_37, s_9_38, s_9_39, s_9_40, s_9_43, s_9_44, s_9_45, s_9_48, s_9_51, s_9_52, s_9_55, s_9_56, s_9_57, s_9_58, s_9_61, s_9_64, s_9_65, s_9_68, s_9_69, s_9_70, s_9_71, s_9_74, s_9_75, s_9_76, s_9_79, s_9_80, s_9_83, s_9_84, s_9_85, s_9_88, s_9_89, s_9_92, s_9_93, s_9_94, s_9_95, s_9_98, s_9_101, s_9_104, s_9_105, s_9_108, s_9_109, s_9_112, s_9_113, s_9_114, s_9_117, e_9, mv_i_1, mv_l_1, mv_a_1, mv_a_2, mv_a_3, mk2_n, mk2_i, mk2_l, mk2_a, mk2_u, mk2_x, mB_T, mB_F, mS_cons, mS_nil, mSB_T, mSB_F, mca_nil, mca_i, mca_l, mca_r, mca_u, mca_x, mcat_i, mcat_l, mcat_r, mcat_u, mcat_x, mK_some, mK_none, va_rf_s, va_rf_n, lgc_eq, lgc_lt, lgc_gt, lgc_ge, lgc_le, mrd_104, mrd_105, mrd_106, mrd_107, true_and, and_true, and_self, false_and, and_false, true_or, or_true, false_or, or_false, not_true_eq_false, not_false_eq_true, mgb, mga, mgr, mN, reduceCtorEq, ↓reduceIte, eq_self, ge_iff_le, gt_iff_lt, hk_si, hk_sj, hk_sr, hl_si, hl_sj, hl_sr, hn_si, hn_sj, hn_sr, hs_si, hs_sj, hs_sr, hi_sj, hi_sr, hj_si, hj_sr, hr_si, hr_sj, hi_si, hj_sj, hr_sr, mg_si, mg_sj, mg_sr, Nat.reduceAdd, Nat.reduceMul, Nat.reduceSub, Nat.reduceLT, Nat.reduceGT, Nat.reduceEqDiff, Nat.reduceLeDiff, Nat.left_eq_add, Nat.add_eq_left, Nat.reduceMod, Nat.reduceDiv, Nat.succ_ne_self, g53, t15, g65, l65, e65, ei, u1, u2, u3, u4, e2', nn_lt, gt, t13, t14, e1, e2, e3, gO1, gO2, gO3, c1, v1, v2, v3, v4, v5, v6, v7, er1, gO3', gO2', c2, w1, w2, w3, w4, er2, gO1', gO2'', c3, nn_mxT, nn_clamp]
  · rw [if_neg c, if_neg c]
    obtain ⟨-, n1, a1, -⟩ := s1 N rfl
    obtain ⟨h1, x1, B1, er1, q1, c1⟩ := w_wid (d := d + 2) B0 P3 P1 (by omega) e3 e1 (x0.pp _ _ _ P3 (fun z => z) k3) (x0.pp _ _ _ P1 (fun z => z) k1) (s3.n.trans n1.symm) (s3.a.trans a1.symm)
    have sw := shL_wid s3 s1
    have lb' : ∀ i j, i < 2 * n → j < 2 * n → -4294967296 ≤ (a_wid D N).m i j := fun i j hi hj => by
      show -4294967296 ≤ (if D.m i j < N.m i j then gI j + gI (oc_b i) else D.m i j)
      have := lb i j hi hj
      have g1 := gI_r j
      have g2 := gI_r (oc_b i)
      split <;> omega
    obtain ⟨h2, x2, B2, er2, q2, c2⟩ := w_copy (d := d + 2) B1 P2 P3 (by omega) (by rw [er1]; exact e2) (by rw [er1]; exact e3) q1
    obtain ⟨h3, h4, x4, B3, B4, er3, er4, q4, c3, c4⟩ := w_lt (d := d + 1) B2 P2 (by rw [er2, er1]; exact e2) q2 sw lb'
    obtain ⟨h5, x5, B5, er5, q5, c5⟩ := w_copy (d := d + 2) B4 P1 P2 (by omega) (by rw [er4, er2, er1]; exact e1) (by rw [er4, er2, er1]; exact e2) q4
    have x : zS (kV k) (kU k) h h5 := zS_t (zS_w x0 (fun _ _ z => z.elim) (fun b j z => by unfold kU; omega)) (zS_t (zS_w x1 (fun b j z => by unfold kV; omega) (fun _ _ z => z.elim)) (zS_t (zS_w x2 (fun b j z => by unfold kV; omega) (fun _ _ z => z.elim)) (zS_t (zS_w x4 (fun b j z => by unfold kV; omega) (fun _ _ z => z.elim)) (zS_w x5 (fun b j z => by unfold kV; omega) (fun _ _ z => z.elim)))))
    have y : zS (kV k) (fun _ _ => False) (mh_si h 65 k (Int32.ofNat (r0 + 1))) h5 := zS_t (zS_w x1 (fun b j z => by unfold kV; omega) (fun _ _ z => z)) (zS_t (zS_w x2 (fun b j z => by unfold kV; omega) (fun _ _ z => z)) (zS_t (zS_w x4 (fun b j z => by unfold kV; omega) (fun _ _ z => z)) (zS_w x5 (fun b j z => by unfold kV; omega) (fun _ _ z => z))))
    have yi : ∀ b j, mg h b 100 → ¬ eff b → mh_i h5 b j = mh_i (mh_si h 65 k (Int32.ofNat (r0 + 1))) b j := fun b j g ne => y.ii b 100 j (zS_g x0 g) (by omega) (by omega) ne (fun z => z)
    have q64 := x5.pp _ _ _ P3 (by omega) (x4.pp _ _ _ P3 (by omega) (x2.pp _ _ _ P3 (by omega) q1))
    refine ⟨h5, x, B5, x5.pp _ _ _ P2 (by omega) q4, q5, q64, ?_, ?_, ?_, fun Q => ?_⟩
    · rw [yi 65 k g65 (by unfold eff; omega), hi_si, if_pos ⟨rfl, rfl⟩]
    · rw [yi 60 k (F.g 60 100 250 (by decide +kernel)) (by unfold eff; omega), hi_si, if_neg (by omega)]
    · rw [yi 66 k (F.g 66 100 250 (by decide +kernel)) (by unfold eff; omega), hi_si, if_neg (by omega)]
    · obtain ⟨v1, ⟨v2, v3, v4⟩, ⟨v5, v6, v7⟩, -⟩ := row B1
      obtain ⟨w1, ⟨w2, w3, w4⟩, -⟩ := row B2
      obtain ⟨y1, ⟨y2, y3, y4⟩, -, y8, y9⟩ := row B3
      obtain ⟨z1, ⟨z2, z3, z4⟩, -⟩ := row B4
      have gO3' := zS_g x1 gO3
      have gO2' := zS_g x1 gO2
      have gO2'' := zS_g x2 gO2'
      have gO2a : mg h3 o2 8 := (cs_so B3.S ⟨63, k, P2, by rw [er3, er2, er1]; exact e2⟩).1.1
      have gO2b : mg h4 o2 8 := (cs_so B4.S ⟨63, k, P2, by rw [er4, er2, er1]; exact e2⟩).1.1
      have gO1b : mg h4 o1 8 := (cs_so B4.S ⟨53, 6, P1, by rw [er4, er2, er1]; exact e1⟩).1.1
      have gt : (2 < r0 + 1) = True := eq_true (by omega)
      clear x0 x1 x2 x4 x5 x y yi B B0 B1 B2 B3 B4 B5 k1 k2 k3 q1 q2 q4 q5 q64 s1 s2 s3 sw lb lb' F row
      simp (disch := omega) only [s_9_0, s_9_1, s_9_4, s_9_5, s_9_5l, s_9_6, s_9_6x, s_9_7, s_9_8, s_9_9, s_9_10, s_9_11, s_9_14, s_9_15, s_9_15x, s_9_16, s_9_17, s_9_20, s_9_21, s_9_24, s_9_25, s_9_26, s_9_27, s_9_30, s_9_33, s_9_34, s_9_37, s_9_38, s_9_39, s_9_40, s_9_43, s_9_44, s_9_45, s_9_48, s_9_51, s_9_52, s_9_55, s_9_56, s_9_57, s_9_58, s_9_61, s_9_64, s_9_65, s_9_68, s_9_69, s_9_70, s_9_71, s_9_74, s_9_75, s_9_76, s_9_79, s_9_80, s_9_83, s_9_84, s_9_85, s_9_88, s_9_89, s_9_92, s_9_93, s_9_94, s_9_95, s_9_98, s_9_101, s_9_104, s_9_105, s_9_108, s_9_109, s_9_112, s_9_113, s_9_114, s_9_117, e_9, mv_i_1, mv_l_1, mv_a_1, mv_a_2, mv_a_3, mk2_n, mk2_i, mk2_l, mk2_a, mk2_u, mk2_x, mB_T, mB_F, mS_cons, mS_nil, mSB_T, mSB_F, mca_nil, mca_i, mca_l, mca_r, mca_u, mca_x, mcat_i, mcat_l, mcat_r, mcat_u, mcat_x, mK_some, mK_none, va_rf_s, va_rf_n, lgc_eq, lgc_lt, lgc_gt, lgc_ge, lgc_le, mrd_104, mrd_105, mrd_106, mrd_107, true_and, and_true, and_self, false_and, and_false, true_or, or_true, false_or, or_false, not_true_eq_false, not_false_eq_true, mgb, mga, mgr, mN, reduceCtorEq, ↓reduceIte, eq_self, ge_iff_le, gt_iff_lt, hk_si, hk_sj, hk_sr, hl_si, hl_sj, hl_sr, hn_si, hn_sj, hn_sr, hs_si, hs_sj, hs_sr, hi_sj, hi_sr, hj_si, hj_sr, hr_si, hr_sj, hi_si, hj_sj, hr_sr, mg_si, mg_sj, mg_sr, Nat.reduceAdd, Nat.reduceMul, Nat.reduceSub, Nat.reduceLT, Nat.reduceGT, Nat.reduceEqDiff, Nat.reduceLeDiff, Nat.left_eq_add, Nat.add_eq_left, Nat.reduceMod, Nat.reduceDiv, Nat.succ_ne_self, g53, t15, g65, l65, e65, ei, u1, u2, u3, u4, u5, u6, u7, e2', nn_lt, gt, t13, t14, t5, t7, e1, e2, e3, gO1, gO2, gO3, c1, v1, v2, v3, v4, v5, v6, v7, er1, gO3', gO2', c2, w1, w2, w3, w4, er2, gO2'', c3, y1, y2, y3, y4, y8, y9, er3, gO2a, c4, z1, z2, z3, z4, er4, gO1b, gO2b, c5, nn_mxT, nn_clamp]
/-- tryLess -/
theorem c_10 (B : BS h Y C E TT UU SC SP nC nE nS) {H N : Option ab} {t0 : Nat} (hk : k < 250) (k1 : pv h 53 6 N) (k2 : pv h 63 k H) (nk : mh_r h 61 k ≠ none) (s1 : shp n a r N) (s2 : shp n a r H) (e66 : mh_i h 66 k = Int32.ofNat t0) (ht : t0 ≤ 2) : ∃ h', zS (kV k) (kU k) h h' ∧ BS h' Y C E TT UU SC SP nC nE nS ∧ mh_i h' 65 k = mh_i h 65 k ∧ pv h' 63 k H ∧ (∀ v, pv h 64 k v → pv h' 64 k v) ∧ ((t0 < 2 ∧ ¬ (o_le N H ∧ o_le H N) ∧ pv h' 53 6 N ∧ pv h' 61 k N ∧ mh_i h' 66 k = Int32.ofNat (t0 + 1) ∧ mh_i h' 60 k = 1) ∨ ((2 ≤ t0 ∨ (o_le N H ∧ o_le H N)) ∧ pv h' 53 6 H ∧ mh_i h' 66 k = Int32.ofNat t0 ∧ mh_i h' 60 k = 2)) ∧ ∀ Q, mcall (d + 4) 10 [.ref 53, .int (Int32.ofNat k)] h Q = Q none h' := by
  have P1 : isPl 53 6 := by unfold isPl; omega
  have P2 : isPl 63 k := by unfold isPl; omega
  have P3 : isPl 61 k := by unfold isPl; omega
  have P4 : isPl 64 k := by unfold isPl; omega
  obtain ⟨o1, e1, -⟩ := id k1
  obtain ⟨o2, e2, -⟩ := id k2
  obtain ⟨o3, e3⟩ : ∃ o, mh_r h 61 k = some o := by
    cases hc : mh_r h 61 k with
    | none => exact absurd hc nk
    | some o => exact ⟨o, rfl⟩
  have F := B.F
  have g53 := F.g 53 0 17 (by decide +kernel)
  have t10 := F.f 53 10 60 (by decide +kernel)
  have t11 := F.f 53 11 61 (by decide +kernel)
  have t13 := F.f 53 13 63 (by decide +kernel)
  have t16 := F.f 53 16 66 (by decide +kernel)
  have g60 := F.g 60 100 250 (by decide +kernel)
  have l60 := F.l 60 100 250 (by decide +kernel)
  have g66 := F.g 66 100 250 (by decide +kernel)
  have l66 := F.l 66 100 250 (by decide +kernel)
  have g65 := F.g 65 100 250 (by decide +kernel)
  have g63 := (F.g 63 104 250 (by decide +kernel)).1
  have g63' := (F.g 63 104 250 (by decide +kernel)).2
  have l63 := F.l 63 104 250 (by decide +kernel)
  have g61 := (F.g 61 104 250 (by decide +kernel)).1
  have g61' := (F.g 61 104 250 (by decide +kernel)).2
  have l61 := F.l 61 104 250 (by decide +kernel)
  have gO1 := (cs_so B.S ⟨53, 6, P1, e1⟩).1.1
  have gO2 := (cs_so B.S ⟨63, k, P2, e2⟩).1.1
  have gO3 := (cs_so B.S ⟨61, k, P3, e3⟩).1.1
  have ei : ∀ k, Int32.ofNat k + 1 = Int32.ofNat (k + 1) := fun k => nn_add (a := k) (b := 1)
  have e2' : (2 : Int32) = Int32.ofNat 2 := rfl
  obtain ⟨x, hx, xiff, cs'⟩ := w_same (d := d + 1) e1 e2 k1 k2 (shp_2 s1 s2)
  -- the last round begins
  obtain ⟨hL, xL, BL, qL1, qL2, cL⟩ := c_11 (d := d + 1) B hk k2 (by rw [e1]; exact fun z => by cases z)
  have last : 2 ≤ t0 ∨ (o_le N H ∧ o_le H N) → zS (kV k) (kU k) h hL ∧ BS hL Y C E TT UU SC SP nC nE nS ∧ mh_i hL 65 k = mh_i h 65 k ∧ pv hL 63 k H ∧ (∀ v, pv h 64 k v → pv hL 64 k v) ∧ ((t0 < 2 ∧ ¬ (o_le N H ∧ o_le H N) ∧ pv hL 53 6 N ∧ pv hL 61 k N ∧ mh_i hL 66 k = Int32.ofNat (t0 + 1) ∧ mh_i hL 60 k = 1) ∨ ((2 ≤ t0 ∨ (o_le N H ∧ o_le H N)) ∧ pv hL 53 6 H ∧ mh_i hL 66 k = Int32.ofNat t0 ∧ mh_i hL 60 k = 2)) := fun w => by
    refine ⟨zS_w xL (fun b j z => by unfold kV; omega) (fun b j z => by unfold kU; omega), BL, ?_, xL.pp _ _ _ P2 (by omega) k2, fun v kv => xL.pp _ _ _ P4 (by omega) kv, Or.inr ⟨w, qL1, ?_, qL2⟩⟩
    · exact xL.ii 65 100 k g65 (by omega) (by omega) (by unfold eff; omega) (by omega)
    · rw [xL.ii 66 100 k g66 (by omega) (by omega) (by unfold eff; omega) (by omega)]; exact e66
  by_cases c2 : t0 < 2
  · rcases hx with hx | hx
    · have nle : ¬ (o_le N H ∧ o_le H N) := fun w => by rw [xiff.mpr w] at hx; exact absurd hx (by decide)
      obtain ⟨x1, B1⟩ := zS_i (k := k) (v := Int32.ofNat (t0 + 1)) B (b := 66) (by omega)
      obtain ⟨x2, B2⟩ := zS_i (k := k) (v := 1) B1 (b := 60) (by omega)
      have x12 : zS (kV k) (kU k) h (mh_si (mh_si h 66 k (Int32.ofNat (t0 + 1))) 60 k 1) := zS_t (zS_w x1 (fun _ _ z => z.elim) (fun b j z => by unfold kU; omega)) (zS_w x2 (fun _ _ z => z.elim) (fun b j z => by unfold kU; omega))
      obtain ⟨h3, x3, B3, er3, q3, c3⟩ := w_copy (d := d + 2) B2 P3 P1 (by omega) e3 e1 (x2.pp _ _ _ P1 (fun z => z) (x1.pp _ _ _ P1 (fun z => z) k1))
      have i3 : ∀ b, mg h b 100 → ¬ eff b → mh_i h3 b k = mh_i (mh_si (mh_si h 66 k (Int32.ofNat (t0 + 1))) 60 k 1) b k := fun b g ne => x3.ii b 100 k (zS_g x12 g) (by omega) (by omega) ne (fun z => z)
      refine ⟨h3, zS_t x12 (zS_w x3 (fun b j z => by unfold kV; omega) (fun _ _ z => z.elim)), B3, ?_, x3.pp _ _ _ P2 (by omega) (x2.pp _ _ _ P2 (fun z => z) (x1.pp _ _ _ P2 (fun z => z) k2)), fun v kv => x3.pp _ _ _ P4 (by omega) (x2.pp _ _ _ P4 (fun z => z) (x1.pp _ _ _ P4 (fun z => z) kv)), Or.inl ⟨c2, nle, x3.pp _ _ _ P1 (by omega) (x2.pp _ _ _ P1 (fun z => z) (x1.pp _ _ _ P1 (fun z => z) k1)), q3, ?_, ?_⟩, fun Q => ?_⟩
      · rw [i3 65 g65 (by unfold eff; omega), hi_si, if_neg (by omega), hi_si, if_neg (by omega)]
      · rw [i3 66 g66 (by unfold eff; omega), hi_si, if_neg (by omega), hi_si, if_pos ⟨rfl, rfl⟩]
      · rw [i3 60 g60 (by unfold eff; omega), hi_si, if_pos ⟨rfl, rfl⟩]
      · have le : (2 ≤ t0) = False := eq_false (by omega)
        have e00 : ((0 : Int32) = 0) = True := by decide
        rw [hx] at cs'
        clear x1 x2 x3 x12 i3 B B1 B2 B3 k1 k2 q3 s1 s2 F last xiff
        simp (disch := omega) only [s_10_0, s_10_1, s_10_4, s_10_5, s_10_5x, s_10_6, s_10_7, s_10_10, s_10_11, s_10_14, s_10_15, s_10_18, s_10_19, s_10_20, s_10_23, s_10_26, s_10_27, s_10_30, s_10_31, s_10_31l, s_10_32, s_10_32x, s_10_33, s_10_34, s_10_35, s_10_36, s_10_37, s_10_40, s_10_41, s_10_42, s_10_43, s_10_44, s_10_47, s_10_48, s_10_49, s_10_50, s_10_53, s_10_56, s_10_59, s_10_60, s_10_61, s_10_64, e_10, mv_i_1, mv_l_1, mv_a_1, mv_a_2, mv_a_3, mk2_n, mk2_i, mk2_l, mk2_a, mk2_u, mk2_x, mB_T, mB_F, mS_cons, mS_nil, mSB_T, mSB_F, mca_nil, mca_i, mca_l, mca_r, mca_u, mca_x, mcat_i, mcat_l, mcat_r, mcat_u, mcat_x, mK_some, mK_none, va_rf_s, va_rf_n, lgc_eq, lgc_lt, lgc_gt, lgc_ge, lgc_le, mrd_104, mrd_105, mrd_106, mrd_107, true_and, and_true, and_self, false_and, and_false, true_or, or_true, false_or, or_false, not_true_eq_false, not_false_eq_true, mgb, mga, mgr, mN, reduceCtorEq, ↓reduceIte, eq_self, ge_iff_le, gt_iff_lt, hk_si, hk_sj, hk_sr, hl_si, hl_sj, hl_sr, hn_si, hn_sj, hn_sr, hs_si, hs_sj, hs_sr, hi_sj, hi_sr, hj_si, hj_sr, hr_si, hr_sj, hi_si, hj_sj, hr_sr, mg_si, mg_sj, mg_sr, Nat.reduceAdd, Nat.reduceMul, Nat.reduceSub, Nat.reduceLT, Nat.reduceGT, Nat.reduceEqDiff, Nat.reduceLeDiff, Nat.left_eq_add, Nat.add_eq_left, Nat.reduceMod, Nat.reduceDiv, Nat.succ_ne_self, g53, t16, g66, l66, e66, e2', nn_le, le, e1, t13, g63, g63', l63, e2, gO1, gO2, cs', e00, ei, t10, g60, l60, t11, g61, g61', l61, e3, gO3, c3, nn_mxT, nn_clamp]
    · obtain ⟨y1, y2, y3, y4, y5, y6⟩ := last (Or.inr (xiff.mp hx))
      refine ⟨hL, y1, y2, y3, y4, y5, y6, fun Q => ?_⟩
      have le : (2 ≤ t0) = False := eq_false (by omega)
      have e10 : ((1 : Int32) = 0) = False := by decide
      rw [hx] at cs'
      clear B k1 k2 s1 s2 F last xiff y1 y2 y3 y4 y5 y6 xL BL qL1 qL2
      simp (disch := omega) only [s_10_0, s_10_1, s_10_4, s_10_5, s_10_5x, s_10_6, s_10_7, s_10_10, s_10_11, s_10_14, s_10_15, s_10_18, s_10_19, s_10_20, s_10_23, s_10_26, s_10_27, s_10_30, s_10_31, s_10_31l, s_10_32, s_10_32x, s_10_33, s_10_34, s_10_35, s_10_36, s_10_37, s_10_40, s_10_41, s_10_42, s_10_43, s_10_44, s_10_47, s_10_48, s_10_49, s_10_50, s_10_53, s_10_56, s_10_59, s_10_60, s_10_61, s_10_64, e_10, mv_i_1, mv_l_1, mv_a_1, mv_a_2, mv_a_3, mk2_n, mk2_i, mk2_l, mk2_a, mk2_u, mk2_x, mB_T, mB_F, mS_cons, mS_nil, mSB_T, mSB_F, mca_nil, mca_i, mca_l, mca_r, mca_u, mca_x, mcat_i, mcat_l, mcat_r, mcat_u, mcat_x, mK_some, mK_none, va_rf_s, va_rf_n, lgc_eq, lgc_lt, lgc_gt, lgc_ge, lgc_le, mrd_104, mrd_105, mrd_106, mrd_107, true_and, and_true, and_self, false_and, and_false, true_or, or_true, false_or, or_false, not_true_eq_false, not_false_eq_true, mgb, mga, mgr, mN, reduceCtorEq, ↓reduceIte, eq_self, ge_iff_le, gt_iff_lt, hk_si, hk_sj, hk_sr, hl_si, hl_sj, hl_sr, hn_si, hn_sj, hn_sr, hs_si, hs_sj, hs_sr, hi_sj, hi_sr, hj_si, hj_sr, hr_si, hr_sj, hi_si, hj_sj, hr_sr, mg_si, mg_sj, mg_sr, Nat.reduceAdd, Nat.reduceMul, Nat.reduceSub, Nat.reduceLT, Nat.reduceGT, Nat.reduceEqDiff, Nat.reduceLeDiff, Nat.left_eq_add, Nat.add_eq_left, Nat.reduceMod, Nat.reduceDiv, Nat.succ_ne_self, g53, t16, g66, l66, e66, e2', nn_le, le, e1, t13, g63, g63', l63, e2, gO1, gO2, cs', e10, cL, nn_mxT, nn_clamp]
  · obtain ⟨y1, y2, y3, y4, y5, y6⟩ := last (Or.inl (by omega))
    refine ⟨hL, y1, y2, y3, y4, y5, y6, fun Q => ?_⟩
    have le : (2 ≤ t0) = True := eq_true (by omega)
    clear B k1 k2 s1 s2 F last xiff cs' y1 y2 y3 y4 y5 y6 xL BL qL1 qL2
    simp (disch := omega) only [s_10_0, s_10_1, s_10_4, s_10_5, s_10_5x, s_10_6, s_10_7, s_10_10, s_10_11, s_10_14, s_10_15, s_10_18, s_10_19, s_10_20, s_10_23, s_10_26, s_10_27, s_10_30, s_10_31, s_10_31l, s_10_32, s_10_32x, s_10_33, s_10_34, s_10_35, s_10_36, s_10_37, s_10_40, s_10_41, s_10_42, s_10_43, s_10_44, s_10_47, s_10_48, s_10_49, s_10_50, s_10_53, s_10_56, s_10_59, s_10_60, s_10_61, s_10_64, e_10, mv_i_1, mv_l_1, mv_a_1, mv_a_2, mv_a_3, mk2_n, mk2_i, mk2_l, mk2_a, mk2_u, mk2_x, mB_T, mB_F, mS_cons, mS_nil, mSB_T, mSB_F, mca_nil, mca_i, mca_l, mca_r, mca_u, mca_x, mcat_i, mcat_l, mcat_r, mcat_u, mcat_x, mK_some, mK_none, va_rf_s, va_rf_n, lgc_eq, lgc_lt, lgc_gt, lgc_ge, lgc_le, mrd_104, mrd_105, mrd_106, mrd_107, true_and, and_true, and_self, false_and, and_false, true_or, or_true, false_or, or_false, not_true_eq_false, not_false_eq_true, mgb, mga, mgr, mN, reduceCtorEq, ↓reduceIte, eq_self, ge_iff_le, gt_iff_lt, hk_si, hk_sj, hk_sr, hl_si, hl_sj, hl_sr, hn_si, hn_sj, hn_sr, hs_si, hs_sj, hs_sr, hi_sj, hi_sr, hj_si, hj_sr, hr_si, hr_sj, hi_si, hj_sj, hr_sr, mg_si, mg_sj, mg_sr, Nat.reduceAdd, Nat.reduceMul, Nat.reduceSub, Nat.reduceLT, Nat.reduceGT, Nat.reduceEqDiff, Nat.reduceLeDiff, Nat.left_eq_add, Nat.add_eq_left, Nat.reduceMod, Nat.reduceDiv, Nat.succ_ne_self, g53, t16, g66, l66, e66, e2', nn_le, le, cL, nn_mxT, nn_clamp]
end CLs
