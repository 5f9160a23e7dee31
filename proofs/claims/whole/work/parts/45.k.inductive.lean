set_option maxRecDepth 100000
/-! CHECKS: inductive -/
section CPa
variable {d : Nat} {h h1 h2 : mh_H} {s0 s1 o p q e0 br W f e : Nat} {E : nv} {D : fd} {w0 : wd} {G : pgm} {J : pin} {cl K : Nat → Option ab} {fst oth : Nat → Nat}
theorem in_s1 (Z : RZ h) (F : FT h D) (X : FX (mh_i h 93) (mh_i h 95) (mh_i h 97) D) (ek1 : mh_k h1 = mh_k h) (el1 : mh_l h1 = mh_l h) (en1 : mh_n h1 = mh_n h) (er1 : mh_r h1 = mh_r h) (ej1 : mh_j h1 = mh_j h) (ii : ∀ c j, ¬ c = 115 → mh_i h1 c j = mh_i h c j) (w : wW w0 = W) (hk0 : ∀ q, q < 250 → RK h (132 + 10 * q) (wK w0 q) ∧ mh_i h 118 q = wA w0 q) (hT : E.T = 0) (hE : ∀ v, ¬ E.sN v) (o11 : mh_i h1 115 11 = Int32.ofNat 0) (o18 : mh_i h1 115 18 = Int32.ofNat 0) (o20 : mh_i h1 115 20 = Int32.ofNat E.nu) (o21 : mh_i h1 115 21 = Int32.ofNat E.ar) (o14 : mh_i h1 115 14 = Int32.ofNat E.fu) (o22 : mh_i h1 115 22 = tkV E.ta) (o8 : mh_i h1 115 8 = Int32.ofNat W) (o9 : mh_i h1 115 9 = kb (decide (4000 < W))) : RA h1 0 E D w0 := by
  have z1 : fz (fun b _ => b = 115) h h1 := ⟨Nat.le_of_eq en1.symm, fun b _ => ⟨by rw [ek1], by rw [el1]⟩, fun b j _ nb => ⟨ii b j nb, by rw [ej1], by rw [er1]⟩⟩
  have row : ∀ b, b ≠ 115 → mh_i h1 b = mh_i h b := fun b nb => funext fun j => ii b j nb
  exact RA.of ⟨RZ_same Z ek1 el1 en1 (fun _ _ _ => by rw [er1]), ⟨by rw [hT]; exact o18, by rw [hT]; exact Nat.zero_le _, fun v hv => absurd hv (hE v)⟩, o11, o20, o21, o14, o22, by rw [w]; exact o8, by rw [w]; exact o9, fun q hq => ⟨RK_fz z1 (fun y hy j w => by omega) (hk0 q hq).1, (ii _ _ (by omega)).trans (hk0 q hq).2⟩, FT_same F ek1 el1 en1 er1 (fun c f hc _ => ii c f (by omega)), by rw [row 93 (by omega), row 95 (by omega), row 97 (by omega)]; exact X⟩
theorem in_s4 {hA : mh_H} {v : Int32} (Z : RZ h) (F : FT h D) (X : FX (mh_i h 93) (mh_i h 95) (mh_i h 97) D) (hv : Int32.ofNat (D.c - 1) = v) (eh : mh_si (mh_si hA 115 34 1) 115 35 250 = h1) (i : ∀ c j, ¬ (c = 115 ∧ (j = 11 ∨ j = 18 ∨ j = 19 ∨ j = 20 ∨ j = 21 ∨ j = 22 ∨ j = 14)) → mh_i hA c j = mh_i h c j) (ek : mh_k hA = mh_k h) (el : mh_l hA = mh_l h) (en' : mh_n hA = mh_n h) (er : mh_r hA = mh_r h) (ej : mh_j hA = mh_j h) (o11 : mh_i hA 115 11 = 0) (o18 : mh_i hA 115 18 = 0) (o20 : mh_i hA 115 20 = 0) (o21 : mh_i hA 115 21 = 0) (o22 : mh_i hA 115 22 = -1) (o14 : mh_i hA 115 14 = v) (x0 : rq 0 aZ h hA) (kK : ∀ q, q < 250 → RK h (132 + 10 * q) (K q)) (f8 : mh_i h 115 8 = Int32.ofNat W) (hW : W ≤ 4000) (f9 : mh_i h 115 9 = 0) : RA h1 0 (E00 D) D (K, fun q => mh_i h 118 q, W) ∧ rq 0 aZ h h1 ∧ fz (fun b _ => b = 115) h h1 ∧ (∀ b j, ¬ (b = 115 ∧ (j = 11 ∨ j = 18 ∨ j = 19 ∨ j = 20 ∨ j = 21 ∨ j = 22 ∨ j = 14 ∨ j = 34 ∨ j = 35)) → mh_i h1 b j = mh_i h b j) ∧ mh_i h1 115 34 = 1 ∧ mh_i h1 115 35 = Int32.ofNat 250 := by
  have i' : ∀ c j, ¬ (c = 115 ∧ (j = 34 ∨ j = 35)) → mh_i h1 c j = mh_i hA c j := fun c j hc => by rw [← eh, hi_si, if_neg (by omega), hi_si, if_neg (by omega)]
  have o34 : mh_i h1 115 34 = 1 := by rw [← eh, hi_si, if_neg (by omega), hi_si, if_pos ⟨rfl, rfl⟩]
  have o35 : mh_i h1 115 35 = 250 := by rw [← eh, hi_si, if_pos ⟨rfl, rfl⟩]
  have ek1 : mh_k h1 = mh_k h := by rw [← eh, hk_si, hk_si]; exact ek
  have el1 : mh_l h1 = mh_l h := by rw [← eh, hl_si, hl_si]; exact el
  have en1 : mh_n h1 = mh_n h := by rw [← eh, hn_si, hn_si]; exact en'
  have er1 : mh_r h1 = mh_r h := by
    funext b j
    rw [← eh, hr_si, hr_si, er]
  have ej1 : mh_j h1 = mh_j h := by
    funext b j
    rw [← eh, hj_si, hj_si, ej]
  have ia : ∀ c j, ¬ (c = 115 ∧ (j = 11 ∨ j = 18 ∨ j = 19 ∨ j = 20 ∨ j = 21 ∨ j = 22 ∨ j = 14 ∨ j = 34 ∨ j = 35)) → mh_i h1 c j = mh_i h c j := fun c j hc => (i' c j (by omega)).trans (i c j (by omega))
  have ii : ∀ c j, ¬ c = 115 → mh_i h1 c j = mh_i h c j := fun c j hc => ia c j (by omega)
  have z1 : fz (fun b _ => b = 115) h h1 := ⟨Nat.le_of_eq en1.symm, fun b _ => ⟨by rw [ek1], by rw [el1]⟩, fun b j _ nb => ⟨ii b j nb, by rw [ej1], by rw [er1]⟩⟩
  have x1 : rq 0 aZ hA h1 := by
    rw [← eh]
    exact rq_t (aZ_si (Or.inl ⟨rfl, by omega⟩)) (aZ_si (Or.inl ⟨rfl, by omega⟩))
  have z0 : Int32.ofNat 0 = (0 : Int32) := rfl
  have k9 : kb (decide (4000 < W)) = 0 := by rw [decide_eq_false (by omega)]; rfl
  have eT : (E00 D).T = 0 := rfl
  have en0 : (E00 D).nu = 0 := rfl
  have ea0 : (E00 D).ar = 0 := rfl
  have ef0 : (E00 D).fu = D.c - 1 := rfl
  have et0 : (E00 D).ta = none := rfl
  have es0 : ∀ v, ¬ (E00 D).sN v := fun v z => z
  have tv : tkV none = -1 := rfl
  have R1 : RA h1 0 (E00 D) D (K, fun q => mh_i h 118 q, W) := in_s1 (W := W) Z F X ek1 el1 en1 er1 ej1 ii rfl (fun q hq => ⟨kK q hq, rfl⟩) eT es0 (by rw [z0, i' _ _ (by omega)]; exact o11) (by rw [z0, i' _ _ (by omega)]; exact o18) (by rw [en0, z0, i' _ _ (by omega)]; exact o20) (by rw [ea0, z0, i' _ _ (by omega)]; exact o21) (by rw [ef0, hv, i' _ _ (by omega)]; exact o14) (by rw [et0, tv, i' _ _ (by omega)]; exact o22) ((ia _ _ (by omega)).trans f8) (by rw [k9]; exact (ia _ _ (by omega)).trans f9)
  exact ⟨R1, rq_t x0 x1, z1, ia, o34, o35⟩
theorem in_s3 {hA : mh_H} (g0 : mg h 115 12) (gA : mg hA 115 12) (c271 : ∀ Q, mcall d 271 [.ref 115] h Q = Q none hA) {x1 : Option Value} : ∀ Q, mw (d + 1) 275 Q 34 [some (.ref 115), x1] [] h = mw (d + 1) 275 Q 50 [some (.ref 115), x1] [] (mh_si (mh_si hA 115 34 1) 115 35 250) := fun Q => by
  have or11 : ((1 : Int32) = 0 ∨ (1 : Int32) = 1) = True := by decide
  rw [s_275_34]
  simp (disch := omega) only [s_275_0, s_275_1, s_275_4, s_275_7, s_275_9, s_275_10, s_275_11, s_275_14, s_275_15, s_275_16, s_275_19, s_275_22, s_275_24, s_275_25, s_275_26, s_275_29, s_275_32, s_275_33, s_275_35, s_275_38, s_275_39, s_275_40, s_275_43, s_275_44, s_275_47, s_275_51, s_275_54, s_275_54n, s_275_54x, s_275_55, s_275_56, s_275_59, s_275_60, s_275_61, s_275_62, s_275_65, s_275_68, s_275_69, s_275_70, s_275_73, s_275_74, s_275_75, s_275_76, s_275_79, s_275_80, s_275_81, s_275_84, s_275_85, s_275_88, s_275_91, s_275_94, s_275_95, s_275_98, s_275_99, s_275_102, e_275, mv_i_1, mv_l_1, mv_a_1, mv_a_2, mv_a_3, mk2_n, mk2_i, mk2_l, mk2_a, mk2_u, mk2_x, mB_T, mB_F, mS_cons, mS_nil, mSB_T, mSB_F, mca_nil, mca_i, mca_l, mca_r, mca_u, mca_x, mcat_i, mcat_l, mcat_r, mcat_u, mcat_x, mK_some, mK_none, va_rf_s, va_rf_n, lgc_eq, lgc_lt, lgc_gt, lgc_ge, lgc_le, mrd_104, mrd_105, mrd_106, mrd_107, true_and, and_true, and_self, false_and, and_false, true_or, or_true, false_or, or_false, not_true_eq_false, not_false_eq_true, mgb, mga, mgr, mN, reduceCtorEq, ↓reduceIte, eq_self, ge_iff_le, gt_iff_lt, hk_si, hk_sj, hk_sr, hl_si, hl_sj, hl_sr, hn_si, hn_sj, hn_sr, hs_si, hs_sj, hs_sr, hi_sj, hi_sr, hj_si, hj_sr, hr_si, hr_sj, hi_si, hj_sj, hr_sr, mg_si, mg_sj, mg_sr, Nat.reduceAdd, Nat.reduceMul, Nat.reduceSub, Nat.reduceLT, Nat.reduceGT, Nat.reduceEqDiff, Nat.reduceLeDiff, Nat.left_eq_add, Nat.add_eq_left, Nat.reduceMod, Nat.reduceDiv, Nat.succ_ne_self, g0, gA, c271, or11]
/-- its answer where there is something to check -/
theorem u_275 (Z : RZ h) (F : FT h D) (X : FX (mh_i h 93) (mh_i h 95) (mh_i h 97) D) (f13 : mh_i h 115 13 = Int32.ofNat D.c) (hc : 1 ≤ D.c) (hcl : D.c ≤ 100000) (kK : ∀ q, q < 250 → RK h (132 + 10 * q) (K q)) (kC : ∀ q, q ≤ e0 → RK h (137 + 10 * q) (cl q)) (fC : ∀ q, q < e0 → mh_i h (137 + 10 * q) 2 = Int32.ofNat (G.a q)) (cn : ∀ q, (q ≤ e0 ∨ (1000 ≤ q ∧ q < 1000 + e0)) → cnQ G h q) (f7 : mh_i h 115 7 = Int32.ofNat (e0 + 1)) (f8 : mh_i h 115 8 = Int32.ofNat W) (hW : W ≤ 4000) (f9 : mh_i h 115 9 = 0) (H : CHX G J e0 cl) (L : LW G J D f (D.t (D.c - 1)) 0 e0 (E00 D)) (U : SUC G fst oth f 0 e0 e0) (gz : G.n e0 = 0 ∧ G.a e0 = 0) (hn0 : cl 0 ≠ none) (hd : 4 * e0 + 850 ≤ d) : ∃ h' b', BRK (VI G cl fst oth) 0 e0 250 b' ∧ rq 0 aZ h h' ∧ RZ h' ∧ FT h' D ∧ (∀ q, q < 250 → RK h' (132 + 10 * q) (K q) ∧ mh_i h' 118 q = mh_i h 118 q) ∧ (∀ q, q ≤ e0 → RK h' (137 + 10 * q) (cl q)) ∧ (∀ q, q < 250 → ∀ y, RK h (137 + 10 * q) y → RK h' (137 + 10 * q) y) ∧ (∀ q, q < e0 → mh_i h' (137 + 10 * q) 2 = Int32.ofNat (G.a q)) ∧ (∀ q, (q ≤ e0 ∨ (1000 ≤ q ∧ q < 1000 + e0)) → cnQ G h' q) ∧ (mh_i h' 93 = mh_i h 93 ∧ mh_i h' 95 = mh_i h 95 ∧ mh_i h' 97 = mh_i h 97) ∧ (∀ j, j = 7 ∨ j = 8 ∨ j = 9 ∨ j = 13 → mh_i h' 115 j = mh_i h 115 j) ∧ mh_i h' 115 34 = 0 ∧ ∀ Q, mcall (d + 1) 275 [.ref 115] h Q = Q (some (.int (if b' = 250 then -1 else Int32.ofNat b'))) h' := by
  obtain ⟨d, rfl⟩ : ∃ d', d = d' + 2 := ⟨d - 2, by omega⟩
  have he := H.he
  have g0 : mg h 115 12 := Z.F.g 115 12 38 (by decide +kernel)
  obtain ⟨ek, el, en', er, ej⟩ := sth_o (h := h) (v := Int32.ofNat (D.c - 1))
  have gA : mg (stH h (Int32.ofNat (D.c - 1))) 115 12 := by unfold mg at g0 ⊢; rw [ek, en']; exact g0
  obtain ⟨h1, eh1⟩ : ∃ h1, mh_si (mh_si (stH h (Int32.ofNat (D.c - 1))) 115 34 1) 115 35 250 = h1 := ⟨_, rfl⟩
  obtain ⟨R1, x1, z1, i1, o34, o35⟩ := in_s4 (W := W) Z F X rfl eh1 (fun c j hc => sth_i hc) ek el en' er ej sth_11 sth_18 sth_20 sth_21 sth_22 sth_14 sth_x kK f8 hW f9
  have run1 := in_s3 (x1 := none) g0 gA (c_271 (d := d + 2) g0 f13 hc)
  rw [eh1] at run1
  have C1 : CKS h1 G e0 cl 250 := CKS.of ⟨o34, o35, Nat.le_refl _, fun q hq => RK_fz z1 (fun y hy j w => by omega) (kC q hq), fun q hq => (i1 _ _ (by omega)).trans (fC q hq), fun q hq => cn_i (cn q hq) (fun b j hb => i1 b j (by omega))⟩
  have J1 := R1.j
  obtain ⟨h2, o, x2, J2, f2, i2, -, ko2, run2⟩ := t_226 (d := d + 1) J1 (k := 0) R1.s (by omega)
  have R2 := RA_q R1 vF x2 J2 i2
  have so : sp h2 o := ⟨_, f2⟩
  have lo := sp_lo J2 so
  have C2 : CKS h2 G e0 cl 250 := ck_t C1 R1 lo he (sV_F (o := o) (T := 0) x2 (Nat.le_refl _)) (fun q w => cn_q R1 vF x2 w) (ck_35 J1.a.g (by decide) run2)
  obtain ⟨h3, x3, k3, run3⟩ := k_280 (d := d + 2) (A := A00) ko2 rfl rfl
  have R3 := ra_k R2 so x3 (RK_ko k3)
  have y3 : rq 0 (sV o 0) h2 h3 := sV_k (s0 := 0) R2 so x3
  have C3 : CKS h3 G e0 cl 250 := ck_t C2 R2 lo he y3 (fun q w => cn_k R2 so x3 w) (rs_ij J2 so x3 35)
  have er3 : mh_r h3 = mh_r h2 := x3.2.2.1
  have f3 : mh_r h3 119 0 = some o := by rw [er3]; exact f2
  have sh0 : shp (E00 D).nu (E00 D).ar (E00 D).rm (some A00) := fun B hB => by
    cases hB
    exact ⟨A00_T, rfl, rfl, fun x hx => absurd hx (Nat.not_lt_zero _)⟩
  have S3 : SC h3 1 o (E00 D) D (K, fun q => mh_i h 118 q, W) G e0 cl 250 := SC.of ⟨R3, ⟨0, by omega, f3⟩, ⟨_, k3, sh0⟩, ⟨Nat.zero_le _, Nat.zero_le _⟩, C3, hW⟩
  have hgc : D.c - 1 < D.c := by omega
  obtain ⟨y1, -, -, -, y5, y6⟩ := R3.X (D.c - 1) hgc
  have cb := u_256 (d := d + 2) R3.j R3.F R3.X (g := D.c - 1) hgc
  have en0 : (E00 D).nu = 0 := rfl
  have ea0 : (E00 D).ar = 0 := rfl
  have o4 : 1 + 3 * (e0 - 0) + 360 ≤ 2048 := by omega
  have o5 : 4 * (e0 - 0) + 840 ≤ d + 2 := by omega
  obtain ⟨h4, b', x4, S4, brk, run4⟩ := (blkc_all (D := D) (fst := fst) (oth := oth) H f).1 (D.t (D.c - 1)) 0 e0 (E00 D) L (d + 2) (D.b (D.c - 1)) 1 o e0 h3 _ 250 U (Nat.le_refl _) (Nat.le_refl _) ⟨by rw [gz.1]; exact Nat.zero_le _, by rw [gz.2]; exact Nat.zero_le _⟩ S3 y6 y1 y5 o4 o5
  have x34 : rq 0 aZ h3 h4 := aZ_sV x4 (by omega) ⟨0, Nat.le_refl _, f3⟩
  have x12 : rq 0 aZ h1 h2 := rq_w x2 (Nat.le_refl _) (fun _ _ _ w => absurd w (fun z => z))
  have x23 : rq 0 aZ h2 h3 := aZ_sV y3 (Nat.le_refl _) ⟨0, Nat.le_refl _, f2⟩
  have g3 := R3.j.a.g
  have g1 := J1.a.g
  have ff : ∀ j, j = 7 ∨ j = 13 → mh_i h3 115 j = mh_i h 115 j := fun j hj => by
    rw [rs_ij J2 so x3 j, (rq_lo J1 vF x2 g1 (by omega) (by omega) (by omega)).1]
    exact i1 _ _ (by omega)
  have ff4 : ∀ j, j = 7 ∨ j = 13 → mh_i h4 115 j = mh_i h 115 j := fun j hj => ((sV_lo R3.j lo x4 g3 (by omega) (by omega) (by omega)).1).trans (ff j hj)
  have k9 : kb (decide (4000 < W)) = 0 := by rw [decide_eq_false (by omega)]; rfl
  have i5 : ∀ b j, ¬ (b = 115 ∧ j = 34) → mh_i (mh_si h4 115 34 0) b j = mh_i h4 b j := fun b j hb => by rw [hi_si, if_neg hb]
  have z5 : fz (fun b _ => b = 115) h4 (mh_si h4 115 34 0) := fz_si rfl
  have b35 := S4.C.b
  have bl := S4.C.l
  obtain ⟨t1, t2, t3⟩ := rq_tr J1 vF x2
  obtain ⟨u1, u2, u3⟩ := rs_tr J2 (vK_1 so) (rs_k x3)
  obtain ⟨v1, v2, v3⟩ := sV_tr R3.j lo x4
  have row : ∀ b, b ≠ 115 → mh_i h1 b = mh_i h b := fun b nb => funext fun j => i1 b j (by omega)
  have row5 : ∀ b, b ≠ 115 → mh_i (mh_si h4 115 34 0) b = mh_i h4 b := fun b nb => funext fun j => i5 b j (by omega)
  refine ⟨mh_si h4 115 34 0, b', brk, rq_t x1 (rq_t x12 (rq_t x23 (rq_t x34 (aZ_si (Or.inl ⟨rfl, by omega⟩))))), RZ_same S4.A.Z rfl rfl rfl (fun _ _ _ => rfl), FT_same S4.A.F rfl rfl rfl rfl (fun c f hc _ => i5 c f (by omega)), fun q hq => ⟨RK_fz z5 (fun y hy j w => by omega) (S4.A.k q hq).1, (i5 _ _ (by omega)).trans (S4.A.k q hq).2⟩, fun q hq => RK_fz z5 (fun y hy j w => by omega) (S4.C.c q hq), fun q hq y r => RK_fz z5 (fun y hy j w => by omega) (cl_sV (E := E00 D) R3.j lo x4 hq (cl_sV (E := E00 D) R2.j lo y3 hq (cl_sV (E := E00 D) R1.j lo (sV_F (o := o) (T := 0) x2 (Nat.le_refl _)) hq (RK_fz z1 (fun y hy j w => by omega) r)))), fun q hq => (i5 _ _ (by omega)).trans (S4.C.f q hq), fun q hq => cn_i (S4.C.n q hq) (fun b j hb => i5 b j (by omega)), ⟨?_, ?_, ?_⟩, fun j hj => ?_, by rw [hi_si, if_pos ⟨rfl, rfl⟩], fun Q => ?_⟩
  · rw [row5 93 (by omega), v1, u1, t1, row 93 (by omega)]
  · rw [row5 95 (by omega), v2, u2, t2, row 95 (by omega)]
  · rw [row5 97 (by omega), v3, u3, t3, row 97 (by omega)]
  · rw [i5 _ _ (by omega)]
    have hj' : (j = 7 ∨ j = 13) ∨ j = 8 ∨ j = 9 := by omega
    rcases hj' with hj' | hj' | hj'
    · exact ff4 j hj'
    · rw [hj', f8]; exact S4.A.w
    · rw [hj', f9, S4.A.m]; exact k9
  · have f7' : mh_i h3 115 7 = Int32.ofNat (e0 + 1) := (ff 7 (by omega)).trans f7
    have es : Int32.ofNat (e0 + 1) - 1 = Int32.ofNat e0 := nn_sub (a := e0 + 1) (b := 1) (by omega)
    have o14 : mh_i h3 115 14 = Int32.ofNat (D.c - 1) := R3.f
    have g4 := S4.A.j.a.g
    have g5 : mg (mh_si h4 115 34 0) 115 12 := g4
    have go2 := ko2.1
    have z00 : (0 : Int32) = Int32.ofNat 0 := rfl
    have F0 := Z.F
    have t5 := F0.f 115 5 117 (by decide +kernel)
    have g117 := (F0.g 117 106 250 (by decide +kernel)).1
    have g117' := (F0.g 117 106 250 (by decide +kernel)).2
    have l117 := F0.l 117 106 250 (by decide +kernel)
    have p4 := (F0.p 0 (by omega)).2.2.2
    have k0 := kC 0 (Nat.zero_le _)
    have gc0 : mg h 137 13 := (RK_ko k0).1
    have zc : mh_i h 137 0 = 0 := by
      cases hc0 : cl 0 with
      | none => exact absurd hc0 hn0
      | some A => rw [hc0] at k0; exact KM.z k0
    have p4' : mh_r h 117 0 = some 137 := p4
    have mx0 : mx (0 : Int32) 250 = True := nn_mxT (a := 0) (n := 250) (by omega) (by omega)
    have cl0 : (0 : Int32).toNatClampNeg = 0 := rfl
    have e00 : ((0 : Int32) = 0) = True := by decide
    have e10 : ((1 : Int32) = 0) = False := by decide
    have or00 : ((0 : Int32) = 0 ∨ (0 : Int32) = 1) = True := by decide
    have nz13 : (Int32.ofNat D.c = 0) = False := eq_false (fun z => by
      have z' : Int32.ofNat D.c = Int32.ofNat 0 := z
      have := (nn_eq (by omega) (by omega)).mp z'
      omega)
    have i35 : mh_i (mh_si h4 115 34 0) 115 35 = Int32.ofNat b' := (i5 _ _ (by omega)).trans b35
    have E0 : mcall (d + 3) 275 [.ref 115] h Q = mw (d + 3) 275 Q 34 [some (.ref 115), none] [] h := by
      clear Z F X kK kC fC cn H L U R1 R2 R3 S3 S4 C1 C2 C3 J1 J2 x1 x2 x3 x4 x12 x23 x34 y3 k3 k0 brk i1 z1 i5 z5 row row5 ff ff4 run1 run2 run3 run4 cb y6 F0
      simp (disch := omega) only [s_275_0, s_275_1, s_275_4, s_275_7, s_275_9, s_275_10, s_275_11, s_275_14, s_275_15, s_275_16, s_275_19, s_275_22, s_275_24, s_275_25, s_275_26, s_275_29, s_275_32, s_275_33, s_275_35, s_275_38, s_275_39, s_275_40, s_275_43, s_275_44, s_275_47, s_275_50, s_275_51, s_275_54, s_275_54n, s_275_54x, s_275_55, s_275_56, s_275_59, s_275_60, s_275_61, s_275_62, s_275_65, s_275_68, s_275_69, s_275_70, s_275_73, s_275_74, s_275_75, s_275_76, s_275_79, s_275_80, s_275_81, s_275_84, s_275_85, s_275_88, s_275_91, s_275_94, s_275_95, s_275_98, s_275_99, s_275_102, e_275, mv_i_1, mv_l_1, mv_a_1, mv_a_2, mv_a_3, mk2_n, mk2_i, mk2_l, mk2_a, mk2_u, mk2_x, mB_T, mB_F, mS_cons, mS_nil, mSB_T, mSB_F, mca_nil, mca_i, mca_l, mca_r, mca_u, mca_x, mcat_i, mcat_l, mcat_r, mcat_u, mcat_x, mK_some, mK_none, va_rf_s, va_rf_n, lgc_eq, lgc_lt, lgc_gt, lgc_ge, lgc_le, mrd_104, mrd_105, mrd_106, mrd_107, true_and, and_true, and_self, false_and, and_false, true_or, or_true, false_or, or_false, not_true_eq_false, not_false_eq_true, mgb, mga, mgr, mN, reduceCtorEq, ↓reduceIte, eq_self, ge_iff_le, gt_iff_lt, Nat.reduceAdd, Nat.reduceMul, Nat.reduceSub, Nat.reduceLT, Nat.reduceGT, Nat.reduceEqDiff, Nat.reduceLeDiff, Nat.left_eq_add, Nat.add_eq_left, Nat.reduceMod, Nat.reduceDiv, Nat.succ_ne_self, g0, f9, e00, t5, g117, g117', l117, p4', gc0, zc, f13, nz13, mx0, cl0]
    rw [E0, run1]
    have run4' : ∀ Q, mcall (d + 2) 257 [.ref 115, .int (Int32.ofNat (D.b (D.c - 1))), .int 0, .int (Int32.ofNat e0), .ref o] h3 Q = Q none h4 := run4
    by_cases hb : b' = 250
    · rw [if_pos hb]
      have e250 : (Int32.ofNat b' = 250) = True := eq_true (by rw [hb]; rfl)
      clear Z F X kK kC fC cn H L U R1 R2 R3 S3 S4 C1 C2 C3 J1 J2 x1 x2 x3 x4 x12 x23 x34 y3 k3 k0 brk i1 z1 i5 z5 row row5 ff ff4 run1 run4 y6 F0 E0
      rw [s_275_50]
      simp (disch := omega) only [s_275_0, s_275_1, s_275_4, s_275_7, s_275_9, s_275_10, s_275_11, s_275_14, s_275_15, s_275_16, s_275_19, s_275_22, s_275_24, s_275_25, s_275_26, s_275_29, s_275_32, s_275_33, s_275_34, s_275_35, s_275_38, s_275_39, s_275_40, s_275_43, s_275_44, s_275_47, s_275_51, s_275_54, s_275_54n, s_275_54x, s_275_55, s_275_56, s_275_59, s_275_60, s_275_61, s_275_62, s_275_65, s_275_68, s_275_69, s_275_70, s_275_73, s_275_74, s_275_75, s_275_76, s_275_79, s_275_80, s_275_81, s_275_84, s_275_85, s_275_88, s_275_91, s_275_94, s_275_95, s_275_98, s_275_99, s_275_102, e_275, mv_i_1, mv_l_1, mv_a_1, mv_a_2, mv_a_3, mk2_n, mk2_i, mk2_l, mk2_a, mk2_u, mk2_x, mB_T, mB_F, mS_cons, mS_nil, mSB_T, mSB_F, mca_nil, mca_i, mca_l, mca_r, mca_u, mca_x, mcat_i, mcat_l, mcat_r, mcat_u, mcat_x, mK_some, mK_none, va_rf_s, va_rf_n, lgc_eq, lgc_lt, lgc_gt, lgc_ge, lgc_le, mrd_104, mrd_105, mrd_106, mrd_107, true_and, and_true, and_self, false_and, and_false, true_or, or_true, false_or, or_false, not_true_eq_false, not_false_eq_true, mgb, mga, mgr, mN, reduceCtorEq, ↓reduceIte, eq_self, ge_iff_le, gt_iff_lt, Nat.reduceAdd, Nat.reduceMul, Nat.reduceSub, Nat.reduceLT, Nat.reduceGT, Nat.reduceEqDiff, Nat.reduceLeDiff, Nat.left_eq_add, Nat.add_eq_left, Nat.reduceMod, Nat.reduceDiv, Nat.succ_ne_self, g1, g3, g4, g5, go2, run2, run3, o14, cb, f7', es, run4', or00, i35, e250]
    · rw [if_neg hb]
      have e250 : (Int32.ofNat b' = 250) = False := eq_false (fun z => by
        have z' : Int32.ofNat b' = Int32.ofNat 250 := z
        exact hb ((nn_eq (by omega) (by omega)).mp z'))
      clear Z F X kK kC fC cn H L U R1 R2 R3 S3 S4 C1 C2 C3 J1 J2 x1 x2 x3 x4 x12 x23 x34 y3 k3 k0 brk i1 z1 i5 z5 row row5 ff ff4 run1 run4 y6 F0 E0
      rw [s_275_50]
      simp (disch := omega) only [s_275_0, s_275_1, s_275_4, s_275_7, s_275_9, s_275_10, s_275_11, s_275_14, s_275_15, s_275_16, s_275_19, s_275_22, s_275_24, s_275_25, s_275_26, s_275_29, s_275_32, s_275_33, s_275_34, s_275_35, s_275_38, s_275_39, s_275_40, s_275_43, s_275_44, s_275_47, s_275_51, s_275_54, s_275_54n, s_275_54x, s_275_55, s_275_56, s_275_59, s_275_60, s_275_61, s_275_62, s_275_65, s_275_68, s_275_69, s_275_70, s_275_73, s_275_74, s_275_75, s_275_76, s_275_79, s_275_80, s_275_81, s_275_84, s_275_85, s_275_88, s_275_91, s_275_94, s_275_95, s_275_98, s_275_99, s_275_102, e_275, mv_i_1, mv_l_1, mv_a_1, mv_a_2, mv_a_3, mk2_n, mk2_i, mk2_l, mk2_a, mk2_u, mk2_x, mB_T, mB_F, mS_cons, mS_nil, mSB_T, mSB_F, mca_nil, mca_i, mca_l, mca_r, mca_u, mca_x, mcat_i, mcat_l, mcat_r, mcat_u, mcat_x, mK_some, mK_none, va_rf_s, va_rf_n, lgc_eq, lgc_lt, lgc_gt, lgc_ge, lgc_le, mrd_104, mrd_105, mrd_106, mrd_107, true_and, and_true, and_self, false_and, and_false, true_or, or_true, false_or, or_false, not_true_eq_false, not_false_eq_true, mgb, mga, mgr, mN, reduceCtorEq, ↓reduceIte, eq_self, ge_iff_le, gt_iff_lt, Nat.reduceAdd, Nat.reduceMul, Nat.reduceSub, Nat.reduceLT, Nat.reduceGT, Nat.reduceEqDiff, Nat.reduceLeDiff, Nat.left_eq_add, Nat.add_eq_left, Nat.reduceMod, Nat.reduceDiv, Nat.succ_ne_self, g1, g3, g4, g5, go2, run2, run3, o14, cb, f7', es, run4', or00, i35, e250]
/-- where it is too much, where nothing is claimed at the start, where no program is -/
theorem u_275x (Z : RF h) {Y : Option ab} (k0 : RK h 137 Y) {m : Bool} (f9 : mh_i h 115 9 = kb m) (hx : m = true ∨ Y = none ∨ mh_i h 115 13 = 0) : ∀ Q, mcall d 275 [.ref 115] h Q = Q (some (.int (if m = true then -3 else if Y = none then -2 else -1))) h := fun Q => by
  have g0 : mg h 115 12 := Z.g 115 12 38 (by decide +kernel)
  have F0 := Z
  have t5 := F0.f 115 5 117 (by decide +kernel)
  have g117 := (F0.g 117 106 250 (by decide +kernel)).1
  have g117' := (F0.g 117 106 250 (by decide +kernel)).2
  have l117 := F0.l 117 106 250 (by decide +kernel)
  have p4' : mh_r h 117 0 = some 137 := (F0.p 0 (by omega)).2.2.2
  have gc0 : mg h 137 13 := (RK_ko k0).1
  have mx0 : mx (0 : Int32) 250 = True := nn_mxT (a := 0) (n := 250) (by omega) (by omega)
  have cl0 : (0 : Int32).toNatClampNeg = 0 := rfl
  have e00 : ((0 : Int32) = 0) = True := by decide
  have e10 : ((1 : Int32) = 0) = False := by decide
  have k1 : kb true = 1 := rfl
  have k0' : kb false = 0 := rfl
  cases m with
  | true =>
    rw [if_pos rfl]
    rw [k1] at f9
    clear Z F0 k0
    simp (disch := omega) only [s_275_0, s_275_1, s_275_4, s_275_7, s_275_9, s_275_10, s_275_11, s_275_14, s_275_15, s_275_16, s_275_19, s_275_22, s_275_24, s_275_25, s_275_26, s_275_29, s_275_32, s_275_33, s_275_34, s_275_35, s_275_38, s_275_39, s_275_40, s_275_43, s_275_44, s_275_47, s_275_50, s_275_51, s_275_54, s_275_54n, s_275_54x, s_275_55, s_275_56, s_275_59, s_275_60, s_275_61, s_275_62, s_275_65, s_275_68, s_275_69, s_275_70, s_275_73, s_275_74, s_275_75, s_275_76, s_275_79, s_275_80, s_275_81, s_275_84, s_275_85, s_275_88, s_275_91, s_275_94, s_275_95, s_275_98, s_275_99, s_275_102, e_275, mv_i_1, mv_l_1, mv_a_1, mv_a_2, mv_a_3, mk2_n, mk2_i, mk2_l, mk2_a, mk2_u, mk2_x, mB_T, mB_F, mS_cons, mS_nil, mSB_T, mSB_F, mca_nil, mca_i, mca_l, mca_r, mca_u, mca_x, mcat_i, mcat_l, mcat_r, mcat_u, mcat_x, mK_some, mK_none, va_rf_s, va_rf_n, lgc_eq, lgc_lt, lgc_gt, lgc_ge, lgc_le, mrd_104, mrd_105, mrd_106, mrd_107, true_and, and_true, and_self, false_and, and_false, true_or, or_true, false_or, or_false, not_true_eq_false, not_false_eq_true, mgb, mga, mgr, mN, reduceCtorEq, ↓reduceIte, eq_self, ge_iff_le, gt_iff_lt, Nat.reduceAdd, Nat.reduceMul, Nat.reduceSub, Nat.reduceLT, Nat.reduceGT, Nat.reduceEqDiff, Nat.reduceLeDiff, Nat.left_eq_add, Nat.add_eq_left, Nat.reduceMod, Nat.reduceDiv, Nat.succ_ne_self, g0, f9, e10]
  | false =>
    rw [if_neg (by decide)]
    rw [k0'] at f9
    cases Y with
    | none =>
      rw [if_pos rfl]
      have zc : mh_i h 137 0 = 1 := KN.z k0
      clear Z F0 k0
      simp (disch := omega) only [s_275_0, s_275_1, s_275_4, s_275_7, s_275_9, s_275_10, s_275_11, s_275_14, s_275_15, s_275_16, s_275_19, s_275_22, s_275_24, s_275_25, s_275_26, s_275_29, s_275_32, s_275_33, s_275_34, s_275_35, s_275_38, s_275_39, s_275_40, s_275_43, s_275_44, s_275_47, s_275_50, s_275_51, s_275_54, s_275_54n, s_275_54x, s_275_55, s_275_56, s_275_59, s_275_60, s_275_61, s_275_62, s_275_65, s_275_68, s_275_69, s_275_70, s_275_73, s_275_74, s_275_75, s_275_76, s_275_79, s_275_80, s_275_81, s_275_84, s_275_85, s_275_88, s_275_91, s_275_94, s_275_95, s_275_98, s_275_99, s_275_102, e_275, mv_i_1, mv_l_1, mv_a_1, mv_a_2, mv_a_3, mk2_n, mk2_i, mk2_l, mk2_a, mk2_u, mk2_x, mB_T, mB_F, mS_cons, mS_nil, mSB_T, mSB_F, mca_nil, mca_i, mca_l, mca_r, mca_u, mca_x, mcat_i, mcat_l, mcat_r, mcat_u, mcat_x, mK_some, mK_none, va_rf_s, va_rf_n, lgc_eq, lgc_lt, lgc_gt, lgc_ge, lgc_le, mrd_104, mrd_105, mrd_106, mrd_107, true_and, and_true, and_self, false_and, and_false, true_or, or_true, false_or, or_false, not_true_eq_false, not_false_eq_true, mgb, mga, mgr, mN, reduceCtorEq, ↓reduceIte, eq_self, ge_iff_le, gt_iff_lt, Nat.reduceAdd, Nat.reduceMul, Nat.reduceSub, Nat.reduceLT, Nat.reduceGT, Nat.reduceEqDiff, Nat.reduceLeDiff, Nat.left_eq_add, Nat.add_eq_left, Nat.reduceMod, Nat.reduceDiv, Nat.succ_ne_self, g0, f9, e00, e10, t5, g117, g117', l117, p4', gc0, zc, mx0, cl0]
    | some A =>
      rw [if_neg (fun z => by cases z)]
      have zc : mh_i h 137 0 = 0 := KM.z k0
      have f13 : mh_i h 115 13 = 0 := hx.elim (fun z => by cases z) (fun z => z.elim (fun y => by cases y) (fun y => y))
      clear Z F0 k0 hx
      simp (disch := omega) only [s_275_0, s_275_1, s_275_4, s_275_7, s_275_9, s_275_10, s_275_11, s_275_14, s_275_15, s_275_16, s_275_19, s_275_22, s_275_24, s_275_25, s_275_26, s_275_29, s_275_32, s_275_33, s_275_34, s_275_35, s_275_38, s_275_39, s_275_40, s_275_43, s_275_44, s_275_47, s_275_50, s_275_51, s_275_54, s_275_54n, s_275_54x, s_275_55, s_275_56, s_275_59, s_275_60, s_275_61, s_275_62, s_275_65, s_275_68, s_275_69, s_275_70, s_275_73, s_275_74, s_275_75, s_275_76, s_275_79, s_275_80, s_275_81, s_275_84, s_275_85, s_275_88, s_275_91, s_275_94, s_275_95, s_275_98, s_275_99, s_275_102, e_275, mv_i_1, mv_l_1, mv_a_1, mv_a_2, mv_a_3, mk2_n, mk2_i, mk2_l, mk2_a, mk2_u, mk2_x, mB_T, mB_F, mS_cons, mS_nil, mSB_T, mSB_F, mca_nil, mca_i, mca_l, mca_r, mca_u, mca_x, mcat_i, mcat_l, mcat_r, mcat_u, mcat_x, mK_some, mK_none, va_rf_s, va_rf_n, lgc_eq, lgc_lt, lgc_gt, lgc_ge, lgc_le, mrd_104, mrd_105, mrd_106, mrd_107, true_and, and_true, and_self, false_and, and_false, true_or, or_true, false_or, or_false, not_true_eq_false, not_false_eq_true, mgb, mga, mgr, mN, reduceCtorEq, ↓reduceIte, eq_self, ge_iff_le, gt_iff_lt, Nat.reduceAdd, Nat.reduceMul, Nat.reduceSub, Nat.reduceLT, Nat.reduceGT, Nat.reduceEqDiff, Nat.reduceLeDiff, Nat.left_eq_add, Nat.add_eq_left, Nat.reduceMod, Nat.reduceDiv, Nat.succ_ne_self, g0, f9, e00, t5, g117, g117', l117, p4', gc0, zc, f13, mx0, cl0]
end CPa
