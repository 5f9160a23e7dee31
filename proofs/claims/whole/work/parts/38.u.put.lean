set_option maxRecDepth 100000
/-! Effect.putAside, whole -/
section PUw
variable {d : Nat} {h : mh_H} {P R lP Y C E TT UU SC SP nC nE nS nb na Ho Fa Be n : Nat}
theorem c_98 {b : Nat} {Q : Option Value → mh_H → Prop} (g : mg h 35 5) (gb : mg h b 8) : mcall d 98 [.ref 35, .ref b] h Q = Q none (mh_sr h 35 1 (some b)) := by
  simp (disch := omega) only [s_98_0, s_98_1, s_98_2, s_98_2n, s_98_5, e_98, mv_i_1, mv_l_1, mv_a_1, mv_a_2, mv_a_3, mk2_n, mk2_i, mk2_l, mk2_a, mk2_u, mk2_x, mB_T, mB_F, mS_cons, mS_nil, mSB_T, mSB_F, mca_nil, mca_i, mca_l, mca_r, mca_u, mca_x, mcat_i, mcat_l, mcat_r, mcat_u, mcat_x, mK_some, mK_none, va_rf_s, va_rf_n, lgc_eq, lgc_lt, lgc_gt, lgc_ge, lgc_le, mrd_104, mrd_105, mrd_106, mrd_107, true_and, and_true, and_self, false_and, and_false, true_or, or_true, false_or, or_false, not_true_eq_false, not_false_eq_true, mgb, mga, mgr, mN, reduceCtorEq, ↓reduceIte, eq_self, ge_iff_le, gt_iff_lt, hk_si, hk_sj, hk_sr, hl_si, hl_sj, hl_sr, hn_si, hn_sj, hn_sr, hs_si, hs_sj, hs_sr, hi_sj, hi_sr, hj_si, hj_sr, hr_si, hr_sj, hi_si, hj_sj, hr_sr, mg_si, mg_sj, mg_sr, Nat.reduceAdd, Nat.reduceMul, Nat.reduceSub, Nat.reduceLT, Nat.reduceGT, Nat.reduceEqDiff, Nat.reduceLeDiff, Nat.left_eq_add, Nat.add_eq_left, Nat.reduceMod, Nat.reduceDiv, Nat.succ_ne_self, g, gb]
theorem v_19 (V : SV h P R lP Y C E TT UU SC SP nC nE nS nb na Ho Fa Be n) (hn : n < 122) (hN : 2644 ≤ mh_n h) : ∃ h' Sp, sS n P R h h' ∧ SV h' P R lP Y C E TT UU SC SP nC nE nS nb na Sp Be Fa (n + 1) ∧ mh_r h' 51 n = some Ho ∧ (∀ i, i ≠ n → mh_r h' 51 i = mh_r h 51 i) ∧ (∀ o v, cs h o → RS h o v → RS h' o v) ∧ mh_i h' 35 4 = mh_i h 35 4 ∧ ∀ Q, mcall (d + 1) 19 [.ref 34] h Q = Q none h' := by
  have g : mg h 34 1 := V.F.g 34 1 9 (by decide +kernel)
  have g5 : mg h 35 5 := V.F.g 35 5 19 (by decide +kernel)
  have q1 : mh_r h 34 1 = some 35 := V.F.f 34 1 35 (by decide +kernel)
  have r5 : mh_r h 34 5 = some 51 := V.F.f 34 5 51 (by decide +kernel)
  have g51 : mg h 51 104 := V.F.g 51 104 122 (by decide +kernel)
  have l51 : mh_l h 51 = 122 := V.F.l 51 104 122 (by decide +kernel)
  have g511 := g51.1
  have g512 := g51.2
  have a6 := V.a6
  have r2 := V.h2
  have r3 := V.h3
  have r4 := V.h4
  have cH : cs h Ho := ⟨34, 2, Or.inl ⟨rfl, by omega⟩, V.h2⟩
  have cF : cs h Fa := ⟨34, 3, Or.inl ⟨rfl, by omega⟩, V.h3⟩
  have cB : cs h Be := ⟨34, 4, Or.inl ⟨rfl, by omega⟩, V.h4⟩
  have gH := (cs_so V.S cH).1.1
  have gF := (cs_so V.S cF).1.1
  have gB := (cs_so V.S cB).1.1
  have p51 : isPl 51 n := Or.inr (Or.inl rfl)
  have ei : ∀ k, Int32.ofNat k + 1 = Int32.ofNat (k + 1) := fun k => nn_add (a := k) (b := 1)
  have ac : me_ac 104 = 8 := by decide
  have n73 := (V.F.g 73 104 250 (by decide +kernel)).2
  cases hr : mh_r h 51 n with
  | some Sp =>
    have cS : cs h Sp := ⟨51, n, p51, hr⟩
    have gS := (cs_so V.S cS).1.1
    have f0 : fG (fun b j => b = 34 ∧ j = 6) h (mh_si h 34 6 (Int32.ofNat (n + 1))) := fG_si ⟨rfl, rfl⟩
    have V0 := SV_fG (m := n + 1) f0 (by omega) (by omega) V (by rw [hi_si, if_pos ⟨rfl, rfl⟩])
    obtain ⟨V1, cc⟩ := put_r (n := n) V0 (so_fG f0 (cs_so V.S cS).1) (cs_so V.S cS).2 (fun b j p e => V.S.i b j 51 n Sp p p51 e hr) (V.p.s Sp cS)
    have x := pu_o (h := mh_si h 34 6 (Int32.ofNat (n + 1))) (n := n) (Ho := Ho) (Fa := Fa) (Be := Be) (Sp := Sp)
    have o51 : ∀ i, i ≠ n → mh_r (puH (mh_si h 34 6 (Int32.ofNat (n + 1))) n Ho Fa Be Sp) 51 i = mh_r h 51 i := fun i hi => pu_r (h := mh_si h 34 6 (Int32.ofNat (n + 1))) (by omega)
    refine ⟨puH (mh_si h 34 6 (Int32.ofNat (n + 1))) n Ho Fa Be Sp, Sp, ⟨fD_t (fD_w (fG_D f0 (fun Z hZ w => ?_)) (fun b j _ w => Or.inl ⟨w.1, by omega⟩)) (rO_D x (fun b j w ne => ?_) ?_), fun o w => Or.inl ?_⟩, V1, pu_n, o51, fun o v c k => rO_RS x (cs_so V.S c).2 (RS_fz (fG_z f0) (fun y hy j w => ?_) k), ?_, fun Q => ?_⟩
    · have := V.q.n Y (by simp)
      rw [V.y] at hZ
      cases hZ
      omega
    · by_cases q : (b = 34 ∧ (j = 2 ∨ j = 3 ∨ j = 4)) ∨ (b = 35 ∧ j = 1) ∨ (b = 51 ∧ j = n)
      · rcases q with q | q | q
        · exact Or.inl ⟨q.1, by omega⟩
        · exact Or.inr (Or.inl ⟨q.1, by omega⟩)
        · exact Or.inr (Or.inr (Or.inr (Or.inr (Or.inr (Or.inr (Or.inr (Or.inl ⟨q.1, by omega⟩)))))))
      · exact absurd (pu_r q) ne
    · refine Nat.le_of_eq (n64_cong _ (fun i _ => ?_))
      by_cases q : i = n
      · rw [q, pu_n]
        show (mh_r h 51 n).isSome = true
        rw [hr]; rfl
      · rw [o51 i q]; rfl
    · rcases w with w | w | w | ⟨i, i1, w⟩
      · rw [pu_2] at w; cases w; exact Or.inr (Or.inr (Or.inr ⟨n, Nat.le_refl _, hr⟩))
      · rw [pu_3] at w; cases w; exact Or.inr (Or.inr (Or.inl r4))
      · rw [pu_4] at w; cases w; exact Or.inr (Or.inl r3)
      · by_cases q : i = n
        · rw [q, pu_n] at w; cases w; exact Or.inl r2
        · rw [o51 i q] at w; exact Or.inr (Or.inr (Or.inr ⟨i, i1, w⟩))
    · have a := (cs_so V.S c).2
      unfold cAd at a
      omega
    · rw [x.ei, hi_si, if_neg (by omega)]
    · clear V V0 V1 cc x o51 f0
      unfold puH
      simp (disch := omega) only [s_19_0, s_19_1, s_19_4, s_19_5, s_19_8, s_19_9n, s_19_9, s_19_12, s_19_15, s_19_16, s_19_19, s_19_22, s_19_23, s_19_26, s_19_27, s_19_30, s_19_31, s_19_31n, s_19_31x, s_19_32, s_19_33, s_19_36, s_19_37, s_19_40, s_19_41, s_19_44, s_19_44n, s_19_44x, s_19_45, s_19_46, s_19_47, s_19_50, s_19_51, s_19_52, s_19_55, s_19_56, s_19_59, s_19_59n, s_19_59x, s_19_60, s_19_61, s_19_62, s_19_65, s_19_65n, s_19_68, s_19_69, s_19_70, s_19_70n, s_19_73, s_19_74, s_19_75, s_19_75n, s_19_78, s_19_79, s_19_82, s_19_83, s_19_86, s_19_89, e_19, mv_i_1, mv_l_1, mv_a_1, mv_a_2, mv_a_3, mk2_n, mk2_i, mk2_l, mk2_a, mk2_u, mk2_x, mB_T, mB_F, mS_cons, mS_nil, mSB_T, mSB_F, mca_nil, mca_i, mca_l, mca_r, mca_u, mca_x, mcat_i, mcat_l, mcat_r, mcat_u, mcat_x, mK_some, mK_none, va_rf_s, va_rf_n, lgc_eq, lgc_lt, lgc_gt, lgc_ge, lgc_le, mrd_104, mrd_105, mrd_106, mrd_107, true_and, and_true, and_self, false_and, and_false, true_or, or_true, false_or, or_false, not_true_eq_false, not_false_eq_true, mgb, mga, mgr, mN, reduceCtorEq, ↓reduceIte, eq_self, ge_iff_le, gt_iff_lt, hk_si, hk_sj, hk_sr, hl_si, hl_sj, hl_sr, hn_si, hn_sj, hn_sr, hs_si, hs_sj, hs_sr, hi_sj, hi_sr, hj_si, hj_sr, hr_si, hr_sj, hi_si, hj_sj, hr_sr, mg_si, mg_sj, mg_sr, Nat.reduceAdd, Nat.reduceMul, Nat.reduceSub, Nat.reduceLT, Nat.reduceGT, Nat.reduceEqDiff, Nat.reduceLeDiff, Nat.left_eq_add, Nat.add_eq_left, Nat.reduceMod, Nat.reduceDiv, Nat.succ_ne_self, g, g5, q1, r5, g511, g512, l51, a6, r2, r3, r4, hr, gH, gF, gB, gS, ac, nn_mxT, nn_clamp, ei]
      rw [c_98]
      · simp only [s_19_0, s_19_1, s_19_4, s_19_5, s_19_8, s_19_9n, s_19_9, s_19_12, s_19_15, s_19_16, s_19_19, s_19_22, s_19_23, s_19_26, s_19_27, s_19_30, s_19_31, s_19_31n, s_19_31x, s_19_32, s_19_33, s_19_36, s_19_37, s_19_40, s_19_41, s_19_44, s_19_44n, s_19_44x, s_19_45, s_19_46, s_19_47, s_19_50, s_19_51, s_19_52, s_19_55, s_19_56, s_19_59, s_19_59n, s_19_59x, s_19_60, s_19_61, s_19_62, s_19_65, s_19_65n, s_19_68, s_19_69, s_19_70, s_19_70n, s_19_73, s_19_74, s_19_75, s_19_75n, s_19_78, s_19_79, s_19_82, s_19_83, s_19_86, s_19_89, e_19, mv_i_1, mv_l_1, mv_a_1, mv_a_2, mv_a_3, mk2_n, mk2_i, mk2_l, mk2_a, mk2_u, mk2_x, mB_T, mB_F, mS_cons, mS_nil, mSB_T, mSB_F, mca_nil, mca_i, mca_l, mca_r, mca_u, mca_x, mcat_i, mcat_l, mcat_r, mcat_u, mcat_x, mK_some, mK_none, va_rf_s, va_rf_n, lgc_eq, lgc_lt, lgc_gt, lgc_ge, lgc_le, mrd_104, mrd_105, mrd_106, mrd_107, true_and, and_true, and_self, false_and, and_false, true_or, or_true, false_or, or_false, not_true_eq_false, not_false_eq_true, mgb, mga, mgr, mN, reduceCtorEq, ↓reduceIte, eq_self, ge_iff_le, gt_iff_lt]
        try rfl
      · exact g5
      · exact gF
  | none =>
    have z := nw_z (h := h)
    obtain ⟨Va, pa⟩ := SV_0 z V
    have f0 : fG (fun b j => b = 34 ∧ j = 6) (nw h) (mh_si (nw h) 34 6 (Int32.ofNat (n + 1))) := fG_si ⟨rfl, rfl⟩
    have V0 := SV_fG (m := n + 1) f0 (by omega) (by omega) Va (by rw [hi_si, if_pos ⟨rfl, rfl⟩])
    have un : ∀ b j, isPl b j → mh_r (mh_si (nw h) 34 6 (Int32.ofNat (n + 1))) b j = some (mh_n h) → b = 51 ∧ j = n := fun b j p e => by
      have e' : mh_r (nw h) b j = some (mh_n h) := e
      rw [pa b j p] at e'
      have := (V.S.o b j _ p e').1.1.2
      omega
    obtain ⟨V1, cc⟩ := put_r (n := n) (Sp := mh_n h) V0 (so_fG f0 nw_so) (Or.inr (Or.inr (Or.inr (Or.inr (Or.inr (Or.inr hN)))))) un (fun y hy => by
      rcases hy with e | e
      · rw [e]; exact Or.inl V.p.g9.2
      · rw [e]; exact Or.inl V.p.g10.2)
    have x := pu_o (h := mh_si (nw h) 34 6 (Int32.ofNat (n + 1))) (n := n) (Ho := Ho) (Fa := Fa) (Be := Be) (Sp := mh_n h)
    have rr : ∀ b j, b < mh_n h → ¬ ((b = 34 ∧ (j = 2 ∨ j = 3 ∨ j = 4)) ∨ (b = 35 ∧ j = 1) ∨ (b = 51 ∧ j = n)) → mh_r (puH (mh_si (nw h) 34 6 (Int32.ofNat (n + 1))) n Ho Fa Be (mh_n h)) b j = mh_r h b j := fun b j hb w => (pu_r (h := mh_si (nw h) 34 6 (Int32.ofNat (n + 1))) w).trans (z.2.2 b j hb (fun q => q)).2.2
    have o51 : ∀ i, i ≠ n → mh_r (puH (mh_si (nw h) 34 6 (Int32.ofNat (n + 1))) n Ho Fa Be (mh_n h)) 51 i = mh_r h 51 i := fun i hi => rr 51 i (by omega) (by omega)
    have ii : ∀ b j, b < mh_n h → ¬ (b = 34 ∧ j = 6) → mh_i (puH (mh_si (nw h) 34 6 (Int32.ofNat (n + 1))) n Ho Fa Be (mh_n h)) b j = mh_i h b j := fun b j hb w => by
      rw [x.ei, hi_si, if_neg w]
      exact (z.2.2 b j hb (fun q => q)).1
    have ll : ∀ b, b < mh_n h → mh_l (puH (mh_si (nw h) 34 6 (Int32.ofNat (n + 1))) n Ho Fa Be (mh_n h)) b = mh_l h b := fun b hb => (z.2.1 b hb).2
    have fzz : fz (svW n P R h) h (puH (mh_si (nw h) 34 6 (Int32.ofNat (n + 1))) n Ho Fa Be (mh_n h)) := by
      refine ⟨Nat.le_trans z.1 (Nat.le_of_eq x.en.symm), fun b hb => z.2.1 b hb, fun b j hb hw => ⟨ii b j hb (fun q => hw (Or.inl ⟨q.1, by omega⟩)), (z.2.2 b j hb (fun q => q)).2.1, rr b j hb (fun q => hw ?_)⟩⟩
      rcases q with q | q | q
      · exact Or.inl ⟨q.1, by omega⟩
      · exact Or.inr (Or.inl ⟨q.1, by omega⟩)
      · exact Or.inr (Or.inr (Or.inr (Or.inr (Or.inr (Or.inr (Or.inr (Or.inl ⟨q.1, by omega⟩)))))))
    have ec : ∀ a, ¬ a = 51 → ¬ a = 34 → ¬ a = 35 → a < 74 → ∀ m, cnS (puH (mh_si (nw h) 34 6 (Int32.ofNat (n + 1))) n Ho Fa Be (mh_n h)) a m = cnS h a m := fun a b1 b2 b3 b4 m => n64_cong m (fun i _ => by rw [rr a i (by omega) (by omega)])
    have c51 : cnS (puH (mh_si (nw h) 34 6 (Int32.ofNat (n + 1))) n Ho Fa Be (mh_n h)) 51 122 = cnS h 51 122 + 1 := n64_set (k := n) (by rw [hr]; rfl) (by rw [pu_n]; rfl) (fun i hi => by rw [o51 i hi]) hn
    have et : cT (puH (mh_si (nw h) 34 6 (Int32.ofNat (n + 1))) n Ho Fa Be (mh_n h)) = cT h + 1 := by
      unfold cT
      rw [ec 61 (by omega) (by omega) (by omega) (by omega), ec 62 (by omega) (by omega) (by omega) (by omega), ec 63 (by omega) (by omega) (by omega) (by omega), ec 64 (by omega) (by omega) (by omega) (by omega), ec 54 (by omega) (by omega) (by omega) (by omega), ec 73 (by omega) (by omega) (by omega) (by omega), c51]
      omega
    have e9 : ln (puH (mh_si (nw h) 34 6 (Int32.ofNat (n + 1))) n Ho Fa Be (mh_n h)) 35 9 = ln h 35 9 := by
      unfold ln
      rw [rr 35 9 (by omega) (by omega), V.p.r9]
      exact ll P V.p.g9.2
    have ey : cY (puH (mh_si (nw h) 34 6 (Int32.ofNat (n + 1))) n Ho Fa Be (mh_n h)) = cY h := by
      unfold cY
      rw [rr 2 1 (by omega) (by omega), V.y]
      have := V.q.n Y (by simp)
      dsimp only
      rw [ii Y 5 V.q.gY.2 (by omega)]
    have eg : cG (puH (mh_si (nw h) 34 6 (Int32.ofNat (n + 1))) n Ho Fa Be (mh_n h)) = cG h := by unfold cG; rw [e9, ey]
    have en : mh_n (puH (mh_si (nw h) 34 6 (Int32.ofNat (n + 1))) n Ho Fa Be (mh_n h)) = mh_n h + 3 := x.en.trans nw_n
    have es : mh_s (puH (mh_si (nw h) 34 6 (Int32.ofNat (n + 1))) n Ho Fa Be (mh_n h)) = mh_s h + 330 := x.es.trans nw_s
    refine ⟨puH (mh_si (nw h) 34 6 (Int32.ofNat (n + 1))) n Ho Fa Be (mh_n h), mh_n h, ⟨⟨fzz, ?_, ?_⟩, fun o w => ?_⟩, V1, pu_n, o51, fun o v c k => rO_RS x (cs_so V.S c).2 (RS_fz (fG_z f0) (fun y hy j w => ?_) (RS_fz z (fun _ _ _ q => q) k)), ii 35 4 (by omega) (by omega), fun Q => ?_⟩
    · unfold cN; rw [en, et, eg]; omega
    · unfold cS; rw [es, et, eg, ey]; omega
    · rcases w with w | w | w | ⟨i, i1, w⟩
      · rw [pu_2] at w; cases w; exact Or.inr (Nat.le_refl _)
      · rw [pu_3] at w; cases w; exact Or.inl (Or.inr (Or.inr (Or.inl r4)))
      · rw [pu_4] at w; cases w; exact Or.inl (Or.inr (Or.inl r3))
      · by_cases q : i = n
        · rw [q, pu_n] at w; cases w; exact Or.inl (Or.inl r2)
        · rw [o51 i q] at w; exact Or.inl (Or.inr (Or.inr (Or.inr ⟨i, i1, w⟩)))
    · have a := (cs_so V.S c).2
      unfold cAd at a
      omega
    · have gn : mg (mh_new h 8 6) (mh_n h) 8 := ⟨by rw [hk_new, if_pos rfl], by rw [hn_new]; omega⟩
      have c9 := fun Q => c_139 (d := d) (Q := Q) gn
      have ga : mg (nw h) 34 1 := fz_mg z g
      have ga5 : mg (nw h) 35 5 := fz_mg z g5
      have gaS : mg (nw h) (mh_n h) 8 := nw_so.1
      have gaH := fz_mg z gH
      have gaF := fz_mg z gF
      have gaB := fz_mg z gB
      have k51 : mh_k (nw h) 51 = 104 := (fz_mg z g51).1
      have n51 : 51 < mh_n (nw h) := (fz_mg z g51).2
      have la : mh_l (nw h) 51 = 122 := by rw [fz_l z g51]; exact l51
      have ra : ∀ b j, b < 74 → mh_r (nw h) b j = mh_r h b j := fun b j hb => (z.2.2 b j (by omega) (fun q => q)).2.2
      have ia : mh_i (nw h) 34 6 = Int32.ofNat n := by rw [(z.2.2 34 6 g.2 (fun q => q)).1]; exact a6
      have nwe : nwS (mh_n h) (mh_new h 8 6) = nw h := rfl
      have ra2 := ra 34 2 (by omega)
      have ra3 := ra 34 3 (by omega)
      have ra4 := ra 34 4 (by omega)
      have ra5 := ra 34 5 (by omega)
      have ra1 := ra 34 1 (by omega)
      rw [r2] at ra2
      rw [r3] at ra3
      rw [r4] at ra4
      rw [r5] at ra5
      rw [q1] at ra1
      clear V V0 V1 Va cc x o51 f0 z pa un rr ii ll fzz ec c51 et e9 ey eg en es ra
      unfold puH
      simp (disch := omega) only [s_19_0, s_19_1, s_19_4, s_19_5, s_19_8, s_19_9n, s_19_9, s_19_12, s_19_15, s_19_16, s_19_19, s_19_22, s_19_23, s_19_26, s_19_27, s_19_30, s_19_31, s_19_31n, s_19_31x, s_19_32, s_19_33, s_19_36, s_19_37, s_19_40, s_19_41, s_19_44, s_19_44n, s_19_44x, s_19_45, s_19_46, s_19_47, s_19_50, s_19_51, s_19_52, s_19_55, s_19_56, s_19_59, s_19_59n, s_19_59x, s_19_60, s_19_61, s_19_62, s_19_65, s_19_65n, s_19_68, s_19_69, s_19_70, s_19_70n, s_19_73, s_19_74, s_19_75, s_19_75n, s_19_78, s_19_79, s_19_82, s_19_83, s_19_86, s_19_89, e_19, mv_i_1, mv_l_1, mv_a_1, mv_a_2, mv_a_3, mk2_n, mk2_i, mk2_l, mk2_a, mk2_u, mk2_x, mB_T, mB_F, mS_cons, mS_nil, mSB_T, mSB_F, mca_nil, mca_i, mca_l, mca_r, mca_u, mca_x, mcat_i, mcat_l, mcat_r, mcat_u, mcat_x, mK_some, mK_none, va_rf_s, va_rf_n, lgc_eq, lgc_lt, lgc_gt, lgc_ge, lgc_le, mrd_104, mrd_105, mrd_106, mrd_107, true_and, and_true, and_self, false_and, and_false, true_or, or_true, false_or, or_false, not_true_eq_false, not_false_eq_true, mgb, mga, mgr, mN, reduceCtorEq, ↓reduceIte, eq_self, ge_iff_le, gt_iff_lt, hk_si, hk_sj, hk_sr, hl_si, hl_sj, hl_sr, hn_si, hn_sj, hn_sr, hs_si, hs_sj, hs_sr, hi_sj, hi_sr, hj_si, hj_sr, hr_si, hr_sj, hi_si, hj_sj, hr_sr, mg_si, mg_sj, mg_sr, Nat.reduceAdd, Nat.reduceMul, Nat.reduceSub, Nat.reduceLT, Nat.reduceGT, Nat.reduceEqDiff, Nat.reduceLeDiff, Nat.left_eq_add, Nat.add_eq_left, Nat.reduceMod, Nat.reduceDiv, Nat.succ_ne_self, g, r5, g511, g512, l51, a6, hr, nn_mxT, nn_clamp, gn, c9, nwe, ga, ga5, gaS, gaH, gaF, gaB, k51, n51, la, ia, ra1, ra2, ra3, ra4, ra5, ac, ei]
      rw [c_98]
      · simp only [s_19_0, s_19_1, s_19_4, s_19_5, s_19_8, s_19_9n, s_19_9, s_19_12, s_19_15, s_19_16, s_19_19, s_19_22, s_19_23, s_19_26, s_19_27, s_19_30, s_19_31, s_19_31n, s_19_31x, s_19_32, s_19_33, s_19_36, s_19_37, s_19_40, s_19_41, s_19_44, s_19_44n, s_19_44x, s_19_45, s_19_46, s_19_47, s_19_50, s_19_51, s_19_52, s_19_55, s_19_56, s_19_59, s_19_59n, s_19_59x, s_19_60, s_19_61, s_19_62, s_19_65, s_19_65n, s_19_68, s_19_69, s_19_70, s_19_70n, s_19_73, s_19_74, s_19_75, s_19_75n, s_19_78, s_19_79, s_19_82, s_19_83, s_19_86, s_19_89, e_19, mv_i_1, mv_l_1, mv_a_1, mv_a_2, mv_a_3, mk2_n, mk2_i, mk2_l, mk2_a, mk2_u, mk2_x, mB_T, mB_F, mS_cons, mS_nil, mSB_T, mSB_F, mca_nil, mca_i, mca_l, mca_r, mca_u, mca_x, mcat_i, mcat_l, mcat_r, mcat_u, mcat_x, mK_some, mK_none, va_rf_s, va_rf_n, lgc_eq, lgc_lt, lgc_gt, lgc_ge, lgc_le, mrd_104, mrd_105, mrd_106, mrd_107, true_and, and_true, and_self, false_and, and_false, true_or, or_true, false_or, or_false, not_true_eq_false, not_false_eq_true, mgb, mga, mgr, mN, reduceCtorEq, ↓reduceIte, eq_self, ge_iff_le, gt_iff_lt]
        try rfl
      · exact ga5
      · exact gaF
end PUw
