set_option maxRecDepth 100000
/-! Effect.joinAside; a new State -/
section JAs
variable {d : Nat} {h h1 : mh_H} {P R lP Y C E TT UU SC SP nC nE nS nb na Ho Fa Be n : Nat}
theorem SV_fG {W : Nat → Nat → Prop} {m : Nat} (x : fG W h h1) (w2 : ¬ W 35 2) (w3 : ¬ W 35 3) (V : SV h P R lP Y C E TT UU SC SP nC nE nS nb na Ho Fa Be n) (a : mh_i h1 34 6 = Int32.ofNat m) : SV h1 P R lP Y C E TT UU SC SP nC nE nS nb na Ho Fa Be m := by
  have r := fG_r x
  exact ⟨CF_fG x V.F, CS_fG x V.S, CP_fG x V.p, SQ_fG x V.q, by rw [r]; exact V.r0, by rw [r]; exact V.r1, by rw [fG_i x w2]; exact V.f2, by rw [fG_i x w3]; exact V.f3, by rw [r]; exact V.y, by rw [r]; exact V.h2, by rw [r]; exact V.h3, by rw [r]; exact V.h4, a⟩
theorem SV.w (V : SV h P R lP Y C E TT UU SC SP nC nE nS nb na Ho Fa Be n) : rw_ok h 52 := ⟨V.F.g 52 101 48 (by decide +kernel), V.F.l 52 101 48 (by decide +kernel)⟩
theorem n_1 {k : Nat} : Int32.ofNat (k + 1) - 1 = Int32.ofNat k := by
  rw [← nn_add (a := k) (b := 1)]
  exact Int32.add_sub_cancel _ _
/-- joinAside -/
theorem v_20 (V : SV h P R lP Y C E TT UU SC SP nC nE nS nb na Ho Fa Be (n + 1)) (hn : n < 122) {o : Nat} {hs fs va : Option ab} (ro : mh_r h 51 n = some o) (kh : RS h Ho hs) (kf : RS h Fa fs) (ko' : RS h o va) {an : Bool} (ok : ∀ A' B', (if an = true then fs else hs) = some A' → va = some B' → A'.n = B'.n ∧ A'.a = B'.a) : ∃ h', fG (fun b j => (b = 34 ∧ j = 6) ∨ sW (if an = true then Fa else Ho) 52 b) h h' ∧ sS n P R h h' ∧ SV h' P R lP Y C E TT UU SC SP nC nE nS nb na Ho Fa Be n ∧ RS h' Ho (if an = true then hs else o_join hs va) ∧ RS h' Fa (if an = true then o_join fs va else fs) ∧ mh_i h' 35 4 = mh_i h 35 4 ∧ ∀ Q, mcall (d + 3) 20 [.ref 34, .int (if an = true then 134 else 135)] h Q = Q none h' := by
  have g : mg h 34 1 := V.F.g 34 1 9 (by decide +kernel)
  have r5 : mh_r h 34 5 = some 51 := V.F.f 34 5 51 (by decide +kernel)
  have g51 : mg h 51 104 := V.F.g 51 104 122 (by decide +kernel)
  have l51 : mh_l h 51 = 122 := V.F.l 51 104 122 (by decide +kernel)
  have g511 := g51.1
  have g512 := g51.2
  have a6 := V.a6
  have r2 := V.h2
  have r3 := V.h3
  obtain ⟨n1, n2, n3⟩ := V.ne
  have cO : cs h o := ⟨51, n, Or.inr (Or.inl rfl), ro⟩
  have cH : cs h Ho := ⟨34, 2, Or.inl ⟨rfl, by omega⟩, V.h2⟩
  have cF : cs h Fa := ⟨34, 3, Or.inl ⟨rfl, by omega⟩, V.h3⟩
  have neH : Ho ≠ o := fun z => by
    have := V.S.i 34 2 51 n Ho (Or.inl ⟨rfl, by omega⟩) (Or.inr (Or.inl rfl)) V.h2 (by rw [z]; exact ro)
    omega
  have neF : Fa ≠ o := fun z => by
    have := V.S.i 34 3 51 n Fa (Or.inl ⟨rfl, by omega⟩) (Or.inr (Or.inl rfl)) V.h3 (by rw [z]; exact ro)
    omega
  have f0 : fG (fun b j => b = 34 ∧ j = 6) h (mh_si h 34 6 (Int32.ofNat n)) := fG_si ⟨rfl, rfl⟩
  have kp : ∀ p v, cs h p → RS h p v → RS (mh_si h 34 6 (Int32.ofNat n)) p v := fun p v c k => RS_fz (fG_z f0) (fun y hy j w => by
    have a := (cs_so V.S c).2
    unfold cAd at a
    omega) k
  have kh0 := kp Ho hs cH kh
  have kf0 := kp Fa fs cF kf
  have ko0 := kp o va cO ko'
  have w0 : rw_ok (mh_si h 34 6 (Int32.ofNat n)) 52 := V.w
  have aH := (cs_so V.S cH).2
  have aF := (cs_so V.S cF).2
  unfold cAd at aH aF
  have e6 : mh_i (mh_si h 34 6 (Int32.ofNat n)) 34 6 = Int32.ofNat n := by rw [hi_si, if_pos ⟨rfl, rfl⟩]
  have gH := (RS_so kh).1
  have gF := (RS_so kf).1
  cases an with
  | true =>
    rw [if_pos rfl] at ok
    obtain ⟨h', f, k, e⟩ := l_151o (d := d) 52 kf0 ko0 neF ok
    have n34 : ¬ sW Fa 52 34 := by unfold sW; omega
    have n35 : ¬ sW Fa 52 35 := by unfold sW; omega
    have X : fG (fun b j => (b = 34 ∧ j = 6) ∨ sW Fa 52 b) h h' := fG_t (fG_w f0 (fun b j w => Or.inl w)) (fG_w (fG_fq f) (fun b j w => Or.inr w))
    have V' := SV_fG X (fun w => w.elim (fun z => by omega) n35) (fun w => w.elim (fun z => by omega) n35) V (by rw [(f.2.2.2.2.2 34 n34).1]; exact e6)
    have s : sS n P R h h' := by
      refine ⟨fD_w (fG_D X (fun Z hZ w => ?_)) (fun b j _ w => ?_), fun p w => Or.inl ?_⟩
      · rw [V.y] at hZ
        cases hZ
        have nn := V.q.n Y (by simp)
        have k1 := so_k (cs_so V.S cF).1 V.q.gY (by omega) (by omega)
        unfold sW at w
        omega
      · rcases w with w | w
        · exact Or.inl ⟨w.1, by omega⟩
        · rcases w with w | w | w | w
          · exact Or.inr (Or.inr (Or.inr (Or.inr (Or.inr (Or.inr (Or.inr (Or.inr ⟨Fa, Or.inr (Or.inl V.h3), by omega, by omega⟩)))))))
          · exact Or.inr (Or.inr (Or.inr (Or.inr (Or.inr (Or.inr (Or.inr (Or.inr ⟨Fa, Or.inr (Or.inl V.h3), by omega, by omega⟩)))))))
          · exact Or.inr (Or.inr (Or.inr (Or.inr (Or.inr (Or.inr (Or.inr (Or.inr ⟨Fa, Or.inr (Or.inl V.h3), by omega, by omega⟩)))))))
          · exact Or.inr (Or.inr (Or.inr (Or.inr (Or.inl w))))
      · unfold mine at w ⊢; rw [fG_r X] at w; exact w
    refine ⟨h', X, s, V', RS_o f (RS_so kf0) w0 n1 kh0, k, by rw [(f.2.2.2.2.2 35 n35).1, hi_si, if_neg (by omega)], fun Q => ?_⟩
    clear V V' s X f k kh kf ko' kh0 kf0 ko0 kp f0 ok
    rw [if_pos rfl]
    simp (disch := omega) only [s_20_0, s_20_1, s_20_2, s_20_5, s_20_6, s_20_7, s_20_10, s_20_11, s_20_14, s_20_17, s_20_18, s_20_21, s_20_22, s_20_25, s_20_26, s_20_29, s_20_30, s_20_33, s_20_36, s_20_37, s_20_40, s_20_41, s_20_44, s_20_45, s_20_48, s_20_49, s_20_52, e_20, mv_i_1, mv_l_1, mv_a_1, mv_a_2, mv_a_3, mk2_n, mk2_i, mk2_l, mk2_a, mk2_u, mk2_x, mB_T, mB_F, mS_cons, mS_nil, mSB_T, mSB_F, mca_nil, mca_i, mca_l, mca_r, mca_u, mca_x, mcat_i, mcat_l, mcat_r, mcat_u, mcat_x, mK_some, mK_none, va_rf_s, va_rf_n, lgc_eq, lgc_lt, lgc_gt, lgc_ge, lgc_le, mrd_104, mrd_105, mrd_106, mrd_107, true_and, and_true, and_self, false_and, and_false, true_or, or_true, false_or, or_false, not_true_eq_false, not_false_eq_true, mgb, mga, mgr, mN, reduceCtorEq, ↓reduceIte, eq_self, ge_iff_le, gt_iff_lt, hk_si, hk_sj, hk_sr, hl_si, hl_sj, hl_sr, hn_si, hn_sj, hn_sr, hs_si, hs_sj, hs_sr, hi_sj, hi_sr, hj_si, hj_sr, hr_si, hr_sj, hi_si, hj_sj, hr_sr, mg_si, mg_sj, mg_sr, Nat.reduceAdd, Nat.reduceMul, Nat.reduceSub, Nat.reduceLT, Nat.reduceGT, Nat.reduceEqDiff, Nat.reduceLeDiff, Nat.left_eq_add, Nat.add_eq_left, Nat.reduceMod, Nat.reduceDiv, Nat.succ_ne_self, g, r5, g511, g512, l51, a6, r2, r3, n_1, nn_mxT, nn_clamp, ro, gF, e]
  | false =>
    rw [if_neg (by decide)] at ok
    obtain ⟨h', f, k, e⟩ := l_151o (d := d) 52 kh0 ko0 neH ok
    have n34 : ¬ sW Ho 52 34 := by unfold sW; omega
    have n35 : ¬ sW Ho 52 35 := by unfold sW; omega
    have X : fG (fun b j => (b = 34 ∧ j = 6) ∨ sW Ho 52 b) h h' := fG_t (fG_w f0 (fun b j w => Or.inl w)) (fG_w (fG_fq f) (fun b j w => Or.inr w))
    have V' := SV_fG X (fun w => w.elim (fun z => by omega) n35) (fun w => w.elim (fun z => by omega) n35) V (by rw [(f.2.2.2.2.2 34 n34).1]; exact e6)
    have s : sS n P R h h' := by
      refine ⟨fD_w (fG_D X (fun Z hZ w => ?_)) (fun b j _ w => ?_), fun p w => Or.inl ?_⟩
      · rw [V.y] at hZ
        cases hZ
        have nn := V.q.n Y (by simp)
        have k1 := so_k (cs_so V.S cH).1 V.q.gY (by omega) (by omega)
        unfold sW at w
        omega
      · rcases w with w | w
        · exact Or.inl ⟨w.1, by omega⟩
        · rcases w with w | w | w | w
          · exact Or.inr (Or.inr (Or.inr (Or.inr (Or.inr (Or.inr (Or.inr (Or.inr ⟨Ho, Or.inl V.h2, by omega, by omega⟩)))))))
          · exact Or.inr (Or.inr (Or.inr (Or.inr (Or.inr (Or.inr (Or.inr (Or.inr ⟨Ho, Or.inl V.h2, by omega, by omega⟩)))))))
          · exact Or.inr (Or.inr (Or.inr (Or.inr (Or.inr (Or.inr (Or.inr (Or.inr ⟨Ho, Or.inl V.h2, by omega, by omega⟩)))))))
          · exact Or.inr (Or.inr (Or.inr (Or.inr (Or.inl w))))
      · unfold mine at w ⊢; rw [fG_r X] at w; exact w
    refine ⟨h', X, s, V', k, RS_o f (RS_so kh0) w0 (fun z => n1 z.symm) kf0, by rw [(f.2.2.2.2.2 35 n35).1, hi_si, if_neg (by omega)], fun Q => ?_⟩
    clear V V' s X f k kh kf ko' kh0 kf0 ko0 kp f0 ok
    rw [if_neg (by decide)]
    simp (disch := omega) only [s_20_0, s_20_1, s_20_2, s_20_5, s_20_6, s_20_7, s_20_10, s_20_11, s_20_14, s_20_17, s_20_18, s_20_21, s_20_22, s_20_25, s_20_26, s_20_29, s_20_30, s_20_33, s_20_36, s_20_37, s_20_40, s_20_41, s_20_44, s_20_45, s_20_48, s_20_49, s_20_52, e_20, mv_i_1, mv_l_1, mv_a_1, mv_a_2, mv_a_3, mk2_n, mk2_i, mk2_l, mk2_a, mk2_u, mk2_x, mB_T, mB_F, mS_cons, mS_nil, mSB_T, mSB_F, mca_nil, mca_i, mca_l, mca_r, mca_u, mca_x, mcat_i, mcat_l, mcat_r, mcat_u, mcat_x, mK_some, mK_none, va_rf_s, va_rf_n, lgc_eq, lgc_lt, lgc_gt, lgc_ge, lgc_le, mrd_104, mrd_105, mrd_106, mrd_107, true_and, and_true, and_self, false_and, and_false, true_or, or_true, false_or, or_false, not_true_eq_false, not_false_eq_true, mgb, mga, mgr, mN, reduceCtorEq, ↓reduceIte, eq_self, ge_iff_le, gt_iff_lt, hk_si, hk_sj, hk_sr, hl_si, hl_sj, hl_sr, hn_si, hn_sj, hn_sr, hs_si, hs_sj, hs_sr, hi_sj, hi_sr, hj_si, hj_sr, hr_si, hr_sj, hi_si, hj_sj, hr_sr, mg_si, mg_sj, mg_sr, Nat.reduceAdd, Nat.reduceMul, Nat.reduceSub, Nat.reduceLT, Nat.reduceGT, Nat.reduceEqDiff, Nat.reduceLeDiff, Nat.left_eq_add, Nat.add_eq_left, Nat.reduceMod, Nat.reduceDiv, Nat.succ_ne_self, g, r5, g511, g512, l51, a6, r2, r3, n_1, nn_mxT, nn_clamp, ro, gH, e, show ((135 : Int32) = 134) = False by decide]
end JAs
/-! a new State -/
def nwS (o : Nat) (h : mh_H) : mh_H := mh_sr (mh_new (mh_sr (mh_new h 101 312) o 3 (some (mh_n h))) 101 12) o 4 (some (mh_n h + 1))
theorem c_139 {d : Nat} {h : mh_H} {o : Nat} {Q : Option Value → mh_H → Prop} (g : mg h o 8) : mcall d 139 [.ref o] h Q = Q none (nwS o h) := by
  have g1 := g.1
  have g2 := g.2
  have n0 : ¬ o = mh_n h := by omega
  have n1 : ∀ i, ¬ o = mh_n h + i := fun i => by omega
  unfold nwS
  simp (disch := omega) only [s_139_0, s_139_1, s_139_4, s_139_5, s_139_8, s_139_10, s_139_10n, s_139_13, s_139_14, s_139_16, s_139_18, s_139_18n, s_139_21, e_139, mv_i_1, mv_l_1, mv_a_1, mv_a_2, mv_a_3, mk2_n, mk2_i, mk2_l, mk2_a, mk2_u, mk2_x, mB_T, mB_F, mS_cons, mS_nil, mSB_T, mSB_F, mca_nil, mca_i, mca_l, mca_r, mca_u, mca_x, mcat_i, mcat_l, mcat_r, mcat_u, mcat_x, mK_some, mK_none, va_rf_s, va_rf_n, lgc_eq, lgc_lt, lgc_gt, lgc_ge, lgc_le, mrd_104, mrd_105, mrd_106, mrd_107, true_and, and_true, and_self, false_and, and_false, true_or, or_true, false_or, or_false, not_true_eq_false, not_false_eq_true, mgb, mga, mgr, mN, reduceCtorEq, ↓reduceIte, eq_self, ge_iff_le, gt_iff_lt, hk_si, hk_sj, hk_sr, hl_si, hl_sj, hl_sr, hn_si, hn_sj, hn_sr, hs_si, hs_sj, hs_sr, hi_sj, hi_sr, hj_si, hj_sr, hr_si, hr_sj, hi_si, hj_sj, hr_sr, mg_si, mg_sj, mg_sr, Nat.reduceAdd, Nat.reduceMul, Nat.reduceSub, Nat.reduceLT, Nat.reduceGT, Nat.reduceEqDiff, Nat.reduceLeDiff, Nat.left_eq_add, Nat.add_eq_left, Nat.reduceMod, Nat.reduceDiv, Nat.succ_ne_self, hk_new, hn_new, mg_new, g, n0, n1, if_false, Nat.add_assoc, show (312 : Int32).toNatClampNeg = 312 by decide, show (12 : Int32).toNatClampNeg = 12 by decide, show ((0 : Int32) ≤ 312) = True by decide, show ((0 : Int32) ≤ 12) = True by decide]
