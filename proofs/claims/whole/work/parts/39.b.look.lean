set_option maxRecDepth 100000
/-! Ranges.lookFrom where the rows are long enough -/
def lfH (h : mh_H) (Y X nb na : Nat) : mh_H := mh_si (mh_sr (mh_si (mh_si (mh_sr h 35 0 (some Y)) 35 2 (Int32.ofNat nb)) 35 3 (Int32.ofNat na)) 35 1 (some X)) 35 4 0
theorem cfR_35 : ∀ t ∈ cfR, ¬ (t.1 = 35 ∧ (t.2.1 = 0 ∨ t.2.1 = 1)) := by decide +kernel
section LFs
variable {d : Nat} {h : mh_H} {P R lP X Y C E TT UU SC SP nC nE nS nb na p pa : Nat} {A : ab}
theorem lf_r {b j : Nat} (w : ¬ (b = 35 ∧ (j = 0 ∨ j = 1))) : mh_r (lfH h Y X nb na) b j = mh_r h b j := by
  unfold lfH
  rw [hr_si, hr_sr, if_neg (by omega), hr_si, hr_si, hr_sr, if_neg (by omega)]
theorem lf_i {b j : Nat} (w : ¬ (b = 35 ∧ (j = 2 ∨ j = 3 ∨ j = 4))) : mh_i (lfH h Y X nb na) b j = mh_i h b j := by
  unfold lfH
  rw [hi_si, if_neg (by omega), hi_sr, hi_si, if_neg (by omega), hi_si, if_neg (by omega), hi_sr]
theorem v_97a (F : CF h) (S : CS h) (pp : CP h P R lP) (q : SQ h Y C E TT UU SC SP nC nE nS) (y : mh_r h 2 1 = some Y) (cX : cs h X) (k : RS h X (some A)) (T : ab_T A) (hp : p < 250) (b1 : mh_i h 21 p = Int32.ofNat nb) (b2 : mh_i h 22 p = Int32.ofNat na) (s5 : mh_i h Y 5 = Int32.ofNat pa) (hl : pa ≤ lP) : ∃ h', fD (fun b j => b = 35 ∧ j ≤ 4) h h' ∧ RG h' P R lP X Y C E TT UU SC SP nC nE nS nb na A ∧ mh_i h' 35 4 = 0 ∧ (∀ o v, cs h o → RS h o v → RS h' o v) ∧ (∀ b j, ¬ b = 35 → mh_i h' b j = mh_i h b j ∧ mh_r h' b j = mh_r h b j) ∧ ∀ Q, mcall d 97 [.ref 35, .ref 2, .int (Int32.ofNat p), .ref X] h Q = Q none h' := by
  have nY := q.n Y (by simp)
  have z : fz (fun b j => b = 35 ∧ j ≤ 4) h (lfH h Y X nb na) := ⟨Nat.le_refl _, fun _ _ => ⟨rfl, rfl⟩, fun b j _ w => ⟨lf_i (by omega), rfl, lf_r (by omega)⟩⟩
  have ng : ∀ {o c : Nat}, mg h o c → mg (lfH h Y X nb na) o c := fun g => fz_mg z g
  have ec : ∀ a, ¬ a = 35 → ∀ m, cnS (lfH h Y X nb na) a m = cnS h a m := fun a ha m => n64_cong m (fun i _ => by rw [lf_r (by omega)])
  have e9 : ln (lfH h Y X nb na) 35 9 = ln h 35 9 := by unfold ln; rw [lf_r (by omega)]; rfl
  have ey : cY (lfH h Y X nb na) = cY h := by
    unfold cY
    rw [lf_r (by omega), y]
    dsimp only
    rw [lf_i (by omega)]
  have eg : cG (lfH h Y X nb na) = cG h := by unfold cG; rw [e9, ey]
  have et : cT (lfH h Y X nb na) = cT h := by unfold cT; rw [ec 51 (by omega), ec 61 (by omega), ec 62 (by omega), ec 63 (by omega), ec 64 (by omega), ec 54 (by omega), ec 73 (by omega)]
  have en : mh_n (lfH h Y X nb na) = mh_n h := rfl
  have es : mh_s (lfH h Y X nb na) = mh_s h := rfl
  have pl : ∀ b j, isPl b j → mh_r (lfH h Y X nb na) b j = mh_r h b j := fun b j hp' => lf_r (by unfold isPl at hp'; omega)
  have kp : ∀ o v, cs h o → RS h o v → RS (lfH h Y X nb na) o v := fun o v c kk => RS_fz z (fun y hy j w => by
    have a := (cs_so S c).2
    unfold cAd at a
    omega) kk
  have cc : ∀ o, cs (lfH h Y X nb na) o ↔ cs h o := fun o => ⟨fun ⟨b, j, hp', e⟩ => ⟨b, j, hp', by rw [← pl b j hp']; exact e⟩, fun ⟨b, j, hp', e⟩ => ⟨b, j, hp', by rw [pl b j hp']; exact e⟩⟩
  have S' : CS (lfH h Y X nb na) := ⟨fun b j o hp' e => by
    rw [pl b j hp'] at e
    obtain ⟨s, a⟩ := S.o b j o hp' e
    have a' := a
    unfold cAd at a'
    exact ⟨so_fz z (by omega) (by omega) s, a⟩, fun b j b' j' o hp1 hp2 e e' => by
    rw [pl b j hp1] at e
    rw [pl b' j' hp2] at e'
    exact S.i b j b' j' o hp1 hp2 e e'⟩
  have F' : CF (lfH h Y X nb na) := ⟨fun t ht => ⟨ng (F.k t ht).1, (F.k t ht).2⟩, fun t ht => by rw [lf_r (cfR_35 t ht)]; exact F.r t ht⟩
  have p' : CP (lfH h Y X nb na) P R lP := ⟨by rw [lf_r (by omega)]; exact pp.r9, by rw [lf_r (by omega)]; exact pp.r10, ng pp.g9, ng pp.g10, pp.l9, pp.l10, pp.d, pp.n, fun o c => pp.s o ((cc o).mp c), pp.b⟩
  have ry : ∀ j, mh_r (lfH h Y X nb na) Y j = mh_r h Y j := fun j => lf_r (by omega)
  have q' : SQ (lfH h Y X nb na) Y C E TT UU SC SP nC nE nS := ⟨ng q.gY, by rw [ry]; exact q.r0, by rw [ry]; exact q.r2, by rw [ry]; exact q.r3, by rw [ry]; exact q.r4, by rw [ry]; exact q.r6, by rw [ry]; exact q.r7, ng q.gC, ng q.gE, ng q.gT, ng q.gU, ng q.g6, ng q.g7, q.lC, q.lE, q.lT, q.lU, q.l6, q.l7, q.n, q.bC, q.bE, q.bS⟩
  have x0 : mh_r (lfH h Y X nb na) 35 0 = some Y := by unfold lfH; rw [hr_si, hr_sr, if_neg (by omega), hr_si, hr_si, hr_sr, if_pos ⟨rfl, rfl⟩]
  have x1 : mh_r (lfH h Y X nb na) 35 1 = some X := by unfold lfH; rw [hr_si, hr_sr, if_pos ⟨rfl, rfl⟩]
  have x2 : mh_i (lfH h Y X nb na) 35 2 = Int32.ofNat nb := by unfold lfH; rw [hi_si, if_neg (by omega), hi_sr, hi_si, if_neg (by omega), hi_si, if_pos ⟨rfl, rfl⟩]
  have x3 : mh_i (lfH h Y X nb na) 35 3 = Int32.ofNat na := by unfold lfH; rw [hi_si, if_neg (by omega), hi_sr, hi_si, if_pos ⟨rfl, rfl⟩]
  have x4 : mh_i (lfH h Y X nb na) 35 4 = 0 := by unfold lfH; rw [hi_si, if_pos ⟨rfl, rfl⟩]
  refine ⟨lfH h Y X nb na, ⟨z, ?_, ?_⟩, ⟨F', S', p', q', x0, x1, (cc X).mpr cX, kp X _ cX k, T, x2, x3, by rw [lf_r (by omega)]; exact y⟩, x4, kp, fun b j hb => ⟨lf_i (by omega), lf_r (by omega)⟩, fun Q => ?_⟩
  · unfold cN; rw [en, et, eg]; exact Int.le_refl _
  · unfold cS; rw [es, et, eg, ey]; exact Int.le_refl _
  · have g35 := F.g 35 5 19 (by decide +kernel)
    have g2 := F.g 2 4 20 (by decide +kernel)
    have r24 := F.f 2 4 21 (by decide +kernel)
    have r25 := F.f 2 5 22 (by decide +kernel)
    have g21 := F.g 21 100 250 (by decide +kernel)
    have g22 := F.g 22 100 250 (by decide +kernel)
    have l21 := F.l 21 100 250 (by decide +kernel)
    have l22 := F.l 22 100 250 (by decide +kernel)
    have gX := (RS_so k).1
    have gY := q.gY
    have r9 := pp.r9
    have g9 := pp.g9.1
    have g9' := pp.g9.2
    have l9 := pp.l9
    have lb := pp.b
    have Y35 : ¬ Y = 35 := by omega
    have hle : (pa ≤ lP) = True := eq_true hl
    clear F S pp q cX k T z ec e9 ey eg et en es pl kp cc S' F' p' ry q' x0 x1 x2 x3 x4 ng
    unfold lfH
    simp (disch := omega) only [s_97_0, s_97_1, s_97_2, s_97_5, s_97_5n, s_97_8, s_97_9, s_97_10, s_97_13, s_97_14, s_97_15, s_97_18, s_97_19, s_97_20, s_97_23, s_97_24, s_97_25, s_97_28, s_97_29, s_97_30, s_97_30n, s_97_33, s_97_34, s_97_35, s_97_38, s_97_39, s_97_42, s_97_43, s_97_44, s_97_47, s_97_50, s_97_53, s_97_54, s_97_55, s_97_58, s_97_61, s_97_63, s_97_63n, s_97_66, s_97_67, s_97_68, s_97_71, s_97_74, s_97_76, s_97_76n, s_97_79, e_97, mv_i_1, mv_l_1, mv_a_1, mv_a_2, mv_a_3, mk2_n, mk2_i, mk2_l, mk2_a, mk2_u, mk2_x, mB_T, mB_F, mS_cons, mS_nil, mSB_T, mSB_F, mca_nil, mca_i, mca_l, mca_r, mca_u, mca_x, mcat_i, mcat_l, mcat_r, mcat_u, mcat_x, mK_some, mK_none, va_rf_s, va_rf_n, lgc_eq, lgc_lt, lgc_gt, lgc_ge, lgc_le, mrd_104, mrd_105, mrd_106, mrd_107, true_and, and_true, and_self, false_and, and_false, true_or, or_true, false_or, or_false, not_true_eq_false, not_false_eq_true, mgb, mga, mgr, mN, reduceCtorEq, ↓reduceIte, eq_self, ge_iff_le, gt_iff_lt, hk_si, hk_sj, hk_sr, hl_si, hl_sj, hl_sr, hn_si, hn_sj, hn_sr, hs_si, hs_sj, hs_sr, hi_sj, hi_sr, hj_si, hj_sr, hr_si, hr_sj, hi_si, hj_sj, hr_sr, mg_si, mg_sj, mg_sr, Nat.reduceAdd, Nat.reduceMul, Nat.reduceSub, Nat.reduceLT, Nat.reduceGT, Nat.reduceEqDiff, Nat.reduceLeDiff, Nat.left_eq_add, Nat.add_eq_left, Nat.reduceMod, Nat.reduceDiv, Nat.succ_ne_self, g35, g2, r24, r25, g21, g22, l21, l22, b1, b2, y, gX, gY, r9, g9, g9', l9, s5, Y35, nn_mxT, nn_clamp, nn_le, hle]
end LFs
