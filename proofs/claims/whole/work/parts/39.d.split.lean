set_option maxRecDepth 100000
/-! Effect.split, whole -/
/-- what the alarms of a COND's statement are: kind 7 is assert -/
def spA (kd : Nat) (q : Option ab × Option ab × Int32) : Int32 := if kd = 7 ∧ q.2.1 ≠ none then q.2.2 ||| 8 else q.2.2
section SPw
variable {d : Nat} {h : mh_H} {Y C E TT UU SC SP nC nE nS nb na p pa St kd k0 ce KA WA nK Fr : Nat} {sN : Int → Prop} {en : Int → Nat} {KK WW : Nat → Int32} {A0 : ab} {t : tr} {on : Option ab}
theorem sp_w0 (B : BS h Y C E TT UU SC SP nC nE nS) (hp : p < 250) (b1 : mh_i h 21 p = Int32.ofNat nb) (b2 : mh_i h 22 p = Int32.ofNat na) (s5 : mh_i h Y 5 = Int32.ofNat pa) (hb : pa ≤ 60000) (rS : mh_r h 20 p = some St) (s0 : mh_i h St 0 = Int32.ofNat kd) (hkd : kd < 1000) (s12 : mh_i h St 12 = Int32.ofNat k0) (cc : CC h h pa Y C E TT UU SC SP nC nE nS nb na St KA WA nK ce sN en KK WW) (q : ∀ lP, pa ≤ lP → cq KK (rl h lP C E TT UU SC SP nC nE nS nb na sN en A0 WW) t false false k0 ce) (wc : wC sN en A0 t false) (cn : cn3 t ≤ 366) (cF : cs h Fr) (nF : ¬ mine 0 h Fr) (k : RS h Fr on) (ok : okS A0 on) : ∃ h3 P' R' lP' Ho Fa Be, pa ≤ lP' ∧ sE h h3 ∧ SV h3 P' R' lP' Y C E TT UU SC SP nC nE nS nb na Ho Fa Be 0 ∧ CC h3 h lP' Y C E TT UU SC SP nC nE nS nb na St KA WA nK ce sN en KK WW ∧ RS h3 Be on ∧ mh_i h3 35 4 = 0 ∧ ∀ Q, mcall (d + 5) 17 [.ref 34, .int (Int32.ofNat p), .ref Fr] h Q = mw (d + 5) 17 Q 54 [some (.ref 34), some (.int (Int32.ofNat p)), some (.ref Fr), some (.ref St), some (.ref Y), some (.int (Int32.ofNat k0)), none] [] h3 := by
  obtain ⟨P, R, lP, pp⟩ := B.p
  obtain ⟨Ho, Fa, Be, r2, r3, r4⟩ := B.o
  have F := B.F
  have S := B.S
  have nY := B.q.n Y (by simp)
  have nYe : ¬ (Y = 34 ∨ Y = 35 ∨ Y = 38 ∨ Y = 41 ∨ Y = 51) := by omega
  have cB : cs h Be := ⟨34, 4, Or.inl ⟨rfl, by omega⟩, r4⟩
  have sB := (cs_so S cB).1
  have aB := (cs_so S cB).2
  unfold cAd at aB
  have nFB : Be ≠ Fr := fun e => nF (by rw [← e]; exact Or.inr (Or.inr (Or.inl r4)))
  -- before = from
  obtain ⟨h1, f1, k1, e1⟩ := l_144 (d := d + 3) 52 sB k nFB
  have x1 := fG_fq f1
  have kY := so_k sB B.q.gY (by omega) (by omega)
  have yW : ¬ sW Be 52 Y := by unfold sW; omega
  have y1 : sE h h1 := sE_G B.y x1 (fun b j w => by
    unfold efW
    unfold sW at w
    by_cases e : b = 52
    · exact Or.inr (Or.inr (Or.inr (Or.inr (Or.inr (Or.inl e)))))
    · exact Or.inr (Or.inr (Or.inr (Or.inr (Or.inr (Or.inr (Or.inr (Or.inr ⟨Be, Or.inr (Or.inr (Or.inl r4)), by omega, by omega⟩)))))))) yW
  have er1 : mh_r h1 = mh_r h := f1.2.2.1
  have i1 : ∀ b c j, mg h b c → c ≠ 8 → c ≠ 101 → ¬ (b = 34 ∨ b = 35 ∨ b = 38 ∨ b = 41 ∨ b = 51) → mh_i h1 b j = mh_i h b j := fun b c j g c8 c1 nb' => (sE_i B y1 g c8 c1 nb' j).1
  have F1 := CF_fG x1 F
  have S1 := CS_fG x1 S
  have p1 := CP_fG x1 pp
  have q1 := SQ_fG x1 B.q
  have g21 := F.g 21 100 250 (by decide +kernel)
  have g22 := F.g 22 100 250 (by decide +kernel)
  have gY := B.q.gY
  have gSt := cc.g
  have nSt : ¬ (St = 34 ∨ St = 35 ∨ St = 38 ∨ St = 41 ∨ St = 51) := by
    have a1 := (F.g 34 1 9 (by decide +kernel)).1
    have a2 := (F.g 35 5 19 (by decide +kernel)).1
    have a3 := (F.g 38 100 124 (by decide +kernel)).1
    have a4 := (F.g 41 100 12 (by decide +kernel)).1
    have a5 := (F.g 51 104 122 (by decide +kernel)).1
    have a6 := gSt.1
    rintro (e | e | e | e | e) <;> (rw [e] at a6; omega)
  obtain ⟨h2, P', R', lP', hl, K, f2, a4, pe, e2⟩ := v_97 (d := d + 4) (X := Be) F1 S1 p1 q1 (by rw [er1]; exact B.y) ((cs_fG x1).mpr cB) hp (by rw [i1 21 100 p g21 (by decide) (by decide) (by decide)]; exact b1) (by rw [i1 22 100 p g22 (by decide) (by decide) (by decide)]; exact b2) (by rw [i1 Y 7 5 gY (by decide) (by decide) nYe]; exact s5) hb (by rw [f1.2.2.2.1]; exact B.N)
  have k2 := lz_RS S1 f2.1 Be _ ((cs_fG x1).mpr cB) k1
  have y2 : sE h1 h2 := lf_sE p1 K.p F1 f2 pe
  have B1 : BS h1 Y C E TT UU SC SP nC nE nS := ⟨F1, S1, ⟨P, R, lP, p1⟩, q1, by rw [er1]; exact B.y, by rw [f1.2.2.2.1]; exact B.N, ⟨Ho, Fa, Be, by rw [er1]; exact r2, by rw [er1]; exact r3, by rw [er1]; exact r4⟩⟩
  have n34 := (F1.g 34 1 9 (by decide +kernel)).2
  have r34 : ∀ j, mh_r h2 34 j = mh_r h1 34 j := fun j => (f2.1.2.2 34 j n34 (fun w => by unfold lfW at w; omega)).2.2
  -- no asides
  have x3 : fG (fun b j => b = 34 ∧ j = 6) h2 (mh_si h2 34 6 0) := fG_si ⟨rfl, rfl⟩
  have nn2 : mh_n h ≤ mh_n h2 := Nat.le_trans (Nat.le_of_eq f1.2.2.2.1.symm) f2.1.1
  have V3 : SV (mh_si h2 34 6 0) P' R' lP' Y C E TT UU SC SP nC nE nS nb na Ho Fa Be 0 := ⟨CF_fG x3 K.F, CS_fG x3 K.S, CP_fG x3 K.p, SQ_fG x3 K.q, K.r0, K.r1, by rw [hi_si, if_neg (by omega)]; exact K.f2, by rw [hi_si, if_neg (by omega)]; exact K.f3, K.y, by rw [hr_si, r34, er1]; exact r2, by rw [hr_si, r34, er1]; exact r3, by rw [hr_si, r34, er1]; exact r4, by rw [hi_si, if_pos ⟨rfl, rfl⟩]; rfl⟩
  have y3 : sE h2 (mh_si h2 34 6 0) := sE_G K.y x3 (fun b j w => Or.inl ⟨w.1, by omega⟩) (by omega)
  have k3 : RS (mh_si h2 34 6 0) Be on := RS_fz (fG_z x3) (fun y hy j w => by omega) k2
  have y13 : sE h (mh_si h2 34 6 0) := sE_t y1 (sE_t y2 y3)
  have i3 : ∀ b c j, mg h b c → c ≠ 8 → c ≠ 101 → ¬ (b = 34 ∨ b = 35 ∨ b = 38 ∨ b = 41 ∨ b = 51) → mh_i (mh_si h2 34 6 0) b j = mh_i h b j ∧ mh_r (mh_si h2 34 6 0) b j = mh_r h b j := fun b c j g c8 c1 nb' => sE_i B y13 g c8 c1 nb' j
  have gK := cc.gK
  have gW := cc.gW
  have nKe : ¬ (KA = 34 ∨ KA = 35 ∨ KA = 38 ∨ KA = 41 ∨ KA = 51) := by have := cc.n KA (by simp); omega
  have nWe : ¬ (WA = 34 ∨ WA = 35 ∨ WA = 38 ∨ WA = 41 ∨ WA = 51) := by have := cc.n WA (by simp); omega
  have z13 := y13.1.1
  have c3 : CC (mh_si h2 34 6 0) h lP' Y C E TT UU SC SP nC nE nS nb na St KA WA nK ce sN en KK WW := ⟨fz_mg z13 gSt, by rw [(i3 St 9 13 gSt (by decide) (by decide) nSt).1]; exact cc.s, by rw [(i3 Y 7 9 gY (by decide) (by decide) nYe).2]; exact cc.r9, fz_mg z13 gK, by rw [fz_l z13 gK]; exact cc.lK, by rw [(i3 Y 7 10 gY (by decide) (by decide) nYe).2]; exact cc.r10, fz_mg z13 gW, by rw [fz_l z13 gW]; exact cc.lW, cc.n, cc.c, cc.b, by rw [← cc.k]; exact funext fun j => (i3 KA 100 j gK (by decide) (by decide) nKe).1, by rw [← cc.w]; exact funext fun j => (i3 WA 100 j gW (by decide) (by decide) nWe).1, Nat.le_trans B.N nn2, fun A t tu sum c0 p0 U => SU_sE B y13 U⟩
  have run : ∀ Q, mcall (d + 5) 17 [.ref 34, .int (Int32.ofNat p), .ref Fr] h Q = mw (d + 5) 17 Q 54 [some (.ref 34), some (.int (Int32.ofNat p)), some (.ref Fr), some (.ref St), some (.ref Y), some (.int (Int32.ofNat k0)), none] [] (mh_si h2 34 6 0) := fun Q => by
    have g34 := F.g 34 1 9 (by decide +kernel)
    have g34' : mg h1 34 1 := F1.g 34 1 9 (by decide +kernel)
    have g34'' : mg h2 34 1 := K.F.g 34 1 9 (by decide +kernel)
    have g2 := F.g 2 4 20 (by decide +kernel)
    have t0 := F.f 34 0 2 (by decide +kernel)
    have t1 := F.f 34 1 35 (by decide +kernel)
    have t3 := F.f 2 3 20 (by decide +kernel)
    have g20 := (F.g 20 105 250 (by decide +kernel)).1
    have g20' := (F.g 20 105 250 (by decide +kernel)).2
    have l20 := F.l 20 105 250 (by decide +kernel)
    have gB := sB.1
    have gF := (RS_so k).1
    have g35 : mg h1 35 5 := F1.g 35 5 19 (by decide +kernel)
    have gB1 : mg h1 Be 8 := fG_mg x1 gB
    have g21' : mg h1 2 4 := F1.g 2 4 20 (by decide +kernel)
    have yy := B.y
    have s12' : mh_i h2 St 12 = Int32.ofNat k0 := by
      have := (i3 St 9 12 gSt (by decide) (by decide) nSt).1
      rw [hi_si, if_neg (by omega)] at this
      rw [this]; exact s12
    have gSt2 : mg h2 St 9 := fz_mg y2.1.1 (fz_mg y1.1.1 gSt)
    clear F S B pp cc q wc V3 c3 K F1 S1 p1 q1 B1 x1 x3 y1 y2 y3 y13 z13 f2 f1 k k1 k2 k3
    simp (disch := omega) only [s_17_0, s_17_1, s_17_4, s_17_7, s_17_8, s_17_9, s_17_9n, s_17_9x, s_17_10, s_17_11, s_17_14, s_17_17, s_17_17n, s_17_17x, s_17_19, s_17_20, s_17_23, s_17_24, s_17_27, s_17_28, s_17_31, s_17_32, s_17_35, s_17_36, s_17_37, s_17_40, s_17_43, s_17_44, s_17_45, s_17_48, s_17_49, s_17_52, s_17_56, s_17_57, s_17_60, s_17_63, s_17_65, s_17_68, s_17_70, s_17_70x, s_17_71, s_17_73, s_17_75, s_17_78, s_17_81, s_17_83, s_17_85, s_17_88, s_17_89, s_17_92, s_17_94, s_17_97, s_17_100, s_17_102, s_17_105, s_17_108, s_17_109, s_17_112, s_17_115, s_17_117, s_17_120, s_17_123, s_17_125, s_17_128, s_17_131, s_17_132, s_17_134, s_17_137, s_17_140, s_17_142, s_17_144, s_17_147, s_17_148, s_17_150, s_17_153, s_17_155, s_17_155x, s_17_156, s_17_159, s_17_162, s_17_163, s_17_164, s_17_167, s_17_169, s_17_172, s_17_173, s_17_174, s_17_177, s_17_179, s_17_182, s_17_185, s_17_186, s_17_189, s_17_190, s_17_193, s_17_196, s_17_197, s_17_200, s_17_201, s_17_204, s_17_207, s_17_210, s_17_213, s_17_214, s_17_215, s_17_218, s_17_221, s_17_224, s_17_225, s_17_228, s_17_230, s_17_233, s_17_234, s_17_237, s_17_240, s_17_243, s_17_244, s_17_245, s_17_248, s_17_250, s_17_251, s_17_254, e_17, mv_i_1, mv_l_1, mv_a_1, mv_a_2, mv_a_3, mk2_n, mk2_i, mk2_l, mk2_a, mk2_u, mk2_x, mB_T, mB_F, mS_cons, mS_nil, mSB_T, mSB_F, mca_nil, mca_i, mca_l, mca_r, mca_u, mca_x, mcat_i, mcat_l, mcat_r, mcat_u, mcat_x, mK_some, mK_none, va_rf_s, va_rf_n, lgc_eq, lgc_lt, lgc_gt, lgc_ge, lgc_le, mrd_104, mrd_105, mrd_106, mrd_107, true_and, and_true, and_self, false_and, and_false, true_or, or_true, false_or, or_false, not_true_eq_false, not_false_eq_true, mgb, mga, mgr, mN, reduceCtorEq, ↓reduceIte, eq_self, ge_iff_le, gt_iff_lt, hk_si, hk_sj, hk_sr, hl_si, hl_sj, hl_sr, hn_si, hn_sj, hn_sr, hs_si, hs_sj, hs_sr, hi_sj, hi_sr, hj_si, hj_sr, hr_si, hr_sj, hi_si, hj_sj, hr_sr, mg_si, mg_sj, mg_sr, Nat.reduceAdd, Nat.reduceMul, Nat.reduceSub, Nat.reduceLT, Nat.reduceGT, Nat.reduceEqDiff, Nat.reduceLeDiff, Nat.left_eq_add, Nat.add_eq_left, Nat.reduceMod, Nat.reduceDiv, Nat.succ_ne_self, g34, g34', g34'', g2, t0, t1, t3, g20, g20', l20, rS, gSt, yy, gY, gB, gF, e1, er1, r4, g35, gB1, g21', e2, s12', gSt2, nn_mxT, nn_clamp]
  have a43 : mh_i (mh_si h2 34 6 0) 35 4 = 0 := by rw [hi_si, if_neg (by omega)]; exact a4
  exact ⟨_, P', R', lP', Ho, Fa, Be, hl, y13, V3, c3, k3, a43, run⟩
theorem v_17 (B : BS h Y C E TT UU SC SP nC nE nS) (hp : p < 250) (b1 : mh_i h 21 p = Int32.ofNat nb) (b2 : mh_i h 22 p = Int32.ofNat na) (s5 : mh_i h Y 5 = Int32.ofNat pa) (hb : pa ≤ 60000) (rS : mh_r h 20 p = some St) (s0 : mh_i h St 0 = Int32.ofNat kd) (hkd : kd < 1000) (s12 : mh_i h St 12 = Int32.ofNat k0) (cc : CC h h pa Y C E TT UU SC SP nC nE nS nb na St KA WA nK ce sN en KK WW) (q : ∀ lP, pa ≤ lP → cq KK (rl h lP C E TT UU SC SP nC nE nS nb na sN en A0 WW) t false false k0 ce) (wc : wC sN en A0 t false) (cn : cn3 t ≤ 366) (cF : cs h Fr) (nF : ¬ mine 0 h Fr) (k : RS h Fr on) (ok : okS A0 on) : ∃ h' Ho Fa, sE h h' ∧ BS h' Y C E TT UU SC SP nC nE nS ∧ mh_r h' 34 2 = some Ho ∧ mh_r h' 34 3 = some Fa ∧ RS h' Ho (spl en t false false on none).1 ∧ RS h' Fa (spl en t false false on none).2.1 ∧ mh_i h' 34 8 = spA kd (spl en t false false on none) ∧ ∀ Q, mcall (d + 5) 17 [.ref 34, .int (Int32.ofNat p), .ref Fr] h Q = Q none h' := by
  obtain ⟨h3, P', R', lP', Ho, Fa, Be, hl, y13, V3, c3, k3, a43, run⟩ := sp_w0 (d := d) (on := on) B hp b1 b2 s5 hb rS s0 hkd s12 cc q wc cn cF nF k ok
  have gSt := cc.g
  have nY := B.q.n Y (by simp)
  have nSt : ¬ (St = 34 ∨ St = 35 ∨ St = 38 ∨ St = 41 ∨ St = 51) := by
    have F := B.F
    have a1 := (F.g 34 1 9 (by decide +kernel)).1
    have a2 := (F.g 35 5 19 (by decide +kernel)).1
    have a3 := (F.g 38 100 124 (by decide +kernel)).1
    have a4 := (F.g 41 100 12 (by decide +kernel)).1
    have a5 := (F.g 51 104 122 (by decide +kernel)).1
    have a6 := gSt.1
    rintro (e | e | e | e | e) <;> (rw [e] at a6; omega)
  obtain ⟨h4, Ho', Fa', Be', w6', x4, V4, c4, kh, kf, al, e4⟩ := (sp_all (h0 := h) (d := d) (P := P') (R := R') (lP := lP') (A0 := A0) (v1 := some (.int (Int32.ofNat p))) (v2 := some (.ref Fr)) t).1 h3 Ho Fa Be 0 k0 ce on none V3 c3 k3 ok wc (q lP' hl) (Nat.le_refl _) (by omega)
  have y4 := sS_sE V3 x4
  rw [a43, show ∀ x : Int32, 0 ||| x = x from fun x => by simp] at al
  have z4 := (sE_t y13 y4).1.1
  have hN4 : 2644 ≤ mh_n h4 := Nat.le_trans B.N z4.1
  have i4 : ∀ b c j, mg h b c → c ≠ 8 → c ≠ 101 → ¬ (b = 34 ∨ b = 35 ∨ b = 38 ∨ b = 41 ∨ b = 51) → mh_i h4 b j = mh_i h b j ∧ mh_r h4 b j = mh_r h b j := fun b c j g c8 c1 nb' => sE_i B (sE_t y13 y4) g c8 c1 nb' j
  -- the end
  have fin : ∀ h5, fG (fun b j => b = 34 ∧ j = 8) h4 h5 → sE h h5 ∧ BS h5 Y C E TT UU SC SP nC nE nS ∧ mh_r h5 34 2 = some Ho' ∧ mh_r h5 34 3 = some Fa' ∧ RS h5 Ho' (spl en t false false on none).1 ∧ RS h5 Fa' (spl en t false false on none).2.1 := fun h5 x5 => by
    obtain ⟨c1, c2, -⟩ := V4.cH
    have a1 := (cs_so V4.S c1).2
    have a2 := (cs_so V4.S c2).2
    unfold cAd at a1 a2
    have er := fG_r x5
    exact ⟨sE_t y13 (sE_t y4 (sE_G V4.y x5 (fun b j w => Or.inl ⟨w.1, by omega⟩) (by omega))), ⟨CF_fG x5 V4.F, CS_fG x5 V4.S, ⟨P', R', lP', CP_fG x5 V4.p⟩, SQ_fG x5 V4.q, by rw [er]; exact V4.y, by rw [x5.2.2.2.1]; exact hN4, ⟨Ho', Fa', Be', by rw [er]; exact V4.h2, by rw [er]; exact V4.h3, by rw [er]; exact V4.h4⟩⟩, by rw [er]; exact V4.h2, by rw [er]; exact V4.h3, RS_fz (fG_z x5) (fun y hy j w => by omega) kh, RS_fz (fG_z x5) (fun y hy j w => by omega) kf⟩
  have g34 := V4.F.g 34 1 9 (by decide +kernel)
  have g35 := V4.F.g 35 5 19 (by decide +kernel)
  have t1 := V4.F.f 34 1 35 (by decide +kernel)
  have t3 := V4.h3
  have gF := (RS_so kf).1
  have gS4 := fz_mg z4 gSt
  have v0 : mh_i h4 St 0 = Int32.ofNat kd := by rw [(i4 St 9 0 gSt (by decide) (by decide) nSt).1]; exact s0
  have v13 : mh_i h4 St 13 = Int32.ofNat ce := by rw [(i4 St 9 13 gSt (by decide) (by decide) nSt).1]; exact cc.s
  have ceb := cc.c
  have nKb := cc.b
  have lee : (ce ≤ ce) = True := eq_true (Nat.le_refl _)
  have e7 : (7 : Int32) = Int32.ofNat 7 := rfl
  have tS : St ≠ 34 := fun e => nSt (Or.inl e)
  have FS : Fa' ≠ 34 := fun e => by have a := gF.1; rw [e, g34.1] at a; omega
  by_cases c7 : kd = 7
  · have ne7 : (Int32.ofNat kd = 7) = True := by rw [e7, nn_eq (by omega) (by omega)]; exact eq_true c7
    cases hf : (spl en t false false on none).2.1 with
    | none =>
      have f0 : mh_i h4 Fa' 0 = 1 := by rw [hf] at kf; exact kf.1.z
      have z10 : ((1 : Int32) = 0) = False := by decide
      obtain ⟨o1, o2, o3, o4, o5, o6⟩ := fin _ (fG_si (h := h4) (a := 34) (k := 8) (v := (spl en t false false on none).2.2) ⟨rfl, rfl⟩)
      refine ⟨_, Ho', Fa', o1, o2, o3, o4, o5, by rw [hf] at o6; exact o6, ?_, fun Q => ?_⟩
      · rw [hi_si, if_pos ⟨rfl, rfl⟩]; unfold spA; rw [if_neg (by rw [hf]; exact fun w => w.2 rfl)]
      · rw [run Q, e4 Q]
        clear run e4 fin o1 o2 o3 o4 o5 o6 V4 V3 B cc c3 c4 q wc kf kh
        simp (disch := omega) only [s_17_0, s_17_1, s_17_4, s_17_7, s_17_8, s_17_9, s_17_9n, s_17_9x, s_17_10, s_17_11, s_17_14, s_17_17, s_17_17n, s_17_17x, s_17_19, s_17_20, s_17_23, s_17_24, s_17_27, s_17_28, s_17_31, s_17_32, s_17_35, s_17_36, s_17_37, s_17_40, s_17_43, s_17_44, s_17_45, s_17_48, s_17_49, s_17_52, s_17_54, s_17_56, s_17_57, s_17_60, s_17_63, s_17_65, s_17_68, s_17_70, s_17_70x, s_17_71, s_17_73, s_17_75, s_17_78, s_17_81, s_17_83, s_17_85, s_17_88, s_17_89, s_17_92, s_17_94, s_17_97, s_17_100, s_17_102, s_17_105, s_17_108, s_17_109, s_17_112, s_17_115, s_17_117, s_17_120, s_17_123, s_17_125, s_17_128, s_17_131, s_17_132, s_17_134, s_17_137, s_17_140, s_17_142, s_17_144, s_17_147, s_17_148, s_17_150, s_17_153, s_17_155, s_17_155x, s_17_156, s_17_159, s_17_162, s_17_163, s_17_164, s_17_167, s_17_169, s_17_172, s_17_173, s_17_174, s_17_177, s_17_179, s_17_182, s_17_185, s_17_186, s_17_189, s_17_190, s_17_193, s_17_196, s_17_197, s_17_200, s_17_201, s_17_204, s_17_207, s_17_210, s_17_213, s_17_214, s_17_215, s_17_218, s_17_221, s_17_224, s_17_225, s_17_228, s_17_230, s_17_233, s_17_234, s_17_237, s_17_240, s_17_243, s_17_244, s_17_245, s_17_248, s_17_250, s_17_251, s_17_254, e_17, mv_i_1, mv_l_1, mv_a_1, mv_a_2, mv_a_3, mk2_n, mk2_i, mk2_l, mk2_a, mk2_u, mk2_x, mB_T, mB_F, mS_cons, mS_nil, mSB_T, mSB_F, mca_nil, mca_i, mca_l, mca_r, mca_u, mca_x, mcat_i, mcat_l, mcat_r, mcat_u, mcat_x, mK_some, mK_none, va_rf_s, va_rf_n, lgc_eq, lgc_lt, lgc_gt, lgc_ge, lgc_le, mrd_104, mrd_105, mrd_106, mrd_107, true_and, and_true, and_self, false_and, and_false, true_or, or_true, false_or, or_false, not_true_eq_false, not_false_eq_true, mgb, mga, mgr, mN, reduceCtorEq, ↓reduceIte, eq_self, ge_iff_le, gt_iff_lt, hk_si, hk_sj, hk_sr, hl_si, hl_sj, hl_sr, hn_si, hn_sj, hn_sr, hs_si, hs_sj, hs_sr, hi_sj, hi_sr, hj_si, hj_sr, hr_si, hr_sj, hi_si, hj_sj, hr_sr, mg_si, mg_sj, mg_sr, Nat.reduceAdd, Nat.reduceMul, Nat.reduceSub, Nat.reduceLT, Nat.reduceGT, Nat.reduceEqDiff, Nat.reduceLeDiff, Nat.left_eq_add, Nat.add_eq_left, Nat.reduceMod, Nat.reduceDiv, Nat.succ_ne_self, gS4, v13, nn_le, lee, g34, g35, t1, t3, al, v0, ne7, gF, f0, z10, tS, FS]
    | some FF =>
      have f0 : mh_i h4 Fa' 0 = 0 := by rw [hf] at kf; exact kf.1.z
      have z00 : ((0 : Int32) = 0) = True := by decide
      obtain ⟨o1, o2, o3, o4, o5, o6⟩ := fin _ (fG_t (fG_si (h := h4) (a := 34) (k := 8) (v := (spl en t false false on none).2.2) ⟨rfl, rfl⟩) (fG_si (a := 34) (k := 8) (v := (spl en t false false on none).2.2 ||| 8) ⟨rfl, rfl⟩))
      refine ⟨_, Ho', Fa', o1, o2, o3, o4, o5, by rw [hf] at o6; exact o6, ?_, fun Q => ?_⟩
      · rw [hi_si, if_pos ⟨rfl, rfl⟩]; unfold spA; rw [if_pos ⟨c7, by rw [hf]; exact fun w => by cases w⟩]
      · rw [run Q, e4 Q]
        clear run e4 fin o1 o2 o3 o4 o5 o6 V4 V3 B cc c3 c4 q wc kf kh
        simp (disch := omega) only [s_17_0, s_17_1, s_17_4, s_17_7, s_17_8, s_17_9, s_17_9n, s_17_9x, s_17_10, s_17_11, s_17_14, s_17_17, s_17_17n, s_17_17x, s_17_19, s_17_20, s_17_23, s_17_24, s_17_27, s_17_28, s_17_31, s_17_32, s_17_35, s_17_36, s_17_37, s_17_40, s_17_43, s_17_44, s_17_45, s_17_48, s_17_49, s_17_52, s_17_54, s_17_56, s_17_57, s_17_60, s_17_63, s_17_65, s_17_68, s_17_70, s_17_70x, s_17_71, s_17_73, s_17_75, s_17_78, s_17_81, s_17_83, s_17_85, s_17_88, s_17_89, s_17_92, s_17_94, s_17_97, s_17_100, s_17_102, s_17_105, s_17_108, s_17_109, s_17_112, s_17_115, s_17_117, s_17_120, s_17_123, s_17_125, s_17_128, s_17_131, s_17_132, s_17_134, s_17_137, s_17_140, s_17_142, s_17_144, s_17_147, s_17_148, s_17_150, s_17_153, s_17_155, s_17_155x, s_17_156, s_17_159, s_17_162, s_17_163, s_17_164, s_17_167, s_17_169, s_17_172, s_17_173, s_17_174, s_17_177, s_17_179, s_17_182, s_17_185, s_17_186, s_17_189, s_17_190, s_17_193, s_17_196, s_17_197, s_17_200, s_17_201, s_17_204, s_17_207, s_17_210, s_17_213, s_17_214, s_17_215, s_17_218, s_17_221, s_17_224, s_17_225, s_17_228, s_17_230, s_17_233, s_17_234, s_17_237, s_17_240, s_17_243, s_17_244, s_17_245, s_17_248, s_17_250, s_17_251, s_17_254, e_17, mv_i_1, mv_l_1, mv_a_1, mv_a_2, mv_a_3, mk2_n, mk2_i, mk2_l, mk2_a, mk2_u, mk2_x, mB_T, mB_F, mS_cons, mS_nil, mSB_T, mSB_F, mca_nil, mca_i, mca_l, mca_r, mca_u, mca_x, mcat_i, mcat_l, mcat_r, mcat_u, mcat_x, mK_some, mK_none, va_rf_s, va_rf_n, lgc_eq, lgc_lt, lgc_gt, lgc_ge, lgc_le, mrd_104, mrd_105, mrd_106, mrd_107, true_and, and_true, and_self, false_and, and_false, true_or, or_true, false_or, or_false, not_true_eq_false, not_false_eq_true, mgb, mga, mgr, mN, reduceCtorEq, ↓reduceIte, eq_self, ge_iff_le, gt_iff_lt, hk_si, hk_sj, hk_sr, hl_si, hl_sj, hl_sr, hn_si, hn_sj, hn_sr, hs_si, hs_sj, hs_sr, hi_sj, hi_sr, hj_si, hj_sr, hr_si, hr_sj, hi_si, hj_sj, hr_sr, mg_si, mg_sj, mg_sr, Nat.reduceAdd, Nat.reduceMul, Nat.reduceSub, Nat.reduceLT, Nat.reduceGT, Nat.reduceEqDiff, Nat.reduceLeDiff, Nat.left_eq_add, Nat.add_eq_left, Nat.reduceMod, Nat.reduceDiv, Nat.succ_ne_self, gS4, v13, nn_le, lee, g34, g35, t1, t3, al, v0, ne7, gF, f0, z00, tS, FS]
  · have ne7 : (Int32.ofNat kd = 7) = False := by rw [e7, nn_eq (by omega) (by omega)]; exact eq_false c7
    obtain ⟨o1, o2, o3, o4, o5, o6⟩ := fin _ (fG_si (h := h4) (a := 34) (k := 8) (v := (spl en t false false on none).2.2) ⟨rfl, rfl⟩)
    refine ⟨_, Ho', Fa', o1, o2, o3, o4, o5, o6, ?_, fun Q => ?_⟩
    · rw [hi_si, if_pos ⟨rfl, rfl⟩]; unfold spA; rw [if_neg (fun w => c7 w.1)]
    · rw [run Q, e4 Q]
      clear run e4 fin o1 o2 o3 o4 o5 o6 V4 V3 B cc c3 c4 q wc kf kh
      simp (disch := omega) only [s_17_0, s_17_1, s_17_4, s_17_7, s_17_8, s_17_9, s_17_9n, s_17_9x, s_17_10, s_17_11, s_17_14, s_17_17, s_17_17n, s_17_17x, s_17_19, s_17_20, s_17_23, s_17_24, s_17_27, s_17_28, s_17_31, s_17_32, s_17_35, s_17_36, s_17_37, s_17_40, s_17_43, s_17_44, s_17_45, s_17_48, s_17_49, s_17_52, s_17_54, s_17_56, s_17_57, s_17_60, s_17_63, s_17_65, s_17_68, s_17_70, s_17_70x, s_17_71, s_17_73, s_17_75, s_17_78, s_17_81, s_17_83, s_17_85, s_17_88, s_17_89, s_17_92, s_17_94, s_17_97, s_17_100, s_17_102, s_17_105, s_17_108, s_17_109, s_17_112, s_17_115, s_17_117, s_17_120, s_17_123, s_17_125, s_17_128, s_17_131, s_17_132, s_17_134, s_17_137, s_17_140, s_17_142, s_17_144, s_17_147, s_17_148, s_17_150, s_17_153, s_17_155, s_17_155x, s_17_156, s_17_159, s_17_162, s_17_163, s_17_164, s_17_167, s_17_169, s_17_172, s_17_173, s_17_174, s_17_177, s_17_179, s_17_182, s_17_185, s_17_186, s_17_189, s_17_190, s_17_193, s_17_196, s_17_197, s_17_200, s_17_201, s_17_204, s_17_207, s_17_210, s_17_213, s_17_214, s_17_215, s_17_218, s_17_221, s_17_224, s_17_225, s_17_228, s_17_230, s_17_233, s_17_234, s_17_237, s_17_240, s_17_243, s_17_244, s_17_245, s_17_248, s_17_250, s_17_251, s_17_254, e_17, mv_i_1, mv_l_1, mv_a_1, mv_a_2, mv_a_3, mk2_n, mk2_i, mk2_l, mk2_a, mk2_u, mk2_x, mB_T, mB_F, mS_cons, mS_nil, mSB_T, mSB_F, mca_nil, mca_i, mca_l, mca_r, mca_u, mca_x, mcat_i, mcat_l, mcat_r, mcat_u, mcat_x, mK_some, mK_none, va_rf_s, va_rf_n, lgc_eq, lgc_lt, lgc_gt, lgc_ge, lgc_le, mrd_104, mrd_105, mrd_106, mrd_107, true_and, and_true, and_self, false_and, and_false, true_or, or_true, false_or, or_false, not_true_eq_false, not_false_eq_true, mgb, mga, mgr, mN, reduceCtorEq, ↓reduceIte, eq_self, ge_iff_le, gt_iff_lt, hk_si, hk_sj, hk_sr, hl_si, hl_sj, hl_sr, hn_si, hn_sj, hn_sr, hs_si, hs_sj, hs_sr, hi_sj, hi_sr, hj_si, hj_sr, hr_si, hr_sj, hi_si, hj_sj, hr_sr, mg_si, mg_sj, mg_sr, Nat.reduceAdd, Nat.reduceMul, Nat.reduceSub, Nat.reduceLT, Nat.reduceGT, Nat.reduceEqDiff, Nat.reduceLeDiff, Nat.left_eq_add, Nat.add_eq_left, Nat.reduceMod, Nat.reduceDiv, Nat.succ_ne_self, gS4, v13, nn_le, lee, g34, g35, t1, al, v0, ne7, tS]
end SPw
