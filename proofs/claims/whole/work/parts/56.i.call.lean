set_option maxRecDepth 100000
/-! the reference's call, whole -/
section CFl
variable {d : Nat} {h h1 h2 : mh_H} {sp : Nat → Nat → Bool} {nm : Nat → Nat} {KN : Nat → Prop} {K : Nat → Int32} {P : Nat → Nat} {D : lyD} {FK : Nat → Nat} {T : tr} {X : lcx} {L L' : cen} {b b' id bs p p1 bk k pk n a m cnt g fk zk f : Nat} {t r cs : tr} {o : Int32} {w : Nat × Nat}
/-- names known in the function: none yet -/
theorem RLS_0 (S : RLS h nm KN X L b id bs (p + 1) bk) (hb : bk ≤ 2 * p) {W : Nat → Nat → Prop} (f : fG W h h1) (e : ∀ y j, y ≠ 81 → mh_i h1 y j = mh_i h y j) (e8 : ∀ j, j ≠ 43 → j ≠ 44 → mh_i h1 81 j = mh_i h 81 j) (e43 : mh_i h1 81 43 = Int32.ofNat (bs + L.length)) (e44 : mh_i h1 81 44 = Int32.ofNat (bk + 1)) : RLS h1 nm KN (lyC D X L p g a) [] 0 (bk + 1) (bs + L.length) (p + 1) (bk + 1) := by
  have R := S.R
  have q := S.q
  obtain ⟨m1, m2⟩ := S.m
  have sl := S.l
  have hl := R.l
  have x1 : (lyC D X L p g a).nb = X.nb + cnZl L := rfl
  have x2 : (lyC D X L p g a).na = X.na + cnAl L := rfl
  have z1 : cnZl [] = 0 := rfl
  have z2 : cnAl [] = 0 := rfl
  have l0 : ([] : cen).length = 0 := rfl
  refine RLS.of ⟨REN.of ⟨RF_G f R.F, by rw [l0, Nat.add_zero]; exact (e8 42 (by decide) (by decide)).trans R.e, e43, by rw [l0]; omega, trivial, by omega⟩, (e8 33 (by decide) (by decide)).trans S.p, e44, ?_, ?_, (e8 47 (by decide) (by decide)).trans S.z, ?_, ?_, ⟨Nat.le_refl _, by omega, q.2.2⟩, ⟨by rw [x1, z1]; omega, by rw [x2, z2]; omega⟩, by rw [x1, x2, z1, z2, l0]; omega, fun a z mem => absurd mem (by simp), (e8 48 (by decide) (by decide)).trans S.y⟩
  · rw [x1, z1, Nat.add_zero]
    exact (e8 45 (by decide) (by decide)).trans S.n
  · rw [x2, z2, Nat.add_zero]
    exact (e8 46 (by decide) (by decide)).trans S.a
  · rw [x1, x2, z1, z2, l0, Nat.add_zero, Nat.add_zero, Nat.add_zero]
    have v := EVA_c (h1 := h1) (fun y j u1 u2 _ => e y j (by omega)) S.v
    have nA : ∀ s, s < X.nb + cnZl L → (lyC D X L p g a).nA [] s = X.nA L s := fun s hs => if_pos hs
    have aA : ∀ s, s < X.na + cnAl L → (lyC D X L p g a).aA [] s = X.aA L s := fun s hs => if_pos hs
    refine ⟨fun j hj => ?_, v.2.1, v.2.2⟩
    obtain ⟨s, s1, s2⟩ := v.1 j hj
    refine ⟨s, s1, ?_⟩
    rcases s2 with ⟨c1, c2, c3⟩ | ⟨c1, c2, c3⟩
    · exact Or.inl ⟨c1, c2, by rw [nA s c2]; exact c3⟩
    · exact Or.inr ⟨c1, c2, by rw [aA s c2]; exact c3⟩
  · rw [l0, Nat.add_zero]
    exact EID_c (fun j _ => e 112 j (by decide)) (by omega) S.i
theorem u_348 (S : RLS h nm KN X L b id bs (p + 1) bk) (hb : bk ≤ 2 * p) (C : RLC h nm KN D K m cnt FK T) {ff s : Nat} (A : trR h nm (.branch n (.branch a (.leaf ()) (.branch ff (.leaf ()) t)) r) k (Int32.ofNat pk)) (k7 : tK n = 7) (ka : tK a = 13 ∨ tK a = 33) (kf : tK ff = 13) (va : tK a = 13 → ∃ v : Nat, v < m ∧ tV a = (v : Int) ∧ K v = 2) (vf : ∃ v : Nat, v < m ∧ tV ff = (v : Int) ∧ K v = 2) (tv : tvT K m t) (hk : k + 3 + ts t ≤ cnt) {c : Nat} (cw : chW (mh_i h 96) c k (FK X.fu)) (hX : X.fu < D.c)
    (blk : ∀ g, g < X.fu → ∀ h1, RLC h1 nm KN D K m cnt FK T → RLS h1 nm KN (lyC D X L p g a) (D.FP g) (D.FP g).length (bk + 1) (bs + L.length) (p + 1) (bk + 1) → ∃ h2, BPz h1 h2 D nm f true (D.FT g) (D.B g + 1) (D.B g) (D.S g) (p + 1) (D.FP g) (D.FP g).length (lyC D X L p g a) (bs + L.length) (bk + 1) (lyQ D f true (D.FT g) (p + 1) (D.FP g) (D.FP g).length (lyC D X L p g a)) ∧ (mh_i h2 81 42 = mh_i h1 81 42 ∧ mh_i h2 81 45 = mh_i h1 81 45 ∧ mh_i h2 81 46 = mh_i h1 81 46) ∧ ∀ Q, mcall (d + 4) 346 [.ref 81, .int (Int32.ofNat (D.B g)), .int (Int32.ofNat (FK g)), .int (Int32.ofNat p), .int (Int32.ofNat (bk + 1))] h1 Q = Q none h2) :
    ∃ h', STz h h' nm KN X L L b id bs (p + 1) bk (lyG (fw (wrC D.sp D.H X.fu (loE D.sp L) a ff t) (lyWc D n t L X (fmH D.sp D.H X.fu (tV ff).toNat)), p) fun _ => lyUc D (lyQ D f) p L X a (fmH D.sp D.H X.fu (tV ff).toNat)) ∧ ((lyG (fw (wrC D.sp D.H X.fu (loE D.sp L) a ff t) (lyWc D n t L X (fmH D.sp D.H X.fu (tV ff).toNat)), p) fun _ => lyUc D (lyQ D f) p L X a (fmH D.sp D.H X.fu (tV ff).toNat)).1.1 = 0 → ∀ Pt, LYN D Pt (LYR D Pt f) n (.branch a (.leaf ()) (.branch ff (.leaf ()) t)) k s p L X → PTz h' nm Pt (p + 1) (Pt p).E) ∧ ∀ Q, mcall (d + 5) 348 [.ref 81, .int (Int32.ofNat k), .int (Int32.ofNat p)] h Q = Q none h' := by
  have a1 := fun Q => c_348a (d := d) (x2 := Int32.ofNat p) S C A ka kf va vf hk cw hX Q
  -- a fault
  have flt : ∀ w : Nat × Nat, ¬ w.1 = 0 → fw (wrC D.sp D.H X.fu (loE D.sp L) a ff t) (lyWc D n t L X (fmH D.sp D.H X.fu (tV ff).toNat)) = w → ∀ hx, fG lyWr h hx → kpR (p + 1) (bs + L.length) h hx → (∀ Q, mcall (d + 5) 348 [.ref 81, .int (Int32.ofNat k), .int (Int32.ofNat p)] h Q = Q none (wrH hx (Int32.ofNat w.1) (Int32.ofNat w.2))) → ∃ h', STz h h' nm KN X L L b id bs (p + 1) bk (lyG (fw (wrC D.sp D.H X.fu (loE D.sp L) a ff t) (lyWc D n t L X (fmH D.sp D.H X.fu (tV ff).toNat)), p) fun _ => lyUc D (lyQ D f) p L X a (fmH D.sp D.H X.fu (tV ff).toNat)) ∧ ((lyG (fw (wrC D.sp D.H X.fu (loE D.sp L) a ff t) (lyWc D n t L X (fmH D.sp D.H X.fu (tV ff).toNat)), p) fun _ => lyUc D (lyQ D f) p L X a (fmH D.sp D.H X.fu (tV ff).toNat)).1.1 = 0 → ∀ Pt, LYN D Pt (LYR D Pt f) n (.branch a (.leaf ()) (.branch ff (.leaf ()) t)) k s p L X → PTz h' nm Pt (p + 1) (Pt p).E) ∧ ∀ Q, mcall (d + 5) 348 [.ref 81, .int (Int32.ofNat k), .int (Int32.ofNat p)] h Q = Q none h' := by
    intro w hw ew hx fx kx run
    rw [ew, lyG_n (q := (w, p)) hw]
    exact ⟨_, ST_w fx kx hw, fun z => absurd z hw, run⟩
  generalize hW0 : fw (if tK a = 13 then (lkW (loE D.sp L) (tV a) false, tP a) else (0, 0)) (if fmH D.sp D.H X.fu (tV ff).toNat = none then (4, tP ff) else (0, 0)) = W0 at a1
  by_cases c0 : W0.1 = 0
  · -- the function is there
    cases hf : fmH D.sp D.H X.fu (tV ff).toNat with
    | none =>
      exfalso
      rw [hf, if_pos rfl] at hW0
      have : ¬ W0.1 = 0 := by
        rw [← hW0]
        unfold fw
        by_cases c : (if tK a = 13 then (lkW (loE D.sp L) (tV a) false, tP a) else (0, 0)).1 = 0
        · rw [if_pos c]; show ¬ 4 = 0; decide
        · rw [if_neg c]; exact c
      exact this c0
    | some g =>
    have gX : g < X.fu := (fsr_b _ _ hf).1
    have hg : g < D.c := by omega
    have eC := wrC_s (sp := D.sp) (H := D.H) (nf := X.fu) (lo := loE D.sp L) (a := a) (q := ff) (t := t) hW0 c0 hf
    have a2 : ∀ Q, mcall (d + 5) 348 [.ref 81, .int (Int32.ofNat k), .int (Int32.ofNat p)] h Q = mw (d + 5) 348 Q 70 [some (.ref 81), some (.int (Int32.ofNat k)), some (.int (Int32.ofNat p)), some (.int (Int32.ofNat (k + 2))), some (.int (Int32.ofNat (FK g))), none, none, none, none, none, none, none, none] [] h := fun Q => by
      rw [a1 Q, if_pos c0, hf]
    have b1 := fun Q => c_348b (d := d) (x2 := Int32.ofNat p) S C A ka hk hg Q
    rw [hf] at flt
    rw [eC] at flt ⊢
    have FQ := C.f g hg
    obtain ⟨h1', h5', h2'⟩ := FQ.h
    have B := FQ.B
    have u := FQ.u
    have hc := C.c
    have F := S.R.F
    by_cases c5 : ¬ Int32.ofNat (tlc t) = D.H (6 * g + 1)
    · rw [if_pos c5] at flt ⊢
      refine flt (5, tP ff) (by show ¬ 5 = 0; decide) (fw_n (by show ¬ 5 = 0; decide)) h fG_id kpR_r (fun Q => ?_)
      rw [a2 Q, b1 Q, if_pos c5]
      rfl
    rw [if_neg c5] at flt ⊢
    by_cases c6 : tK a = 13 ∧ D.H (6 * g + 5) = -1
    · rw [if_pos c6] at flt ⊢
      refine flt (6, tP ff) (by show ¬ 6 = 0; decide) (fw_n (by show ¬ 6 = 0; decide)) h fG_id kpR_r (fun Q => ?_)
      rw [a2 Q, b1 Q, if_neg c5, if_pos c6]
      rfl
    rw [if_neg c6] at flt ⊢
    obtain ⟨⟨q1, q2, -, -, -, q6⟩, ⟨⟨u1, u2, u3, -, u5, u6⟩, -, ⟨v1, v2, v3, -, v5, v6⟩, -, V⟩, -⟩ := A
    have l0 : ts (Lean.RArray.leaf ()) = 0 := rfl
    rw [l0, show k + 1 + 1 + 0 = k + 2 from rfl] at V
    rw [show k + 2 + 1 + 0 = k + 3 from rfl] at V
    have q6' : mh_i h 97 k = Int32.ofNat (3 + ts t) := by rw [q6, ts_B, ts_B, l0]; congr 1; omega
    have e93 : mh_i h 93 k = 7 := by rw [q1, k7]; rfl
    have l1 := fun Q => l_348l (d := d) (sp := D.sp) (K := K) (m := m) (zk := 3 + ts t) (x2 := some (.int (Int32.ofNat p))) (x3 := some (.int (Int32.ofNat (k + 2)))) (x4 := some (.int (Int32.ofNat (FK g)))) (x5 := some (.int (Int32.ofNat (D.FP g).length))) (v6 := Int32.ofNat (tlc t)) (x8 := none) (x9 := none) (x10 := none) (x11 := none) (x12 := none) S C.n C.q q6' (by omega) (by rw [e93]; decide) t (k + 3) (by omega) V tv (by omega) Q
    by_cases c8 : (lwT (loE D.sp L) t).1 = 0
    · -- nothing wrong with its SUMs
      rw [fw_y c8] at flt ⊢
      have et : tlc t = (D.FP g).length := by
        have e := Classical.not_not.mp c5
        rw [h1'] at e
        have tb := tlc_le t
        exact (nn_eq (a := tlc t) (b := (D.FP g).length) (by omega) (by omega)) ▸ e
      have eW : lyWc D n t L X (some g) = if ¬ D.H (6 * g + 2) = -1 then (2, D.P (D.H (6 * g + 2)).toNatClampNeg) else if 12 < X.nb + cnZl L + tlc t then (10, tP n) else (0, 0) := rfl
      rw [eW, h2', et] at flt ⊢
      -- base, blocks
      have g81 := F.g 81 14 70 (by decide +kernel)
      have e1' : ∀ k, Int32.ofNat k + 1 = Int32.ofNat (k + 1) := fun k => nn_add (a := k) (b := 1)
      have e42 := S.R.e
      have e43 := S.R.b
      have e44 := S.k
      have e45 := S.n
      have dst : ∀ Q, mw (d + 5) 348 Q 197 [some (.ref 81), some (.int (Int32.ofNat k)), some (.int (Int32.ofNat p)), some (.int (Int32.ofNat (k + 2))), some (.int (Int32.ofNat (FK g))), some (.int (Int32.ofNat (D.FP g).length)), some (.int (Int32.ofNat (tlc t))), some (.int (Int32.ofNat (k + (3 + ts t)))), none, none, none, none, none] [] h = mw (d + 5) 348 Q 242 [some (.ref 81), some (.int (Int32.ofNat k)), some (.int (Int32.ofNat p)), some (.int (Int32.ofNat (k + 2))), some (.int (Int32.ofNat (FK g))), some (.int (Int32.ofNat (D.FP g).length)), some (.int (Int32.ofNat (tlc t))), some (.int (Int32.ofNat (bs + L.length))), some (.int (Int32.ofNat bs)), some (.int (Int32.ofNat (X.nb + cnZl L))), some (.int (Int32.ofNat (bk + 1))), some (.int (Int32.ofNat 0)), none] [] (mh_si (mh_si h 81 43 (Int32.ofNat (bs + L.length))) 81 44 (Int32.ofNat (bk + 1))) := fun Q => by
        rw [show Int32.ofNat 0 = 0 from rfl]
        clear S C F FQ flt a1 a2 b1 l1 V eC
        simp (disch := omega) only [s_348_0, s_348_1, s_348_2, s_348_3, s_348_4, s_348_5, s_348_7, s_348_8, s_348_11, s_348_12, s_348_13, s_348_14, s_348_15, s_348_17, s_348_20, s_348_21, s_348_22, s_348_23, s_348_24, s_348_25, s_348_28, s_348_31, s_348_32, s_348_33, s_348_36, s_348_37, s_348_38, s_348_39, s_348_40, s_348_43, s_348_46, s_348_48, s_348_49, s_348_52, s_348_55, s_348_56, s_348_58, s_348_59, s_348_62, s_348_63, s_348_64, s_348_65, s_348_68, s_348_69, s_348_70, s_348_71, s_348_73, s_348_76, s_348_78, s_348_79, s_348_80, s_348_81, s_348_83, s_348_84, s_348_86, s_348_87, s_348_88, s_348_89, s_348_91, s_348_93, s_348_94, s_348_95, s_348_98, s_348_101, s_348_104, s_348_105, s_348_107, s_348_110, s_348_112, s_348_115, s_348_117, s_348_119, s_348_122, s_348_123, s_348_124, s_348_125, s_348_128, s_348_129, s_348_130, s_348_131, s_348_134, s_348_135, s_348_136, s_348_137, s_348_138, s_348_140, s_348_143, s_348_144, s_348_146, s_348_149, s_348_152, s_348_153, s_348_155, s_348_156, s_348_159, s_348_160, s_348_161, s_348_162, s_348_163, s_348_164, s_348_166, s_348_168, s_348_169, s_348_170, s_348_173, s_348_176, s_348_177, s_348_179, s_348_182, s_348_185, s_348_186, s_348_187, s_348_189, s_348_192, s_348_194, s_348_197, s_348_198, s_348_201, s_348_203, s_348_204, s_348_207, s_348_209, s_348_210, s_348_213, s_348_215, s_348_216, s_348_217, s_348_220, s_348_223, s_348_224, s_348_225, s_348_228, s_348_229, s_348_230, s_348_233, s_348_234, s_348_237, s_348_239, s_348_240, s_348_244, s_348_246, s_348_249, s_348_250, s_348_252, s_348_254, s_348_256, s_348_259, s_348_260, s_348_263, s_348_265, s_348_266, s_348_267, s_348_269, s_348_270, s_348_271, s_348_272, s_348_275, s_348_277, s_348_278, s_348_279, s_348_281, s_348_282, s_348_283, s_348_286, s_348_287, s_348_288, s_348_290, s_348_291, s_348_292, s_348_294, s_348_295, s_348_298, s_348_299, s_348_300, s_348_303, s_348_306, s_348_309, s_348_312, s_348_313, s_348_316, s_348_318, s_348_319, s_348_321, s_348_324, s_348_325, s_348_327, s_348_328, s_348_331, s_348_332, s_348_333, s_348_334, s_348_336, s_348_338, s_348_340, s_348_343, s_348_344, s_348_345, s_348_348, s_348_350, s_348_351, s_348_352, s_348_354, s_348_355, s_348_356, s_348_357, s_348_360, s_348_361, s_348_363, s_348_366, s_348_367, s_348_368, s_348_371, s_348_372, s_348_373, s_348_376, s_348_379, s_348_382, s_348_383, s_348_384, s_348_386, s_348_389, s_348_391, s_348_392, s_348_394, s_348_397, s_348_398, s_348_400, s_348_403, s_348_404, s_348_406, s_348_409, s_348_410, s_348_412, s_348_415, e_348, mv_i_1, mv_l_1, mv_a_1, mv_a_2, mv_a_3, mk2_n, mk2_i, mk2_l, mk2_a, mk2_u, mk2_x, mB_T, mB_F, mS_cons, mS_nil, mSB_T, mSB_F, mca_nil, mca_i, mca_l, mca_r, mca_u, mca_x, mcat_i, mcat_l, mcat_r, mcat_u, mcat_x, mK_some, mK_none, va_rf_s, va_rf_n, lgc_eq, lgc_lt, lgc_gt, lgc_ge, lgc_le, mrd_104, mrd_105, mrd_106, mrd_107, true_and, and_true, and_self, false_and, and_false, true_or, or_true, false_or, or_false, not_true_eq_false, not_false_eq_true, mgb, mga, mgr, mN, reduceCtorEq, ↓reduceIte, eq_self, ge_iff_le, gt_iff_lt, hk_si, hk_sj, hk_sr, hl_si, hl_sj, hl_sr, hn_si, hn_sj, hn_sr, hs_si, hs_sj, hs_sr, hi_sj, hi_sr, hj_si, hj_sr, hr_si, hr_sj, hi_si, hj_sj, hr_sr, mg_si, mg_sj, mg_sr, Nat.reduceAdd, Nat.reduceMul, Nat.reduceSub, Nat.reduceLT, Nat.reduceGT, Nat.reduceEqDiff, Nat.reduceLeDiff, Nat.left_eq_add, Nat.add_eq_left, Nat.reduceMod, Nat.reduceDiv, Nat.succ_ne_self, g81, e42, e43, e44, e45, e1']
      have oD : ∀ y j, ¬ (y = 81 ∧ (j = 43 ∨ j = 44)) → mh_i (mh_si (mh_si h 81 43 (Int32.ofNat (bs + L.length))) 81 44 (Int32.ofNat (bk + 1))) y j = mh_i h y j := fun y j q => by
        rw [hi_si, if_neg (by omega), hi_si, if_neg (by omega)]
      have d43 : mh_i (mh_si (mh_si h 81 43 (Int32.ofNat (bs + L.length))) 81 44 (Int32.ofNat (bk + 1))) 81 43 = Int32.ofNat (bs + L.length) := by rw [hi_si, if_neg (by omega), hi_si, if_pos ⟨rfl, rfl⟩]
      have d44 : mh_i (mh_si (mh_si h 81 43 (Int32.ofNat (bs + L.length))) 81 44 (Int32.ofNat (bk + 1))) 81 44 = Int32.ofNat (bk + 1) := by rw [hi_si, if_pos ⟨rfl, rfl⟩]
      have fD : fG lyWr h (mh_si (mh_si h 81 43 (Int32.ofNat (bs + L.length))) 81 44 (Int32.ofNat (bk + 1))) := fG_t (fG_si (Or.inr ⟨rfl, Or.inr ⟨by decide, by decide⟩⟩)) (fG_si (Or.inr ⟨rfl, Or.inr ⟨by decide, by decide⟩⟩))
      generalize mh_si (mh_si h 81 43 (Int32.ofNat (bs + L.length))) 81 44 (Int32.ofNat (bk + 1)) = hD at dst oD d43 d44 fD
      have FD := RF_G fD F
      have kD : kpR (p + 1) (bs + L.length) h hD := ⟨fun y j u1 u2 _ => oD y j (by omega), fun y j u1 u2 _ => oD y j (by omega), fun y j u1 u2 _ => oD y j (by omega), fun j _ => oD _ j (by omega), fun j _ => oD _ j (by omega)⟩
      have prD : prR hD nm KN D.P (FK g) (D.FP g) := prR_c (fun y j u1 u2 => oD y j (by omega)) _ FQ.p
      have CD : RLC hD nm KN D K m cnt FK T := RLC_c (fun y j u1 u2 => oD y j (by omega)) (oD 81 24 (by omega)) C
      have d47 : mh_i hD 81 47 = 0 := (oD 81 47 (by omega)).trans S.z
      have dr0 : (D.FP g).drop (D.FP g).length = [] := List.drop_length
      obtain ⟨y12, l2⟩ := l_348o (d := d + 4) (sp := D.sp) (x1 := some (.int (Int32.ofNat k))) (x2 := some (.int (Int32.ofNat p))) (x3 := some (.int (Int32.ofNat (k + 2)))) (x6 := some (.int (Int32.ofNat (tlc t)))) (x7 := some (.int (Int32.ofNat (bs + L.length)))) (x8 := some (.int (Int32.ofNat bs))) (x9 := some (.int (Int32.ofNat (X.nb + cnZl L)))) (v10 := Int32.ofNat (bk + 1)) FD C.n C.q prD d47 (by omega) (D.FP g).length 0 none (Nat.zero_add _) (by rw [dr0]; rfl)
      by_cases c2 : rpT D.sp (D.FP g) = -1
      · rw [if_neg (fun z => z c2)] at flt ⊢
        have d45 : mh_i hD 81 45 = Int32.ofNat (X.nb + cnZl L) := (oD 81 45 (by omega)).trans S.n
        have d42 : mh_i hD 81 42 = Int32.ofNat (bs + L.length) := (oD 81 42 (by omega)).trans S.R.e
        have gD := FD.g 81 14 70 (by decide +kernel)
        have ea : Int32.ofNat (X.nb + cnZl L) + Int32.ofNat (D.FP g).length = Int32.ofNat (X.nb + cnZl L + (D.FP g).length) := nn_add
        have e12 : (12 : Int32) = Int32.ofNat 12 := rfl
        obtain ⟨m1, m2⟩ := S.m
        by_cases c10 : 12 < X.nb + cnZl L + (D.FP g).length
        · rw [if_pos c10] at flt ⊢
          have le : (Int32.ofNat (X.nb + cnZl L + (D.FP g).length) ≤ 12) = False := by rw [e12, nn_le (by omega) (by omega)]; exact eq_false (by omega)
          have w10 : ∀ Q, mcall (d + 4) 335 [.ref 81, .int 10, .int (Int32.ofNat k)] hD Q = Q (some (.int 0)) (wrH hD 10 (Int32.ofNat (tP n))) := fun Q => (c_335 (d := d + 4) (k := k) (w := 10) FD (by omega) d47 Q).trans (by rw [oD 94 k (by omega), q2])
          refine flt (10, tP n) (by show ¬ 10 = 0; decide) rfl hD fD kD (fun Q => ?_)
          rw [a2 Q, b1 Q, if_neg c5, if_neg c6, l1 Q, if_pos c8, dst Q, l2 Q, if_pos c2]
          clear S C F FQ flt a1 a2 b1 l1 V eC l2 dst CD prD FD
          simp (disch := omega) only [s_348_0, s_348_1, s_348_2, s_348_3, s_348_4, s_348_5, s_348_7, s_348_8, s_348_11, s_348_12, s_348_13, s_348_14, s_348_15, s_348_17, s_348_20, s_348_21, s_348_22, s_348_23, s_348_24, s_348_25, s_348_28, s_348_31, s_348_32, s_348_33, s_348_36, s_348_37, s_348_38, s_348_39, s_348_40, s_348_43, s_348_46, s_348_48, s_348_49, s_348_52, s_348_55, s_348_56, s_348_58, s_348_59, s_348_62, s_348_63, s_348_64, s_348_65, s_348_68, s_348_69, s_348_70, s_348_71, s_348_73, s_348_76, s_348_78, s_348_79, s_348_80, s_348_81, s_348_83, s_348_84, s_348_86, s_348_87, s_348_88, s_348_89, s_348_91, s_348_93, s_348_94, s_348_95, s_348_98, s_348_101, s_348_104, s_348_105, s_348_107, s_348_110, s_348_112, s_348_115, s_348_117, s_348_119, s_348_122, s_348_123, s_348_124, s_348_125, s_348_128, s_348_129, s_348_130, s_348_131, s_348_134, s_348_135, s_348_136, s_348_137, s_348_138, s_348_140, s_348_143, s_348_144, s_348_146, s_348_149, s_348_152, s_348_153, s_348_155, s_348_156, s_348_159, s_348_160, s_348_161, s_348_162, s_348_163, s_348_164, s_348_166, s_348_168, s_348_169, s_348_170, s_348_173, s_348_176, s_348_177, s_348_179, s_348_182, s_348_185, s_348_186, s_348_187, s_348_189, s_348_192, s_348_194, s_348_197, s_348_198, s_348_201, s_348_203, s_348_204, s_348_207, s_348_209, s_348_210, s_348_213, s_348_215, s_348_216, s_348_217, s_348_220, s_348_223, s_348_224, s_348_225, s_348_228, s_348_229, s_348_230, s_348_233, s_348_234, s_348_237, s_348_239, s_348_240, s_348_242, s_348_244, s_348_246, s_348_249, s_348_250, s_348_252, s_348_254, s_348_256, s_348_259, s_348_260, s_348_263, s_348_265, s_348_266, s_348_267, s_348_269, s_348_270, s_348_271, s_348_272, s_348_275, s_348_277, s_348_278, s_348_279, s_348_281, s_348_282, s_348_283, s_348_286, s_348_287, s_348_288, s_348_290, s_348_291, s_348_292, s_348_294, s_348_295, s_348_298, s_348_299, s_348_300, s_348_303, s_348_306, s_348_309, s_348_312, s_348_313, s_348_316, s_348_318, s_348_319, s_348_321, s_348_324, s_348_325, s_348_327, s_348_328, s_348_331, s_348_332, s_348_333, s_348_334, s_348_336, s_348_338, s_348_340, s_348_343, s_348_344, s_348_345, s_348_348, s_348_350, s_348_351, s_348_352, s_348_354, s_348_355, s_348_356, s_348_357, s_348_360, s_348_361, s_348_363, s_348_366, s_348_367, s_348_368, s_348_371, s_348_372, s_348_373, s_348_376, s_348_379, s_348_382, s_348_383, s_348_384, s_348_386, s_348_389, s_348_391, s_348_392, s_348_394, s_348_397, s_348_398, s_348_400, s_348_403, s_348_404, s_348_406, s_348_409, s_348_410, s_348_412, s_348_415, e_348, mv_i_1, mv_l_1, mv_a_1, mv_a_2, mv_a_3, mk2_n, mk2_i, mk2_l, mk2_a, mk2_u, mk2_x, mB_T, mB_F, mS_cons, mS_nil, mSB_T, mSB_F, mca_nil, mca_i, mca_l, mca_r, mca_u, mca_x, mcat_i, mcat_l, mcat_r, mcat_u, mcat_x, mK_some, mK_none, va_rf_s, va_rf_n, lgc_eq, lgc_lt, lgc_gt, lgc_ge, lgc_le, mrd_104, mrd_105, mrd_106, mrd_107, true_and, and_true, and_self, false_and, and_false, true_or, or_true, false_or, or_false, not_true_eq_false, not_false_eq_true, mgb, mga, mgr, mN, reduceCtorEq, ↓reduceIte, eq_self, ge_iff_le, gt_iff_lt, Nat.reduceAdd, Nat.reduceMul, Nat.reduceSub, Nat.reduceLT, Nat.reduceGT, Nat.reduceEqDiff, Nat.reduceLeDiff, Nat.left_eq_add, Nat.add_eq_left, Nat.reduceMod, Nat.reduceDiv, Nat.succ_ne_self, gD, d45, ea, le, w10]
          rfl
        · rw [if_neg c10]
          clear flt
          have lt : (Int32.ofNat (X.nb + cnZl L + (D.FP g).length) ≤ 12) = True := by rw [e12, nn_le (by omega) (by omega)]; exact eq_true (by omega)
          have S0 : RLS hD nm KN (lyC D X L p g a) ((D.FP g).drop (D.FP g).length) 0 (bk + 1) (bs + L.length) (p + 1) (bk + 1) := by
            rw [dr0]
            exact RLS_0 S hb fD (fun y j q => oD y j (by omega)) (fun j u1 u2 => oD 81 j (by omega)) d43 d44
          obtain ⟨hE, f3, S3, l3⟩ := l_348g (d := d + 4) (x1 := some (.int (Int32.ofNat k))) (x2 := some (.int (Int32.ofNat p))) (x3 := some (.int (Int32.ofNat (k + 2)))) (x6 := some (.int (Int32.ofNat (tlc t)))) (x7 := some (.int (Int32.ofNat (bs + L.length)))) (x8 := some (.int (Int32.ofNat bs))) (x9 := some (.int (Int32.ofNat (X.nb + cnZl L)))) (x12 := y12) C.n (by omega) (by show X.nb + cnZl L + (D.FP g).length ≤ 12; omega) (D.FP g).length 0 hD (Nat.zero_add _) prD S0
          have CE : RLC hE nm KN D K m cnt FK T := RLC_G f3 (fun b j z => by unfold gvW at z; omega) CD
          obtain ⟨hF, BP, ⟨r42, r45, r46⟩, run⟩ := blk g gX hE CE S3
          have FE := S3.R.F
          have FF := RF_G BP.f FE
          have gE := FE.g 81 14 70 (by decide +kernel)
          have gF := FF.g 81 14 70 (by decide +kernel)
          have FQ2 := CE.f g hg
          have i337 : ∀ Q, mcall (d + 4) 337 [.ref 81, .int (Int32.ofNat (FK g))] hE Q = Q (some (.int (Int32.ofNat (D.B g)))) hE := fun Q => by
            rw [c_337 (fn := FK g) (q := 1 + (D.FP g).length) FE FQ2.k (by rw [show FK g + 1 + (1 + (D.FP g).length) = D.B g from by omega, FQ2.n]; decide) (by omega) Q, show FK g + 1 + (1 + (D.FP g).length) = D.B g from by omega]
          have fall : fG lyWr h hF := fG_t fD (fG_t (fG_w f3 (fun b j z => by unfold gvW at z; unfold lyWr; omega)) BP.f)
          have kall : kpR (p + 1) (bs + L.length) h hF := kpR_t kD (kpR_t ⟨fun y j u1 u2 u3 => fG_i f3 (fun z => by unfold gvW at z; omega), fun y j u1 u2 _ => fG_i f3 (fun z => by unfold gvW at z; omega), fun y j u1 u2 _ => fG_i f3 (fun z => by unfold gvW at z; omega), fun j _ => fG_i f3 (fun z => by unfold gvW at z; omega), fun j _ => fG_i f3 (fun z => by unfold gvW at z; omega)⟩ BP.k (Nat.le_refl _) (by omega)) (Nat.le_refl _) (Nat.le_refl _)
          have oH : ∀ y j, ¬ (y = 81 ∧ (j = 42 ∨ j = 43 ∨ j = 45)) → mh_i (mh_si (mh_si (mh_si hF 81 42 (Int32.ofNat (bs + L.length))) 81 43 (Int32.ofNat bs)) 81 45 (Int32.ofNat (X.nb + cnZl L))) y j = mh_i hF y j := fun y j q => by
            rw [hi_si, if_neg (by omega), hi_si, if_neg (by omega), hi_si, if_neg (by omega)]
          have p42 : mh_i (mh_si (mh_si (mh_si hF 81 42 (Int32.ofNat (bs + L.length))) 81 43 (Int32.ofNat bs)) 81 45 (Int32.ofNat (X.nb + cnZl L))) 81 42 = Int32.ofNat (bs + L.length) := by rw [hi_si, if_neg (by omega), hi_si, if_neg (by omega), hi_si, if_pos ⟨rfl, rfl⟩]
          have p43 : mh_i (mh_si (mh_si (mh_si hF 81 42 (Int32.ofNat (bs + L.length))) 81 43 (Int32.ofNat bs)) 81 45 (Int32.ofNat (X.nb + cnZl L))) 81 43 = Int32.ofNat bs := by rw [hi_si, if_neg (by omega), hi_si, if_pos ⟨rfl, rfl⟩]
          have p45 : mh_i (mh_si (mh_si (mh_si hF 81 42 (Int32.ofNat (bs + L.length))) 81 43 (Int32.ofNat bs)) 81 45 (Int32.ofNat (X.nb + cnZl L))) 81 45 = Int32.ofNat (X.nb + cnZl L) := by rw [hi_si, if_pos ⟨rfl, rfl⟩]
          have fH : fG lyWr hF (mh_si (mh_si (mh_si hF 81 42 (Int32.ofNat (bs + L.length))) 81 43 (Int32.ofNat bs)) 81 45 (Int32.ofNat (X.nb + cnZl L))) := fG_t (fG_si (Or.inr ⟨rfl, Or.inr ⟨by decide, by decide⟩⟩)) (fG_t (fG_si (Or.inr ⟨rfl, Or.inr ⟨by decide, by decide⟩⟩)) (fG_si (Or.inr ⟨rfl, Or.inr ⟨by decide, by decide⟩⟩)))
          have fin : ∀ Q, mcall (d + 5) 348 [.ref 81, .int (Int32.ofNat k), .int (Int32.ofNat p)] h Q = Q none (mh_si (mh_si (mh_si hF 81 42 (Int32.ofNat (bs + L.length))) 81 43 (Int32.ofNat bs)) 81 45 (Int32.ofNat (X.nb + cnZl L))) := fun Q => by
            rw [a2 Q, b1 Q, if_neg c5, if_neg c6, l1 Q, if_pos c8, dst Q, l2 Q, if_pos c2]
            have st : mw (d + 5) 348 Q 312 [some (.ref 81), some (.int (Int32.ofNat k)), some (.int (Int32.ofNat p)), some (.int (Int32.ofNat (k + 2))), some (.int (Int32.ofNat (FK g))), some (.int (Int32.ofNat (D.FP g).length)), some (.int (Int32.ofNat (tlc t))), some (.int (Int32.ofNat (bs + L.length))), some (.int (Int32.ofNat bs)), some (.int (Int32.ofNat (X.nb + cnZl L))), some (.int (Int32.ofNat (bk + 1))), some (.int (Int32.ofNat (D.FP g).length)), y12] [] hD = mw (d + 5) 348 Q 336 [some (.ref 81), some (.int (Int32.ofNat k)), some (.int (Int32.ofNat p)), some (.int (Int32.ofNat (k + 2))), some (.int (Int32.ofNat (FK g))), some (.int (Int32.ofNat (D.FP g).length)), some (.int (Int32.ofNat (tlc t))), some (.int (Int32.ofNat (bs + L.length))), some (.int (Int32.ofNat bs)), some (.int (Int32.ofNat (X.nb + cnZl L))), some (.int (Int32.ofNat (bk + 1))), some (.int (Int32.ofNat 0)), y12] [] hD := by
              rw [show Int32.ofNat 0 = 0 from rfl]
              clear S C F FQ a1 a2 b1 l1 V eC l2 dst CD prD FD S0 S3 CE BP run FQ2 FE FF fall kall l3 i337
              simp (disch := omega) only [s_348_0, s_348_1, s_348_2, s_348_3, s_348_4, s_348_5, s_348_7, s_348_8, s_348_11, s_348_12, s_348_13, s_348_14, s_348_15, s_348_17, s_348_20, s_348_21, s_348_22, s_348_23, s_348_24, s_348_25, s_348_28, s_348_31, s_348_32, s_348_33, s_348_36, s_348_37, s_348_38, s_348_39, s_348_40, s_348_43, s_348_46, s_348_48, s_348_49, s_348_52, s_348_55, s_348_56, s_348_58, s_348_59, s_348_62, s_348_63, s_348_64, s_348_65, s_348_68, s_348_69, s_348_70, s_348_71, s_348_73, s_348_76, s_348_78, s_348_79, s_348_80, s_348_81, s_348_83, s_348_84, s_348_86, s_348_87, s_348_88, s_348_89, s_348_91, s_348_93, s_348_94, s_348_95, s_348_98, s_348_101, s_348_104, s_348_105, s_348_107, s_348_110, s_348_112, s_348_115, s_348_117, s_348_119, s_348_122, s_348_123, s_348_124, s_348_125, s_348_128, s_348_129, s_348_130, s_348_131, s_348_134, s_348_135, s_348_136, s_348_137, s_348_138, s_348_140, s_348_143, s_348_144, s_348_146, s_348_149, s_348_152, s_348_153, s_348_155, s_348_156, s_348_159, s_348_160, s_348_161, s_348_162, s_348_163, s_348_164, s_348_166, s_348_168, s_348_169, s_348_170, s_348_173, s_348_176, s_348_177, s_348_179, s_348_182, s_348_185, s_348_186, s_348_187, s_348_189, s_348_192, s_348_194, s_348_197, s_348_198, s_348_201, s_348_203, s_348_204, s_348_207, s_348_209, s_348_210, s_348_213, s_348_215, s_348_216, s_348_217, s_348_220, s_348_223, s_348_224, s_348_225, s_348_228, s_348_229, s_348_230, s_348_233, s_348_234, s_348_237, s_348_239, s_348_240, s_348_242, s_348_244, s_348_246, s_348_249, s_348_250, s_348_252, s_348_254, s_348_256, s_348_259, s_348_260, s_348_263, s_348_265, s_348_266, s_348_267, s_348_269, s_348_270, s_348_271, s_348_272, s_348_275, s_348_277, s_348_278, s_348_279, s_348_281, s_348_282, s_348_283, s_348_286, s_348_287, s_348_288, s_348_290, s_348_291, s_348_292, s_348_294, s_348_295, s_348_298, s_348_299, s_348_300, s_348_303, s_348_306, s_348_309, s_348_312, s_348_313, s_348_316, s_348_318, s_348_319, s_348_321, s_348_324, s_348_325, s_348_327, s_348_328, s_348_331, s_348_332, s_348_333, s_348_334, s_348_338, s_348_340, s_348_343, s_348_344, s_348_345, s_348_348, s_348_350, s_348_351, s_348_352, s_348_354, s_348_355, s_348_356, s_348_357, s_348_360, s_348_361, s_348_363, s_348_366, s_348_367, s_348_368, s_348_371, s_348_372, s_348_373, s_348_376, s_348_379, s_348_382, s_348_383, s_348_384, s_348_386, s_348_389, s_348_391, s_348_392, s_348_394, s_348_397, s_348_398, s_348_400, s_348_403, s_348_404, s_348_406, s_348_409, s_348_410, s_348_412, s_348_415, e_348, mv_i_1, mv_l_1, mv_a_1, mv_a_2, mv_a_3, mk2_n, mk2_i, mk2_l, mk2_a, mk2_u, mk2_x, mB_T, mB_F, mS_cons, mS_nil, mSB_T, mSB_F, mca_nil, mca_i, mca_l, mca_r, mca_u, mca_x, mcat_i, mcat_l, mcat_r, mcat_u, mcat_x, mK_some, mK_none, va_rf_s, va_rf_n, lgc_eq, lgc_lt, lgc_gt, lgc_ge, lgc_le, mrd_104, mrd_105, mrd_106, mrd_107, true_and, and_true, and_self, false_and, and_false, true_or, or_true, false_or, or_false, not_true_eq_false, not_false_eq_true, mgb, mga, mgr, mN, reduceCtorEq, ↓reduceIte, eq_self, ge_iff_le, gt_iff_lt, Nat.reduceAdd, Nat.reduceMul, Nat.reduceSub, Nat.reduceLT, Nat.reduceGT, Nat.reduceEqDiff, Nat.reduceLeDiff, Nat.left_eq_add, Nat.add_eq_left, Nat.reduceMod, Nat.reduceDiv, Nat.succ_ne_self, gD, d45, ea, lt]
            refine st.trans ((l3 Q).trans ?_)
            clear st S C F FQ a1 a2 b1 l1 V eC l2 dst CD prD FD S0 S3 CE BP FQ2 FE FF fall kall l3 oH p42 p43 p45
            simp (disch := omega) only [s_348_0, s_348_1, s_348_2, s_348_3, s_348_4, s_348_5, s_348_7, s_348_8, s_348_11, s_348_12, s_348_13, s_348_14, s_348_15, s_348_17, s_348_20, s_348_21, s_348_22, s_348_23, s_348_24, s_348_25, s_348_28, s_348_31, s_348_32, s_348_33, s_348_36, s_348_37, s_348_38, s_348_39, s_348_40, s_348_43, s_348_46, s_348_48, s_348_49, s_348_52, s_348_55, s_348_56, s_348_58, s_348_59, s_348_62, s_348_63, s_348_64, s_348_65, s_348_68, s_348_69, s_348_70, s_348_71, s_348_73, s_348_76, s_348_78, s_348_79, s_348_80, s_348_81, s_348_83, s_348_84, s_348_86, s_348_87, s_348_88, s_348_89, s_348_91, s_348_93, s_348_94, s_348_95, s_348_98, s_348_101, s_348_104, s_348_105, s_348_107, s_348_110, s_348_112, s_348_115, s_348_117, s_348_119, s_348_122, s_348_123, s_348_124, s_348_125, s_348_128, s_348_129, s_348_130, s_348_131, s_348_134, s_348_135, s_348_136, s_348_137, s_348_138, s_348_140, s_348_143, s_348_144, s_348_146, s_348_149, s_348_152, s_348_153, s_348_155, s_348_156, s_348_159, s_348_160, s_348_161, s_348_162, s_348_163, s_348_164, s_348_166, s_348_168, s_348_169, s_348_170, s_348_173, s_348_176, s_348_177, s_348_179, s_348_182, s_348_185, s_348_186, s_348_187, s_348_189, s_348_192, s_348_194, s_348_197, s_348_198, s_348_201, s_348_203, s_348_204, s_348_207, s_348_209, s_348_210, s_348_213, s_348_215, s_348_216, s_348_217, s_348_220, s_348_223, s_348_224, s_348_225, s_348_228, s_348_229, s_348_230, s_348_233, s_348_234, s_348_237, s_348_239, s_348_240, s_348_242, s_348_244, s_348_246, s_348_249, s_348_250, s_348_252, s_348_254, s_348_256, s_348_259, s_348_260, s_348_263, s_348_265, s_348_266, s_348_267, s_348_269, s_348_270, s_348_271, s_348_272, s_348_275, s_348_277, s_348_278, s_348_279, s_348_281, s_348_282, s_348_283, s_348_286, s_348_287, s_348_288, s_348_290, s_348_291, s_348_292, s_348_294, s_348_295, s_348_298, s_348_299, s_348_300, s_348_303, s_348_306, s_348_309, s_348_312, s_348_313, s_348_316, s_348_318, s_348_319, s_348_321, s_348_324, s_348_325, s_348_327, s_348_328, s_348_331, s_348_332, s_348_333, s_348_334, s_348_336, s_348_338, s_348_340, s_348_343, s_348_344, s_348_345, s_348_348, s_348_350, s_348_351, s_348_352, s_348_354, s_348_355, s_348_356, s_348_357, s_348_360, s_348_361, s_348_363, s_348_366, s_348_367, s_348_368, s_348_371, s_348_372, s_348_373, s_348_376, s_348_379, s_348_382, s_348_383, s_348_384, s_348_386, s_348_389, s_348_391, s_348_392, s_348_394, s_348_397, s_348_398, s_348_400, s_348_403, s_348_404, s_348_406, s_348_409, s_348_410, s_348_412, s_348_415, e_348, mv_i_1, mv_l_1, mv_a_1, mv_a_2, mv_a_3, mk2_n, mk2_i, mk2_l, mk2_a, mk2_u, mk2_x, mB_T, mB_F, mS_cons, mS_nil, mSB_T, mSB_F, mca_nil, mca_i, mca_l, mca_r, mca_u, mca_x, mcat_i, mcat_l, mcat_r, mcat_u, mcat_x, mK_some, mK_none, va_rf_s, va_rf_n, lgc_eq, lgc_lt, lgc_gt, lgc_ge, lgc_le, mrd_104, mrd_105, mrd_106, mrd_107, true_and, and_true, and_self, false_and, and_false, true_or, or_true, false_or, or_false, not_true_eq_false, not_false_eq_true, mgb, mga, mgr, mN, reduceCtorEq, ↓reduceIte, eq_self, ge_iff_le, gt_iff_lt, hk_si, hk_sj, hk_sr, hl_si, hl_sj, hl_sr, hn_si, hn_sj, hn_sr, hs_si, hs_sj, hs_sr, hi_sj, hi_sr, hj_si, hj_sr, hr_si, hr_sj, hi_si, hj_sj, hr_sr, mg_si, mg_sj, mg_sr, Nat.reduceAdd, Nat.reduceMul, Nat.reduceSub, Nat.reduceLT, Nat.reduceGT, Nat.reduceEqDiff, Nat.reduceLeDiff, Nat.left_eq_add, Nat.add_eq_left, Nat.reduceMod, Nat.reduceDiv, Nat.succ_ne_self, gE, gF, i337, run]
          generalize mh_si (mh_si (mh_si hF 81 42 (Int32.ofNat (bs + L.length))) 81 43 (Int32.ofNat bs)) 81 45 (Int32.ofNat (X.nb + cnZl L)) = hH at oH p42 p43 p45 fH fin
          have eU : (lyG ((0, 0), p) fun _ => lyUc D (lyQ D f) p L X a (some g)) = lyQ D f true (D.FT g) (p + 1) (D.FP g) (D.FP g).length (lyC D X L p g a) := rfl
          rw [eU]
          have kH : kpR (p + 1) (bs + L.length) h hH := kpR_t kall ⟨fun y j u1 u2 _ => oH y j (by omega), fun y j u1 u2 _ => oH y j (by omega), fun y j u1 u2 _ => oH y j (by omega), fun j _ => oH _ j (by omega), fun j _ => oH _ j (by omega)⟩ (Nat.le_refl _) (Nat.le_refl _)
          refine ⟨hH, STz.of ⟨fG_t fall fH, kH, fun z => ?_, fun z => ?_⟩, fun z Pt ly => ?_, fin⟩
          · rw [oH 81 47 (by omega), oH 81 48 (by omega)]
            exact BP.g z
          · obtain ⟨o1, o2, o3, ⟨bk', o4, o5, o6⟩, o7, o8, o9⟩ := BP.o z
            obtain ⟨pz1, pz2⟩ := prR_z _ prD
            refine ⟨o8, bk', by omega, by omega, RLS_k S (fG_t fall fH) kH.1 (p42.trans S.R.e.symm) (p43.trans S.R.b.symm) (p45.trans S.n.symm) ?_ ((oH 81 47 (by omega)).trans o1) ((oH 81 33 (by omega)).trans o2) ((oH 81 44 (by omega)).trans o6) (by omega) (by omega) o7 ((oH 81 48 (by omega)).trans o9)⟩
            rw [oH 81 46 (by omega), r46, S3.a, S.a]
            show Int32.ofNat (X.na + cnAl L + cnAl (D.FP g)) = _
            rw [pz2, Nat.add_zero]
          · rcases ly with ⟨-, a', ff', t', g', y1, y2, y3, y4⟩ | ⟨y1, -⟩ | ⟨y1, -⟩ | ⟨y1, -⟩
            · cases y1
              rw [hf] at y2
              cases y2
              have eE := (LYR_q _ _ _ _ _ _ _ _ _ _ _ y4).2
              rw [← eE] at y4 ⊢
              have PP := BP.r z Pt y4
              intro r r1 r2
              obtain ⟨w1, w2⟩ := PP r r1 r2
              have kk : kpR 250 0 hF hH := ⟨fun y j u1 u2 u3 => absurd u3 (Nat.not_lt_zero _), fun y j u1 u2 _ => oH y j (by omega), fun y j u1 u2 _ => oH y j (by omega), fun j _ => oH _ j (by omega), fun j _ => oH _ j (by omega)⟩
              exact ⟨RPo_k kk (by have u1 := (BP.o z).2.2.2.2.1; have u2 := (BP.o z).2.2.2.2.2.1; omega) w1, (oH 102 r (by omega)).trans w2⟩
            · omega
            · omega
            · omega
      · rw [if_pos c2] at flt ⊢
        refine flt (2, D.P (rpT D.sp (D.FP g)).toNatClampNeg) (by show ¬ 2 = 0; decide) rfl hD fD kD (fun Q => ?_)
        rw [a2 Q, b1 Q, if_neg c5, if_neg c6, l1 Q, if_pos c8, dst Q, l2 Q, if_neg c2]
        rfl
    · rw [fw_n c8] at flt ⊢
      refine flt _ c8 rfl h fG_id kpR_r (fun Q => ?_)
      rw [a2 Q, b1 Q, if_neg c5, if_neg c6, l1 Q, if_neg c8]
  · have eC := wrC_n (sp := D.sp) (H := D.H) (nf := X.fu) (lo := loE D.sp L) (a := a) (q := ff) (t := t) hW0 c0
    refine flt W0 c0 (by rw [eC]; exact fw_n c0) h fG_id kpR_r (fun Q => ?_)
    rw [a1 Q, if_neg c0]
end CFl
