set_option maxRecDepth 100000
/-! simple statements: put, assert -/
section PUs
variable {d : Nat} {h h1 : mh_H} {s0 s1 o b p k T : Nat} {E E' : nv} {D : fd} {w0 : wd} {s s' : Option ab} {G : pgm} {A : ab} {t : tr} {m : Nat} {u : Unit} {al : Int32}
theorem fq_sj {W : Nat → Prop} {c j : Nat} {v : Int64} (w : W c) : fq W h (mh_sj h c j v) := ⟨rfl, rfl, rfl, rfl, rfl, fun b hb => ⟨fun _ => rfl, fun k => by rw [hj_sj, if_neg (fun z => hb (by rw [z.1]; exact w))]⟩⟩
theorem KM_end {x : Nat} {v1 v2 : Int64} {l g : Int} (k : RK h o (some A)) (hx : x < A.a) (e1 : v1.toInt = l) (e2 : v2.toInt = g) : RK (mh_sj (mh_sj h (o + 2) x v1) (o + 3) x v2) o (some (a_end x l g A)) := by
  have k : KM h o A := k
  refine ⟨k.s, k.z, k.n, k.n12, k.a, k.a6, fun i j hi hj => ?_, fun y hy => ?_, fun y hy => ?_, k.rm⟩
  · rw [hj_sj, if_neg (by omega), hj_sj, if_neg (by omega)]; exact k.m i j hi hj
  · show _ = if y = x then l else A.lo y
    rw [hj_sj, if_neg (by omega), hj_sj]
    by_cases c : y = x
    · rw [if_pos ⟨rfl, c⟩, if_pos c]; exact e1
    · rw [if_neg (fun z => c z.2), if_neg c]; exact k.lo y hy
  · show _ = if y = x then g else A.hi y
    rw [hj_sj]
    by_cases c : y = x
    · rw [if_pos ⟨rfl, c⟩, if_pos c]; exact e2
    · rw [if_neg (fun z => c z.2), if_neg c, hj_sj, if_neg (by omega)]; exact k.hi y hy
theorem mn64 {a c : Int64} : (if a < c then a else c).toInt = min c.toInt a.toInt := by
  by_cases z : a < c
  · rw [if_pos z]; have := Int64.lt_iff_toInt_lt.mp z; omega
  · rw [if_neg z]; have : ¬ a.toInt < c.toInt := fun q => z (Int64.lt_iff_toInt_lt.mpr q)
    omega
theorem mx64 {a c : Int64} : (if a < c then c else a).toInt = max c.toInt a.toInt := by
  by_cases z : a < c
  · rw [if_pos z]; have := Int64.lt_iff_toInt_lt.mp z; omega
  · rw [if_neg z]; have : ¬ a.toInt < c.toInt := fun q => z (Int64.lt_iff_toInt_lt.mpr q)
    omega
theorem u_263 (S : SMp h s0 o b E D w0 (some A)) (sh : shp E.nu E.ar E.rm (some A)) (hS : eSm E t) (hS2 : eSm E (tT t)) (hm : (mh_i h 95 (k + 1)).toInt = tV m) (hs : E.sN (tV m)) (hx : E.en (tV m) < E.ar) (hr : E.rm (E.en (tV m)) ≤ 64) (n : nd (mh_i h 93) (mh_i h 95) (mh_i h 97) (k + 2) t) (hb : k + 2 + ts t ≤ 26000) (hd : 700 ≤ d) : ∃ h', SFi G h h' s0 (s0 + 1) o E.T E D w0 (a_put E.en A (E.en (tV m)) t (tT t)).1 (a_put E.en A (E.en (tV m)) t (tT t)).2 ∧ ∀ Q, mcall (d + 1) 263 [.ref 115, .int (Int32.ofNat k), .ref o] h Q = Q none h' := by
  obtain ⟨T', e1, e2, e3⟩ := sh A rfl
  have J := S.A.j
  have so := lv_sp S.l
  have lo := sp_lo J so
  have g := J.a.g
  have hth := hS.2.2.2
  have hth2 := hS2.2.2.2
  have w1 := hS.1 A e1 e2 e3
  have w2 := hS2.1 A e1 e2 e3
  have hx' : E.en (tV m) < A.a := by omega
  have hr' : A.rm (E.en (tV m)) ≤ 64 := by rw [e3 _ hx]; exact hr
  have c229 := u_229 (d := d) J.a (k := k + 1) (by omega) hm hs
  cases t with
  | leaf u => exact absurd w1 (fun z => z)
  | branch m1 c1 r1 =>
  have hth2 : th r1 ≤ 300 := hth2
  obtain ⟨-, -, sz, -, nr⟩ := id n
  rw [ts_B] at hb
  have c228 := u_228 (d := d) J.a (k := k + 2) (by omega) sz
  have ea : k + 2 + (1 + ts c1) = k + 2 + 1 + ts c1 := by omega
  rw [ea] at c228
  obtain ⟨bb, l1, u1, er, ec⟩ := u_234 (d := d) J.a S.r S.kb T' (t := .branch m1 c1 r1) (k1 := k + 1) (k2 := k + 2) (by omega) (by omega) hm hs hx' hr' n (by rw [ts_B]; omega) w1
  rw [S.al, Int32.or_comm, i32_or0] at ec
  obtain ⟨cp1, cp2⟩ := cell_pl (A := A) (q := ev E.en A (.branch m1 c1 r1) none) (x := E.en (tV m))
  generalize hal1 : (e_bi (ev E.en A (.branch m1 c1 r1) none) (e_pl A (E.en (tV m)))).2 = al1 at *
  obtain ⟨A1, x1, cc1⟩ := ra_aS (s0 := s0) (T := E.T) (G := G) (al := al1) (lo := l1) (hi := u1) S.A so S.k
  have k1 : RK (aS h 115 al1 l1 u1) o (some A) := RK_aS g S.k
  have kb1 : RK (aS h 115 al1 l1 u1) b (some A) := RK_aS g S.kb
  have so1 : sp (aS h 115 al1 l1 u1) o := by unfold sp; rw [aS_r]; exact so
  have go : mg h o 13 := (RK_ko S.k).1
  have e10 : ((1 : Int32) = 0) = False := by decide
  have e00 : ((0 : Int32) = 0) = True := by decide
  have or11 : ((1 : Int32) = 0 ∨ (1 : Int32) = 1) = True := by decide
  have e1' : ∀ k, Int32.ofNat k + 1 = Int32.ofNat (k + 1) := fun k => nn_add (a := k) (b := 1)
  have e2' : ∀ k, Int32.ofNat k + 2 = Int32.ofNat (k + 2) := fun k => nn_add (a := k) (b := 2)
  have a20 := S.a2
  cases bb with
  | false =>
    have hv := cp2.mpr (eR_n er rfl)
    have ep : a_put E.en A (E.en (tV m)) (.branch m1 c1 r1) (tT (.branch m1 c1 r1)) = (none, al1) := by unfold a_put; rw [hv]; dsimp only; rw [cp1]
    rw [ep]
    obtain ⟨A2, x2, k2, c2⟩ := ra_none (s0 := s0) (T := E.T) (G := G) A1 so1 k1
    refine ⟨_, ⟨rq_t x1 x2, A2, k2, by rw [hi_si, if_neg (by omega), aS_i, if_neg (by omega)]; exact a20, by rw [hi_si, if_neg (by omega), aS_i, if_pos ⟨rfl, rfl⟩], fun q w => c2 q (cc1 q w)⟩, fun Q => ?_⟩
    have kt : kb false = 0 := rfl
    rw [kt] at ec
    clear S sh hS hS2 J A1 x1 cc1 k1 kb1 so1 A2 x2 k2 c2 er cp2 w1 w2 T'
    simp (disch := omega) only [s_263_0, s_263_1, s_263_2, s_263_3, s_263_4, s_263_7, s_263_8, s_263_9, s_263_10, s_263_11, s_263_12, s_263_15, s_263_17, s_263_18, s_263_19, s_263_20, s_263_21, s_263_22, s_263_23, s_263_24, s_263_27, s_263_30, s_263_31, s_263_33, s_263_36, s_263_39, s_263_40, s_263_41, s_263_44, s_263_45, s_263_46, s_263_49, s_263_50, s_263_51, s_263_52, s_263_55, s_263_56, s_263_59, s_263_60, s_263_62, s_263_63, s_263_66, s_263_67, s_263_69, s_263_72, s_263_73, s_263_76, s_263_79, s_263_80, s_263_83, s_263_84, s_263_85, s_263_86, s_263_89, s_263_92, s_263_93, s_263_94, s_263_97, s_263_98, s_263_100, s_263_103, s_263_104, s_263_107, s_263_110, s_263_111, s_263_114, s_263_115, s_263_116, s_263_117, s_263_120, s_263_123, s_263_124, e_263, mv_i_1, mv_l_1, mv_a_1, mv_a_2, mv_a_3, mk2_n, mk2_i, mk2_l, mk2_a, mk2_u, mk2_x, mB_T, mB_F, mS_cons, mS_nil, mSB_T, mSB_F, mca_nil, mca_i, mca_l, mca_r, mca_u, mca_x, mcat_i, mcat_l, mcat_r, mcat_u, mcat_x, mK_some, mK_none, va_rf_s, va_rf_n, lgc_eq, lgc_lt, lgc_gt, lgc_ge, lgc_le, mrd_104, mrd_105, mrd_106, mrd_107, true_and, and_true, and_self, false_and, and_false, true_or, or_true, false_or, or_false, not_true_eq_false, not_false_eq_true, mgb, mga, mgr, mN, reduceCtorEq, ↓reduceIte, eq_self, ge_iff_le, gt_iff_lt, Nat.reduceAdd, Nat.reduceMul, Nat.reduceSub, Nat.reduceLT, Nat.reduceGT, Nat.reduceEqDiff, Nat.reduceLeDiff, Nat.left_eq_add, Nat.add_eq_left, Nat.reduceMod, Nat.reduceDiv, Nat.succ_ne_self, g, go, aS_g, e00, e1', e2', c229, c228, ec, or11]
  | true =>
    obtain ⟨vx, vy, hv0, -, -⟩ := eR_s er rfl
    have hv1 : ∃ q, (e_bi (ev E.en A (.branch m1 c1 r1) none) (e_cell A (E.en (tV m)))).1 = some q := by
      cases hq : (e_bi (ev E.en A (.branch m1 c1 r1) none) (e_cell A (E.en (tV m)))).1 with
      | none => rw [cp2.mp hq] at hv0; cases hv0
      | some q => exact ⟨q, rfl⟩
    obtain ⟨qq, hv1⟩ := hv1
    have J1 := A1.j
    obtain ⟨b2, l2, u2, er2, ec2⟩ := u_233 (d := d) J1.a (N := b) (by rw [aS_r]; exact S.r) kb1 T' (t := r1) (p := k + 2 + 1 + ts c1) (by omega) (by
      have rw9 : ∀ x, x ≠ 115 → mh_i (aS h 115 al1 l1 u1) x = mh_i h x := fun x hx => funext fun j => by rw [aS_i, if_neg (fun z => hx z.1)]
      rw [rw9 93 (by omega), rw9 95 (by omega), rw9 97 (by omega)]
      exact nr) (by omega) w2
    rw [aS_i, if_pos ⟨rfl, rfl⟩, aS_aS] at ec2
    have kt : kb true = 1 := rfl
    rw [kt] at ec
    generalize hal2 : (ev E.en A r1 none).2 = al2 at *
    obtain ⟨A2, x2, cc2⟩ := ra_aS (s0 := s0) (T := E.T) (G := G) (al := al1 ||| al2) (lo := l2) (hi := u2) S.A so S.k
    have k2 : RK (aS h 115 (al1 ||| al2) l2 u2) o (some A) := RK_aS g S.k
    have so2 : sp (aS h 115 (al1 ||| al2) l2 u2) o := by unfold sp; rw [aS_r]; exact so
    cases b2 with
    | false =>
      have hv2 := eR_n er2 rfl
      have ep : a_put E.en A (E.en (tV m)) (.branch m1 c1 r1) (tT (.branch m1 c1 r1)) = (none, al1 ||| al2) := by unfold a_put; rw [hv1]; dsimp only; rw [cp1, show tT (.branch m1 c1 r1) = r1 from rfl, hv2, hal2]
      rw [ep]
      obtain ⟨A3, x3, k3, c3⟩ := ra_none (s0 := s0) (T := E.T) (G := G) A2 so2 k2
      refine ⟨_, ⟨rq_t x2 x3, A3, k3, by rw [hi_si, if_neg (by omega), aS_i, if_neg (by omega)]; exact a20, by rw [hi_si, if_neg (by omega), aS_i, if_pos ⟨rfl, rfl⟩], fun q w => c3 q (cc2 q w)⟩, fun Q => ?_⟩
      have kt : kb false = 0 := rfl
      rw [kt] at ec2
      clear S sh hS hS2 J A1 x1 cc1 k1 kb1 so1 A2 x2 k2 cc2 er er2 cp2 w1 w2 T' A3 x3 k3 c3
      simp (disch := omega) only [s_263_0, s_263_1, s_263_2, s_263_3, s_263_4, s_263_7, s_263_8, s_263_9, s_263_10, s_263_11, s_263_12, s_263_15, s_263_17, s_263_18, s_263_19, s_263_20, s_263_21, s_263_22, s_263_23, s_263_24, s_263_27, s_263_30, s_263_31, s_263_33, s_263_36, s_263_39, s_263_40, s_263_41, s_263_44, s_263_45, s_263_46, s_263_49, s_263_50, s_263_51, s_263_52, s_263_55, s_263_56, s_263_59, s_263_60, s_263_62, s_263_63, s_263_66, s_263_67, s_263_69, s_263_72, s_263_73, s_263_76, s_263_79, s_263_80, s_263_83, s_263_84, s_263_85, s_263_86, s_263_89, s_263_92, s_263_93, s_263_94, s_263_97, s_263_98, s_263_100, s_263_103, s_263_104, s_263_107, s_263_110, s_263_111, s_263_114, s_263_115, s_263_116, s_263_117, s_263_120, s_263_123, s_263_124, e_263, mv_i_1, mv_l_1, mv_a_1, mv_a_2, mv_a_3, mk2_n, mk2_i, mk2_l, mk2_a, mk2_u, mk2_x, mB_T, mB_F, mS_cons, mS_nil, mSB_T, mSB_F, mca_nil, mca_i, mca_l, mca_r, mca_u, mca_x, mcat_i, mcat_l, mcat_r, mcat_u, mcat_x, mK_some, mK_none, va_rf_s, va_rf_n, lgc_eq, lgc_lt, lgc_gt, lgc_ge, lgc_le, mrd_104, mrd_105, mrd_106, mrd_107, true_and, and_true, and_self, false_and, and_false, true_or, or_true, false_or, or_false, not_true_eq_false, not_false_eq_true, mgb, mga, mgr, mN, reduceCtorEq, ↓reduceIte, eq_self, ge_iff_le, gt_iff_lt, Nat.reduceAdd, Nat.reduceMul, Nat.reduceSub, Nat.reduceLT, Nat.reduceGT, Nat.reduceEqDiff, Nat.reduceLeDiff, Nat.left_eq_add, Nat.add_eq_left, Nat.reduceMod, Nat.reduceDiv, Nat.succ_ne_self, g, go, aS_g, e00, e10, e1', e2', c229, c228, ec, ec2, or11]
    | true =>
      obtain ⟨lx, ly, hv2, el, eh⟩ := eR_s er2 rfl
      have ep : a_put E.en A (E.en (tV m)) (.branch m1 c1 r1) (tT (.branch m1 c1 r1)) = (some (a_end (E.en (tV m)) (if A.rm (E.en (tV m)) = 1 then lx else min (A.lo (E.en (tV m))) lx) (if A.rm (E.en (tV m)) = 1 then ly else max (A.hi (E.en (tV m))) ly) A), al1 ||| al2) := by unfold a_put; rw [hv1]; dsimp only; rw [cp1, show tT (.branch m1 c1 r1) = r1 from rfl, hv2, hal2]
      rw [ep]
      have kt : kb true = 1 := rfl
      rw [kt] at ec2
      have K2 : KM (aS h 115 (al1 ||| al2) l2 u2) o A := k2
      have rm2 : mh_i h (o + 4) (E.en (tV m)) = Int32.ofNat (A.rm (E.en (tV m))) := KM.rm S.k _ hx'
      have a6 := T'.a6
      have ko' := RK_ko S.k
      unfold ko at ko'
      obtain ⟨-, -, -, -, q4, g2, l2', q5, g3, l3', q6, g4, l4'⟩ := ko'
      have fin : ∀ v1 v2 : Int64, v1.toInt = (if A.rm (E.en (tV m)) = 1 then lx else min (A.lo (E.en (tV m))) lx) → v2.toInt = (if A.rm (E.en (tV m)) = 1 then ly else max (A.hi (E.en (tV m))) ly) → SFi G h (mh_sj (mh_sj (aS h 115 (al1 ||| al2) l2 u2) (o + 2) (E.en (tV m)) v1) (o + 3) (E.en (tV m)) v2) s0 (s0 + 1) o E.T E D w0 (some (a_end (E.en (tV m)) (if A.rm (E.en (tV m)) = 1 then lx else min (A.lo (E.en (tV m))) lx) (if A.rm (E.en (tV m)) = 1 then ly else max (A.hi (E.en (tV m))) ly) A)) (al1 ||| al2) := fun v1 v2 f1 f2 => by
        have kk := KM_end (x := E.en (tV m)) k2 hx' f1 f2
        have f : fq (kW o) (aS h 115 (al1 ||| al2) l2 u2) (mh_sj (mh_sj (aS h 115 (al1 ||| al2) l2 u2) (o + 2) (E.en (tV m)) v1) (o + 3) (E.en (tV m)) v2) := fq_t (fq_sj kW2) (fq_sj kW3)
        exact ⟨rq_t x2 (sV_k A2 so2 f), ra_k A2 so2 f (RK_ko kk), kk, by rw [hi_sj, hi_sj, aS_i, if_neg (by omega)]; exact a20, by rw [hi_sj, hi_sj, aS_i, if_pos ⟨rfl, rfl⟩], fun q w => cn_q A2 (vK_1 so2) (rq_rs (s0 := s0) A2.j (vK_1 so2) (rs_k f)) (cc2 q w)⟩
      have j25 : mh_j (aS h 115 (al1 ||| al2) l2 u2) 115 25 = l2 := by rw [aS_j, if_neg (by omega), if_pos ⟨rfl, rfl⟩]
      have j26 : mh_j (aS h 115 (al1 ||| al2) l2 u2) 115 26 = u2 := by rw [aS_j, if_pos ⟨rfl, rfl⟩]
      have jl : mh_j (aS h 115 (al1 ||| al2) l2 u2) (o + 2) (E.en (tV m)) = mh_j h (o + 2) (E.en (tV m)) := by rw [aS_j, if_neg (by omega), if_neg (by omega)]
      have jh : mh_j (aS h 115 (al1 ||| al2) l2 u2) (o + 3) (E.en (tV m)) = mh_j h (o + 3) (E.en (tV m)) := by rw [aS_j, if_neg (by omega), if_neg (by omega)]
      have il : mh_i (aS h 115 (al1 ||| al2) l2 u2) (o + 4) (E.en (tV m)) = Int32.ofNat (A.rm (E.en (tV m))) := by rw [aS_i, if_neg (by omega)]; exact rm2
      have lo2 := KM.lo S.k _ hx'
      have hi2 := KM.hi S.k _ hx'
      have n2 : ¬ (115 : Nat) = o + 2 := by omega
      have n23 : ¬ (o + 3 : Nat) = o + 2 := by omega
      have no2 : ¬ (o : Nat) = o + 2 := by omega
      by_cases c1' : A.rm (E.en (tV m)) = 1
      · have q1 : Int32.ofNat (A.rm (E.en (tV m))) = 1 := by rw [c1']; rfl
        have F := fin l2 u2 (by rw [if_pos c1']; exact el) (by rw [if_pos c1']; exact eh)
        refine ⟨_, F, fun Q => ?_⟩
        clear S sh hS hS2 J A1 x1 cc1 k1 kb1 so1 A2 x2 k2 cc2 er er2 cp2 w1 w2 T' K2 F fin J1
        simp (disch := omega) only [s_263_0, s_263_1, s_263_2, s_263_3, s_263_4, s_263_7, s_263_8, s_263_9, s_263_10, s_263_11, s_263_12, s_263_15, s_263_17, s_263_18, s_263_19, s_263_20, s_263_21, s_263_22, s_263_23, s_263_24, s_263_27, s_263_30, s_263_31, s_263_33, s_263_36, s_263_39, s_263_40, s_263_41, s_263_44, s_263_45, s_263_46, s_263_49, s_263_50, s_263_51, s_263_52, s_263_55, s_263_56, s_263_59, s_263_60, s_263_62, s_263_63, s_263_66, s_263_67, s_263_69, s_263_72, s_263_73, s_263_76, s_263_79, s_263_80, s_263_83, s_263_84, s_263_85, s_263_86, s_263_89, s_263_92, s_263_93, s_263_94, s_263_97, s_263_98, s_263_100, s_263_103, s_263_104, s_263_107, s_263_110, s_263_111, s_263_114, s_263_115, s_263_116, s_263_117, s_263_120, s_263_123, s_263_124, e_263, mv_i_1, mv_l_1, mv_a_1, mv_a_2, mv_a_3, mk2_n, mk2_i, mk2_l, mk2_a, mk2_u, mk2_x, mB_T, mB_F, mS_cons, mS_nil, mSB_T, mSB_F, mca_nil, mca_i, mca_l, mca_r, mca_u, mca_x, mcat_i, mcat_l, mcat_r, mcat_u, mcat_x, mK_some, mK_none, va_rf_s, va_rf_n, lgc_eq, lgc_lt, lgc_gt, lgc_ge, lgc_le, mrd_104, mrd_105, mrd_106, mrd_107, true_and, and_true, and_self, false_and, and_false, true_or, or_true, false_or, or_false, not_true_eq_false, not_false_eq_true, mgb, mga, mgr, mN, reduceCtorEq, ↓reduceIte, eq_self, ge_iff_le, gt_iff_lt, hk_si, hk_sj, hk_sr, hl_si, hl_sj, hl_sr, hn_si, hn_sj, hn_sr, hs_si, hs_sj, hs_sr, hi_sj, hi_sr, hj_si, hj_sr, hr_si, hr_sj, hi_si, hj_sj, hr_sr, mg_si, mg_sj, mg_sr, Nat.reduceAdd, Nat.reduceMul, Nat.reduceSub, Nat.reduceLT, Nat.reduceGT, Nat.reduceEqDiff, Nat.reduceLeDiff, Nat.left_eq_add, Nat.add_eq_left, Nat.reduceMod, Nat.reduceDiv, Nat.succ_ne_self, g, go, aS_g, aS_r, aS_l, e00, e10, e1', e2', c229, c228, ec, ec2, q4, q5, q6, g2, g3, g4, l2', l3', l4', il, q1, j25, j26, n2, nn_mxT, nn_clamp]
      · have q1 : (Int32.ofNat (A.rm (E.en (tV m))) = 1) = False := eq_false (fun z => c1' (by
          have z' : Int32.ofNat (A.rm (E.en (tV m))) = Int32.ofNat 1 := z
          exact (nn_eq (by omega) (by omega)).mp z'))
        have F := fin (if l2 < mh_j h (o + 2) (E.en (tV m)) then l2 else mh_j h (o + 2) (E.en (tV m))) (if u2 < mh_j h (o + 3) (E.en (tV m)) then mh_j h (o + 3) (E.en (tV m)) else u2) (by rw [if_neg c1', mn64, lo2, el]) (by rw [if_neg c1', mx64, hi2, eh])
        refine ⟨_, F, fun Q => ?_⟩
        clear S sh hS hS2 J A1 x1 cc1 k1 kb1 so1 A2 x2 k2 cc2 er er2 cp2 w1 w2 T' K2 F fin J1
        simp (disch := omega) only [s_263_0, s_263_1, s_263_2, s_263_3, s_263_4, s_263_7, s_263_8, s_263_9, s_263_10, s_263_11, s_263_12, s_263_15, s_263_17, s_263_18, s_263_19, s_263_20, s_263_21, s_263_22, s_263_23, s_263_24, s_263_27, s_263_30, s_263_31, s_263_33, s_263_36, s_263_39, s_263_40, s_263_41, s_263_44, s_263_45, s_263_46, s_263_49, s_263_50, s_263_51, s_263_52, s_263_55, s_263_56, s_263_59, s_263_60, s_263_62, s_263_63, s_263_66, s_263_67, s_263_69, s_263_72, s_263_73, s_263_76, s_263_79, s_263_80, s_263_83, s_263_84, s_263_85, s_263_86, s_263_89, s_263_92, s_263_93, s_263_94, s_263_97, s_263_98, s_263_100, s_263_103, s_263_104, s_263_107, s_263_110, s_263_111, s_263_114, s_263_115, s_263_116, s_263_117, s_263_120, s_263_123, s_263_124, e_263, mv_i_1, mv_l_1, mv_a_1, mv_a_2, mv_a_3, mk2_n, mk2_i, mk2_l, mk2_a, mk2_u, mk2_x, mB_T, mB_F, mS_cons, mS_nil, mSB_T, mSB_F, mca_nil, mca_i, mca_l, mca_r, mca_u, mca_x, mcat_i, mcat_l, mcat_r, mcat_u, mcat_x, mK_some, mK_none, va_rf_s, va_rf_n, lgc_eq, lgc_lt, lgc_gt, lgc_ge, lgc_le, mrd_104, mrd_105, mrd_106, mrd_107, true_and, and_true, and_self, false_and, and_false, true_or, or_true, false_or, or_false, not_true_eq_false, not_false_eq_true, mgb, mga, mgr, mN, reduceCtorEq, ↓reduceIte, eq_self, ge_iff_le, gt_iff_lt, hk_si, hk_sj, hk_sr, hl_si, hl_sj, hl_sr, hn_si, hn_sj, hn_sr, hs_si, hs_sj, hs_sr, hi_sj, hi_sr, hj_si, hj_sr, hr_si, hr_sj, hi_si, hj_sj, hr_sr, mg_si, mg_sj, mg_sr, Nat.reduceAdd, Nat.reduceMul, Nat.reduceSub, Nat.reduceLT, Nat.reduceGT, Nat.reduceEqDiff, Nat.reduceLeDiff, Nat.left_eq_add, Nat.add_eq_left, Nat.reduceMod, Nat.reduceDiv, Nat.succ_ne_self, g, go, aS_g, aS_r, aS_l, e00, e10, e1', e2', c229, c228, ec, ec2, q4, q5, q6, g2, g3, g4, l2', l3', l4', il, q1, j25, j26, jl, jh, n2, n23, nn_mxT, nn_clamp]
theorem put_1 (S : SMp h s0 o b E D w0 (some A)) (sh : shp E.nu E.ar E.rm (some A)) (hS : eSm E t) (hS2 : eSm E (tT t)) (hm : (mh_i h 95 (k + 1)).toInt = tV m) (hs : E.sN (tV m)) (hx : E.en (tV m) < E.ar) (hr : E.rm (E.en (tV m)) ≤ 64) (n : nd (mh_i h 93) (mh_i h 95) (mh_i h 97) (k + 2) t) (hb : k + 2 + ts t ≤ 26000) (hd : 800 ≤ d) : ∃ h', SFi G h h' s0 s0 o E.T E D w0 (a_put E.en A (E.en (tV m)) t (tT t)).1 (a_put E.en A (E.en (tV m)) t (tT t)).2 ∧ ∀ Q, mw (d + 1) 262 Q 25 [some (.ref 115), some (.int (Int32.ofNat k)), some (.ref o), some (.int 1), some (.int (Int32.ofNat s0)), some (.ref b), none, none] [.int 6] h = Q none h' := by
  obtain ⟨d, rfl⟩ : ∃ d', d = d' + 1 := ⟨d - 1, by omega⟩
  have lo := sp_lo S.A.j (lv_sp S.l)
  have g := S.A.j.a.g
  obtain ⟨h1, F, run⟩ := u_263 (d := d) (G := G) (k := k) S sh hS hS2 hm hs hx hr n hb (by omega)
  refine ⟨_, sim_f F lo, fun Q => ?_⟩
  rw [tb_6]
  have fin := (sim_9 (d := d + 1 + 1) (s0 := s0) F.A (x1 := some (.int (Int32.ofNat k))) (x2 := some (.ref o)) (x3 := some (.int 1)) (x5 := some (.ref b)) (x6 := none) (x7 := none)).2 Q
  rw [← fin]
  have e10 : ((1 : Int32) = 0) = False := by decide
  clear fin F S sh hS hS2
  simp (disch := omega) only [s_262_0, s_262_1, s_262_4, s_262_6, s_262_7, s_262_8, s_262_11, s_262_11n, s_262_13, s_262_14, s_262_16, s_262_16n, s_262_19, s_262_20, s_262_23, s_262_24, s_262_72, s_262_73, s_262_76, s_262_78, s_262_79, s_262_82, s_262_83, s_262_86, s_262_87, s_262_88, s_262_89, s_262_92, s_262_93, s_262_94, s_262_95, s_262_96, s_262_98, s_262_99, s_262_100, s_262_103, s_262_106, s_262_107, s_262_110, s_262_111, s_262_114, s_262_115, s_262_116, s_262_118, s_262_119, s_262_120, s_262_122, s_262_123, s_262_124, s_262_127, s_262_128, s_262_129, s_262_131, s_262_132, s_262_133, s_262_134, s_262_135, s_262_137, s_262_138, s_262_139, s_262_140, s_262_141, s_262_144, s_262_145, s_262_148, s_262_149, s_262_150, s_262_151, s_262_152, s_262_153, s_262_156, s_262_157, s_262_158, s_262_161, s_262_164, s_262_167, s_262_168, s_262_169, s_262_172, s_262_173, s_262_174, s_262_175, s_262_176, s_262_179, s_262_180, s_262_181, s_262_182, s_262_183, s_262_184, s_262_187, s_262_188, s_262_189, s_262_192, s_262_195, s_262_198, s_262_199, s_262_202, s_262_203, s_262_204, s_262_205, s_262_206, s_262_207, s_262_208, s_262_209, s_262_210, s_262_213, s_262_214, s_262_215, s_262_218, s_262_221, s_262_222, s_262_225, s_262_226, s_262_227, s_262_228, s_262_231, s_262_234, s_262_235, s_262_238, s_262_239, s_262_242, s_262_242n, s_262_244, s_262_245, s_262_246, s_262_247, s_262_248, s_262_250, s_262_251, s_262_253, s_262_256, s_262_257, s_262_258, s_262_261, s_262_263, s_262_266, s_262_269, s_262_270, s_262_273, s_262_275, s_262_276, s_262_279, s_262_282, s_262_283, s_262_286, s_262_287, s_262_290, s_262_293, s_262_294, s_262_295, s_262_296, s_262_297, s_262_298, s_262_301, s_262_302, s_262_303, s_262_306, s_262_309, s_262_310, s_262_313, s_262_314, s_262_315, s_262_316, s_262_317, s_262_318, s_262_321, s_262_324, s_262_325, s_262_328, s_262_329, s_262_333, s_262_335, s_262_338, e_262, mv_i_1, mv_l_1, mv_a_1, mv_a_2, mv_a_3, mk2_n, mk2_i, mk2_l, mk2_a, mk2_u, mk2_x, mB_T, mB_F, mS_cons, mS_nil, mSB_T, mSB_F, mca_nil, mca_i, mca_l, mca_r, mca_u, mca_x, mcat_i, mcat_l, mcat_r, mcat_u, mcat_x, mK_some, mK_none, va_rf_s, va_rf_n, lgc_eq, lgc_lt, lgc_gt, lgc_ge, lgc_le, mrd_104, mrd_105, mrd_106, mrd_107, true_and, and_true, and_self, false_and, and_false, true_or, or_true, false_or, or_false, not_true_eq_false, not_false_eq_true, mgb, mga, mgr, mN, reduceCtorEq, ↓reduceIte, eq_self, ge_iff_le, gt_iff_lt, Nat.reduceAdd, Nat.reduceMul, Nat.reduceSub, Nat.reduceLT, Nat.reduceGT, Nat.reduceEqDiff, Nat.reduceLeDiff, Nat.left_eq_add, Nat.add_eq_left, Nat.reduceMod, Nat.reduceDiv, Nat.succ_ne_self, g, e10, run]
theorem ass_1 (S : SMp h s0 o b E D w0 (some A)) (sh : shp E.nu E.ar E.rm (some A)) (hC : eCo E t) (n : nd (mh_i h 93) (mh_i h 95) (mh_i h 97) (k + 1) t) (hb : k + 1 + ts t ≤ 26000) (hs2 : s0 + 2 + cn3 t ≤ 2048) (hd : 700 ≤ d) : ∃ h', SFi G h h' s0 s0 o E.T E D w0 (spl E.en t false false (some A) none).1 (spA 7 (spl E.en t false false (some A) none)) ∧ ∀ Q, mw (d + 1) 262 Q 25 [some (.ref 115), some (.int (Int32.ofNat k)), some (.ref o), some (.int 1), some (.int (Int32.ofNat s0)), some (.ref b), none, none] [.int 10] h = Q none h' := by
  obtain ⟨d, rfl⟩ : ∃ d', d = d' + 1 := ⟨d - 1, by omega⟩
  obtain ⟨T', e1, e2, e3⟩ := sh A rfl
  have J := S.A.j
  have so := lv_sp S.l
  have lo := sp_lo J so
  have g := J.a.g
  obtain ⟨h1, fa, x1, J1, f1, i11, i24, ko1, r1⟩ := t_226 (d := d) J S.A.s (by omega)
  have A1 := RA_q S.A vF x1 J1 i11
  have lb : lv h (s0 + 1) b := ⟨s0, by omega, S.e⟩
  have lo1 : lv h (s0 + 1) o := lv_w S.l (by omega)
  have lb1 := rq_lv x1 lb
  have lo1' := rq_lv x1 lo1
  have kb1 := rq_K J x1 lb (fun _ _ _ w => w) S.kb
  have l2o : lv h1 (s0 + 1 + 1) o := lv_w lo1' (by omega)
  have l2b : lv h1 (s0 + 1 + 1) b := lv_w lb1 (by omega)
  have l2f : lv h1 (s0 + 1 + 1) fa := ⟨s0 + 1, by omega, f1⟩
  have nof : o ≠ fa := lv_ne J1 lo1' (Nat.le_refl _) f1
  have nbf : b ≠ fa := lv_ne J1 lb1 (Nat.le_refl _) f1
  obtain ⟨t1, t2, t3⟩ := rq_tr J vF x1
  have okA : okS A (some A) := fun B e => by cases e; exact ⟨T', rfl, rfl, rfl⟩
  have hth := hC.2
  obtain ⟨h2, x2, J2, i11', kh, kf, al, fl, r2⟩ := u_250 (T := E.T) (sN := E.sN) (en := E.en) t (d + 1) (k + 1) (s0 + 1 + 1) b o fa h1 A (some A) J1 i11 (by omega) l2b l2o l2f S.ne nbf nof kb1 okA (by rw [t1, t2, t3]; exact n) hb (hC.1 A e1 e2 e3) (by omega)
  have v : vK h1 (v2 o fa) := v2_K (lv_sp l2o) (lv_sp l2f)
  have A2 := RA_q A1 v x2 J2 i11'
  have gf2 := (RK_ko kf).1
  have g1 := J1.a.g
  have g2 := J2.a.g
  have lf := sp_lo J1 (lv_sp l2f)
  have xx : rq s0 (sV o E.T) h h2 := rq_t (sV_F x1 (by omega)) (sV_v x2 (by omega) (fun b j w => by
    rcases w with w | w
    · exact Or.inl w
    · exact Or.inr ⟨s0 + 1, fa, by omega, f1, w⟩))
  have a24 : mh_i h2 115 24 = (spl E.en t false false (some A) none).2.2 := by rw [al, i24, S.al, Int32.or_comm]; exact i32_or0 _
  have a2' : mh_i h2 o 2 = Int32.ofNat E.ar := by
    rw [(fl 2 (Or.inr rfl)).1, (RK_f kb1).2, e2]
  have cc : ∀ q, cnQ G h q → cnQ G h2 q := fun q w => cn_q A1 v x2 (cn_q S.A vF x1 w)
  have hz : ∃ zz vv : Int32, mh_i h2 fa 0 = zz ∧ ((zz = 0 ∧ vv = 8) ∨ (zz = 1 ∧ vv = 0)) ∧ spA 7 (spl E.en t false false (some A) none) = (spl E.en t false false (some A) none).2.2 ||| vv := by
    unfold spA
    cases hq : (spl E.en t false false (some A) none).2.1 with
    | none =>
      rw [hq] at kf
      exact ⟨1, 0, KN.z kf, Or.inr ⟨rfl, rfl⟩, by rw [if_neg (fun z => z.2 rfl)]; exact (i32_or0 _).symm⟩
    | some B =>
      rw [hq] at kf
      exact ⟨0, 8, KM.z kf, Or.inl ⟨rfl, rfl⟩, by rw [if_pos ⟨rfl, (fun z => (by cases z))⟩]⟩
  obtain ⟨zz, vv, z1, z2, z3⟩ := hz
  have A3 := RA_o A2 (k := 24) (v := (spl E.en t false false (some A) none).2.2 ||| vv) (Or.inr ⟨by omega, by omega⟩)
  have F2 : SFi G h (mh_si h2 115 24 ((spl E.en t false false (some A) none).2.2 ||| vv)) s0 (s0 + 1 + 1) o E.T E D w0 (spl E.en t false false (some A) none).1 (spA 7 (spl E.en t false false (some A) none)) := ⟨rq_t xx (sV_115 (by omega)), A3, RK_fz (fz_si (W := fun b _ => b = 115) rfl) (fun y hy j w => by omega) kh, by rw [hi_si, if_neg (by omega)]; exact a2', by rw [hi_si, if_pos ⟨rfl, rfl⟩, z3], fun q w => cn_i (cc q w) (fun b j hb => by rw [hi_si, if_neg (by omega)])⟩
  refine ⟨_, sim_f F2 lo, fun Q => ?_⟩
  rw [tb_10]
  have fin := (sim_9 (d := d + 1 + 1) (s0 := s0) A3 (x1 := some (.int (Int32.ofNat k))) (x2 := some (.ref o)) (x3 := some (.int 1)) (x5 := some (.ref b)) (x6 := none) (x7 := some (.ref fa))).2 Q
  rw [← fin]
  have e10 : ((1 : Int32) = 0) = False := by decide
  have e00 : ((0 : Int32) = 0) = True := by decide
  have e1' : ∀ k, Int32.ofNat k + 1 = Int32.ofNat (k + 1) := fun k => nn_add (a := k) (b := 1)
  clear fin F2 S sh hC A1 A2 A3 J J1 J2 xx cc x1 x2 kh kf okA T' v z3 fl
  rcases z2 with ⟨rfl, rfl⟩ | ⟨rfl, rfl⟩
  · simp (disch := omega) only [s_262_0, s_262_1, s_262_4, s_262_6, s_262_7, s_262_8, s_262_11, s_262_11n, s_262_13, s_262_14, s_262_16, s_262_16n, s_262_19, s_262_20, s_262_23, s_262_24, s_262_72, s_262_73, s_262_76, s_262_78, s_262_79, s_262_82, s_262_83, s_262_86, s_262_87, s_262_88, s_262_89, s_262_92, s_262_93, s_262_94, s_262_95, s_262_96, s_262_98, s_262_99, s_262_100, s_262_103, s_262_106, s_262_107, s_262_110, s_262_111, s_262_114, s_262_115, s_262_116, s_262_118, s_262_119, s_262_120, s_262_122, s_262_123, s_262_124, s_262_127, s_262_128, s_262_129, s_262_131, s_262_132, s_262_133, s_262_134, s_262_135, s_262_137, s_262_138, s_262_139, s_262_140, s_262_141, s_262_144, s_262_145, s_262_148, s_262_149, s_262_150, s_262_151, s_262_152, s_262_153, s_262_156, s_262_157, s_262_158, s_262_161, s_262_164, s_262_167, s_262_168, s_262_169, s_262_172, s_262_173, s_262_174, s_262_175, s_262_176, s_262_179, s_262_180, s_262_181, s_262_182, s_262_183, s_262_184, s_262_187, s_262_188, s_262_189, s_262_192, s_262_195, s_262_198, s_262_199, s_262_202, s_262_203, s_262_204, s_262_205, s_262_206, s_262_207, s_262_208, s_262_209, s_262_210, s_262_213, s_262_214, s_262_215, s_262_218, s_262_221, s_262_222, s_262_225, s_262_226, s_262_227, s_262_228, s_262_231, s_262_234, s_262_235, s_262_238, s_262_239, s_262_242, s_262_242n, s_262_244, s_262_245, s_262_246, s_262_247, s_262_248, s_262_250, s_262_251, s_262_253, s_262_256, s_262_257, s_262_258, s_262_261, s_262_263, s_262_266, s_262_269, s_262_270, s_262_273, s_262_275, s_262_276, s_262_279, s_262_282, s_262_283, s_262_286, s_262_287, s_262_290, s_262_293, s_262_294, s_262_295, s_262_296, s_262_297, s_262_298, s_262_301, s_262_302, s_262_303, s_262_306, s_262_309, s_262_310, s_262_313, s_262_314, s_262_315, s_262_316, s_262_317, s_262_318, s_262_321, s_262_324, s_262_325, s_262_328, s_262_329, s_262_333, s_262_335, s_262_338, e_262, mv_i_1, mv_l_1, mv_a_1, mv_a_2, mv_a_3, mk2_n, mk2_i, mk2_l, mk2_a, mk2_u, mk2_x, mB_T, mB_F, mS_cons, mS_nil, mSB_T, mSB_F, mca_nil, mca_i, mca_l, mca_r, mca_u, mca_x, mcat_i, mcat_l, mcat_r, mcat_u, mcat_x, mK_some, mK_none, va_rf_s, va_rf_n, lgc_eq, lgc_lt, lgc_gt, lgc_ge, lgc_le, mrd_104, mrd_105, mrd_106, mrd_107, true_and, and_true, and_self, false_and, and_false, true_or, or_true, false_or, or_false, not_true_eq_false, not_false_eq_true, mgb, mga, mgr, mN, reduceCtorEq, ↓reduceIte, eq_self, ge_iff_le, gt_iff_lt, Nat.reduceAdd, Nat.reduceMul, Nat.reduceSub, Nat.reduceLT, Nat.reduceGT, Nat.reduceEqDiff, Nat.reduceLeDiff, Nat.left_eq_add, Nat.add_eq_left, Nat.reduceMod, Nat.reduceDiv, Nat.succ_ne_self, g, g1, g2, gf2, e10, e00, e1', r1, r2, a24, z1]
  · simp (disch := omega) only [s_262_0, s_262_1, s_262_4, s_262_6, s_262_7, s_262_8, s_262_11, s_262_11n, s_262_13, s_262_14, s_262_16, s_262_16n, s_262_19, s_262_20, s_262_23, s_262_24, s_262_72, s_262_73, s_262_76, s_262_78, s_262_79, s_262_82, s_262_83, s_262_86, s_262_87, s_262_88, s_262_89, s_262_92, s_262_93, s_262_94, s_262_95, s_262_96, s_262_98, s_262_99, s_262_100, s_262_103, s_262_106, s_262_107, s_262_110, s_262_111, s_262_114, s_262_115, s_262_116, s_262_118, s_262_119, s_262_120, s_262_122, s_262_123, s_262_124, s_262_127, s_262_128, s_262_129, s_262_131, s_262_132, s_262_133, s_262_134, s_262_135, s_262_137, s_262_138, s_262_139, s_262_140, s_262_141, s_262_144, s_262_145, s_262_148, s_262_149, s_262_150, s_262_151, s_262_152, s_262_153, s_262_156, s_262_157, s_262_158, s_262_161, s_262_164, s_262_167, s_262_168, s_262_169, s_262_172, s_262_173, s_262_174, s_262_175, s_262_176, s_262_179, s_262_180, s_262_181, s_262_182, s_262_183, s_262_184, s_262_187, s_262_188, s_262_189, s_262_192, s_262_195, s_262_198, s_262_199, s_262_202, s_262_203, s_262_204, s_262_205, s_262_206, s_262_207, s_262_208, s_262_209, s_262_210, s_262_213, s_262_214, s_262_215, s_262_218, s_262_221, s_262_222, s_262_225, s_262_226, s_262_227, s_262_228, s_262_231, s_262_234, s_262_235, s_262_238, s_262_239, s_262_242, s_262_242n, s_262_244, s_262_245, s_262_246, s_262_247, s_262_248, s_262_250, s_262_251, s_262_253, s_262_256, s_262_257, s_262_258, s_262_261, s_262_263, s_262_266, s_262_269, s_262_270, s_262_273, s_262_275, s_262_276, s_262_279, s_262_282, s_262_283, s_262_286, s_262_287, s_262_290, s_262_293, s_262_294, s_262_295, s_262_296, s_262_297, s_262_298, s_262_301, s_262_302, s_262_303, s_262_306, s_262_309, s_262_310, s_262_313, s_262_314, s_262_315, s_262_316, s_262_317, s_262_318, s_262_321, s_262_324, s_262_325, s_262_328, s_262_329, s_262_333, s_262_335, s_262_338, e_262, mv_i_1, mv_l_1, mv_a_1, mv_a_2, mv_a_3, mk2_n, mk2_i, mk2_l, mk2_a, mk2_u, mk2_x, mB_T, mB_F, mS_cons, mS_nil, mSB_T, mSB_F, mca_nil, mca_i, mca_l, mca_r, mca_u, mca_x, mcat_i, mcat_l, mcat_r, mcat_u, mcat_x, mK_some, mK_none, va_rf_s, va_rf_n, lgc_eq, lgc_lt, lgc_gt, lgc_ge, lgc_le, mrd_104, mrd_105, mrd_106, mrd_107, true_and, and_true, and_self, false_and, and_false, true_or, or_true, false_or, or_false, not_true_eq_false, not_false_eq_true, mgb, mga, mgr, mN, reduceCtorEq, ↓reduceIte, eq_self, ge_iff_le, gt_iff_lt, Nat.reduceAdd, Nat.reduceMul, Nat.reduceSub, Nat.reduceLT, Nat.reduceGT, Nat.reduceEqDiff, Nat.reduceLeDiff, Nat.left_eq_add, Nat.add_eq_left, Nat.reduceMod, Nat.reduceDiv, Nat.succ_ne_self, g, g1, g2, gf2, e10, e00, e1', r1, r2, a24, z1]
end PUs
