set_option maxRecDepth 100000
/-! THE CLASS'S LINE: bytes that are written -/
def lcW (s0 b j : Nat) : Prop := (b = 0 ∧ (j = 13 ∨ j = 14)) ∨ b = s0
def LNc (h0 h : mh_H) (s0 : Nat) (L : List Int32) : Prop := (fz (lcW s0) h0 h) ∧ (mh_i h 0 14 = Int32.ofNat L.length) ∧ (∃ bs l, mh_r h 0 13 = some bs ∧ mg h bs 102 ∧ mh_l h bs = l ∧ L.length ≤ l ∧ 64 ≤ l ∧ l ≤ 48000 ∧ (bs = s0 ∨ mh_n h0 ≤ bs) ∧ (∀ i v, L[i]? = some v → mh_i h bs i &&& 255 = v) ∧ mh_s h + 2 * mh_l h0 s0 = mh_s h0 + 2 * l ∧ mh_n h + mh_l h0 s0 ≤ mh_n h0 + l)
theorem LNc.of {h0 h : mh_H} {s0 : Nat} {L : List Int32} (q : (fz (lcW s0) h0 h) ∧ (mh_i h 0 14 = Int32.ofNat L.length) ∧ (∃ bs l, mh_r h 0 13 = some bs ∧ mg h bs 102 ∧ mh_l h bs = l ∧ L.length ≤ l ∧ 64 ≤ l ∧ l ≤ 48000 ∧ (bs = s0 ∨ mh_n h0 ≤ bs) ∧ (∀ i v, L[i]? = some v → mh_i h bs i &&& 255 = v) ∧ mh_s h + 2 * mh_l h0 s0 = mh_s h0 + 2 * l ∧ mh_n h + mh_l h0 s0 ≤ mh_n h0 + l)) : LNc h0 h s0 L := q
theorem LNc.f {h0 h : mh_H} {s0 : Nat} {L : List Int32} (q : LNc h0 h s0 L) : fz (lcW s0) h0 h := q.1
theorem LNc.n {h0 h : mh_H} {s0 : Nat} {L : List Int32} (q : LNc h0 h s0 L) : mh_i h 0 14 = Int32.ofNat L.length := q.2.1
theorem LNc.b {h0 h : mh_H} {s0 : Nat} {L : List Int32} (q : LNc h0 h s0 L) : ∃ bs l, mh_r h 0 13 = some bs ∧ mg h bs 102 ∧ mh_l h bs = l ∧ L.length ≤ l ∧ 64 ≤ l ∧ l ≤ 48000 ∧ (bs = s0 ∨ mh_n h0 ≤ bs) ∧ (∀ i v, L[i]? = some v → mh_i h bs i &&& 255 = v) ∧ mh_s h + 2 * mh_l h0 s0 = mh_s h0 + 2 * l ∧ mh_n h + mh_l h0 s0 ≤ mh_n h0 + l := q.2.2
section LCs
variable {d : Nat} {h0 h h1 : mh_H} {s0 : Nat} {L : List Int32} {v : Int32}
/-- Arrays.copyOf, twice as long -/
theorem c_392g {a l : Nat} (g : mg h a 102) (hl : mh_l h a = l) (h1 : 1 ≤ l) (h2 : l ≤ 100000) (bf : me_bf (mh_new h 102 (2 * l)) a = true) : ∀ Q, mcall d 392 [.ref a, .int (Int32.ofNat (2 * l))] h Q = Q (some (.ref (mh_n h))) (mh_cp (mh_new h 102 (2 * l)) a 0 (mh_n h) 0 l) := by
  intro Q
  have g1 := g.1
  have g2 := g.2
  have n1 : (a = mh_n h) = False := eq_false (by omega)
  have f1 : (a < mh_n h + 1) = True := eq_true (by omega)
  have f2 : (mh_n h < mh_n h + 1) = True := eq_true (by omega)
  have ne : (Int32.ofNat (2 * l) = Int32.ofNat l) = False := by rw [nn_eq (by omega) (by omega)]; exact eq_false (by omega)
  have lt : (Int32.ofNat (2 * l) < Int32.ofNat l) = False := by rw [nn_lt (by omega) (by omega)]; exact eq_false (by omega)
  have n4 : (l ≤ 2 * l) = True := eq_true (by omega)
  have n5 : (2 * l ≤ 10000000) = True := eq_true (by omega)
  simp (disch := omega) only [s_392_0, s_392_1, s_392_2, s_392_2x, s_392_3, s_392_6, s_392_7, s_392_10, s_392_13, s_392_13n, s_392_14, s_392_15, s_392_17, s_392_17n, s_392_17x, s_392_18, s_392_19, s_392_20, s_392_21, s_392_22, s_392_23, s_392_23x, s_392_24, s_392_25, s_392_28, s_392_31, s_392_32, s_392_32n, e_392, mv_i_1, mv_l_1, mv_a_1, mv_a_2, mv_a_3, mk2_n, mk2_i, mk2_l, mk2_a, mk2_u, mk2_x, mB_T, mB_F, mS_cons, mS_nil, mSB_T, mSB_F, mca_nil, mca_i, mca_l, mca_r, mca_u, mca_x, mcat_i, mcat_l, mcat_r, mcat_u, mcat_x, mK_some, mK_none, va_rf_s, va_rf_n, lgc_eq, lgc_lt, lgc_gt, lgc_ge, lgc_le, mrd_104, mrd_105, mrd_106, mrd_107, true_and, and_true, and_self, false_and, and_false, true_or, or_true, false_or, or_false, not_true_eq_false, not_false_eq_true, mgb, mga, mgr, mN, reduceCtorEq, ↓reduceIte, eq_self, ge_iff_le, gt_iff_lt, hk_si, hk_sj, hk_sr, hl_si, hl_sj, hl_sr, hn_si, hn_sj, hn_sr, hs_si, hs_sj, hs_sr, hi_sj, hi_sr, hj_si, hj_sr, hr_si, hr_sj, hi_si, hj_sj, hr_sr, mg_si, mg_sj, mg_sr, Nat.reduceAdd, Nat.reduceMul, Nat.reduceSub, Nat.reduceLT, Nat.reduceGT, Nat.reduceEqDiff, Nat.reduceLeDiff, Nat.left_eq_add, Nat.add_eq_left, Nat.reduceMod, Nat.reduceDiv, Nat.succ_ne_self, hk_new, hl_new, hn_new, mg_new, cpok_eq, g, g1, g2, hl, ne, lt, nn_clamp, nn_ge, n1, n4, n5, f1, f2, bf, Nat.zero_add, Nat.le_refl, show (0 : Int32).toNatClampNeg = 0 by decide, show ((0 : Int32) ≤ 0) = True by decide]
theorem t_224 (g0 : mg h0 0 11) (H : LNc h0 h s0 L) {bs : Nat} (r : mh_r h 0 13 = some bs) (lt : L.length < mh_l h bs) (hv : v &&& 255 = v) : ∃ h', LNc h0 h' s0 (L ++ [v]) ∧ ∀ Q, mw d 224 Q 29 [some (.ref 0), some (.int v)] [] h = Q none h' := by
  have g := fz_mg H.f g0
  have e14 := H.n
  obtain ⟨bs', l, b1, b2, b3, b4, b5, b6, b7, b8, b9, b10⟩ := H.b
  have eb : bs' = bs := by
    rw [r] at b1
    cases b1
    rfl
  subst eb
  have gk := b2.1
  have gn := b2.2
  have gk0 := g.1
  have ne : bs' ≠ 0 := fun z => by rw [z] at gk; omega
  have ne0 : (0 = bs') = False := eq_false (fun z => ne z.symm)
  have e1' : Int32.ofNat L.length + 1 = Int32.ofNat (L.length + 1) := nn_add (a := L.length) (b := 1)
  have ll : (L ++ [v]).length = L.length + 1 := by rw [List.length_append]; rfl
  have f2 : fz (fun b j => lcW s0 b j ∨ mh_n h0 ≤ b) h (mh_si (mh_si h bs' L.length (mna h bs' v.toInt8.toInt32)) 0 14 (Int32.ofNat (L.length + 1))) := fz_t (fz_si (b7.elim (fun z => Or.inl (Or.inr z)) (fun z => Or.inr z))) (fz_si (Or.inl (Or.inl ⟨rfl, Or.inr rfl⟩)))
  refine ⟨mh_si (mh_si h bs' L.length (mna h bs' v.toInt8.toInt32)) 0 14 (Int32.ofNat (L.length + 1)), LNc.of ⟨fz_n (Nat.le_refl _) H.f f2, by rw [hi_si, if_pos ⟨rfl, rfl⟩, ll], bs', l, b1, b2, b3, by omega, b5, b6, b7, fun i u hu => ?_, b9, b10⟩, fun Q => ?_⟩
  · rw [hi_si, if_neg (fun z => ne z.1), hi_si]
    by_cases c : i = L.length
    · rw [if_pos ⟨rfl, c⟩]
      have hu' : (L ++ [v])[i]? = some v := by
        rw [List.getElem?_append_right (by omega), c, Nat.sub_self]
        rfl
      rw [hu'] at hu
      cases hu
      unfold mna
      rw [if_pos gk]
      show (v.toInt8.toInt32).toInt8.toInt32 &&& 255 = v
      rw [i8_and, i8_and]
      exact hv
    · rw [if_neg (fun z => c z.2)]
      have hi : i < (L ++ [v]).length := (List.getElem?_eq_some_iff.mp hu).1
      rw [List.getElem?_append_left (by omega)] at hu
      exact b8 i u hu
  · clear H f2 b8
    simp (disch := omega) only [s_224_0, s_224_1, s_224_4, s_224_5, s_224_8, s_224_9, s_224_12, s_224_13, s_224_14, s_224_17, s_224_18, s_224_19, s_224_22, s_224_23, s_224_26, s_224_26n, s_224_29, s_224_30, s_224_33, s_224_34, s_224_37, s_224_38, s_224_39, s_224_40, s_224_41, s_224_42, s_224_45, s_224_46, s_224_47, s_224_50, e_224, mv_i_1, mv_l_1, mv_a_1, mv_a_2, mv_a_3, mk2_n, mk2_i, mk2_l, mk2_a, mk2_u, mk2_x, mB_T, mB_F, mS_cons, mS_nil, mSB_T, mSB_F, mca_nil, mca_i, mca_l, mca_r, mca_u, mca_x, mcat_i, mcat_l, mcat_r, mcat_u, mcat_x, mK_some, mK_none, va_rf_s, va_rf_n, lgc_eq, lgc_lt, lgc_gt, lgc_ge, lgc_le, mrd_104, mrd_105, mrd_106, mrd_107, true_and, and_true, and_self, false_and, and_false, true_or, or_true, false_or, or_false, not_true_eq_false, not_false_eq_true, mgb, mga, mgr, mN, reduceCtorEq, ↓reduceIte, eq_self, ge_iff_le, gt_iff_lt, hk_si, hk_sj, hk_sr, hl_si, hl_sj, hl_sr, hn_si, hn_sj, hn_sr, hs_si, hs_sj, hs_sr, hi_sj, hi_sr, hj_si, hj_sr, hr_si, hr_sj, hi_si, hj_sj, hr_sr, mg_si, mg_sj, mg_sr, Nat.reduceAdd, Nat.reduceMul, Nat.reduceSub, Nat.reduceLT, Nat.reduceGT, Nat.reduceEqDiff, Nat.reduceLeDiff, Nat.left_eq_add, Nat.add_eq_left, Nat.reduceMod, Nat.reduceDiv, Nat.succ_ne_self, g, r, e14, gk, gn, nn_mxT, nn_clamp, e1', ne0]
/-- writeByte -/
theorem w_224 (g0 : mg h0 0 11) (H : LNc h0 h s0 L) (mb : mbf h) (hL : L.length < 24000) (hv : v &&& 255 = v) : ∃ h', LNc h0 h' s0 (L ++ [v]) ∧ mbf h' ∧ ∀ Q, mcall (d + 1) 224 [.ref 0, .int v] h Q = Q none h' := by
  have g := fz_mg H.f g0
  have gn0 := g.2
  have e14 := H.n
  have fn := H.f.1
  obtain ⟨bs, l, b1, b2, b3, b4, b5, b6, b7, b8, b9, b10⟩ := H.b
  have gk := b2.1
  have gn := b2.2
  by_cases c : L.length = l
  · have bf : me_bf (mh_new h 102 (2 * l)) bs = true := mbf_bf (mbf_new mb) (by rw [hn_new]; omega) (by rw [hk_new, if_neg (by omega)]; omega)
    have a0 := c_392g (d := d) b2 b3 (by omega) (by omega) bf
    have f2 : fz (fun b j => lcW s0 b j ∨ mh_n h0 ≤ b) h (mh_sr (mh_cp (mh_new h 102 (2 * l)) bs 0 (mh_n h) 0 l) 0 13 (some (mh_n h))) := fz_t fz_new (fz_t (fz_cp (fun j _ => Or.inr fn)) (fz_sr (Or.inl (Or.inl ⟨rfl, Or.inl rfl⟩))))
    have H1 : LNc h0 (mh_sr (mh_cp (mh_new h 102 (2 * l)) bs 0 (mh_n h) 0 l) 0 13 (some (mh_n h))) s0 L := by
      refine LNc.of ⟨fz_n (Nat.le_refl _) H.f f2, ?_, mh_n h, 2 * l, by rw [hr_sr, if_pos ⟨rfl, rfl⟩], ⟨by rw [hk_sr, hk_cp, hk_new, if_pos rfl], by rw [hn_sr, hn_cp, hn_new]; omega⟩, by rw [hl_sr, hl_cp, hl_new, if_pos rfl], by omega, by omega, by omega, Or.inr fn, fun i u hu => ?_, by rw [hs_sr, hs_cp, hs_new]; omega, by rw [hn_sr, hn_cp, hn_new]; omega⟩
      · rw [hi_sr, hi_cp, if_neg (by omega), hi_new, if_neg (by omega)]
        exact e14
      · have hi : i < L.length := (List.getElem?_eq_some_iff.mp hu).1
        rw [hi_sr, hi_cp, if_pos ⟨rfl, by omega, by omega⟩, hi_new, if_neg (by omega), show 0 + (i - 0) = i from by omega]
        exact b8 i u hu
    obtain ⟨h', H2, run⟩ := t_224 (d := d + 1) (v := v) g0 H1 (bs := mh_n h) (by rw [hr_sr, if_pos ⟨rfl, rfl⟩]) (by rw [hl_sr, hl_cp, hl_new, if_pos rfl]; omega) hv
    have run' : ∀ Q, mcall (d + 1) 224 [.ref 0, .int v] h Q = Q none h' := fun Q => by
      rw [← run Q]
      have e2 : (2 : Int32) * Int32.ofNat L.length = Int32.ofNat (2 * l) := by rw [c]; exact nn_mul (a := 2) (b := l)
      have e3 : (Int32.ofNat L.length = Int32.ofNat l) = True := by rw [c]; exact eq_true rfl
      have ne0 : (0 = mh_n h) = False := eq_false (by omega)
      clear H H1 H2 f2 b8 run mb bf
      simp (disch := omega) only [s_224_0, s_224_1, s_224_4, s_224_5, s_224_8, s_224_9, s_224_12, s_224_13, s_224_14, s_224_17, s_224_18, s_224_19, s_224_22, s_224_23, s_224_26, s_224_26n, s_224_30, s_224_33, s_224_34, s_224_37, s_224_38, s_224_39, s_224_40, s_224_41, s_224_42, s_224_45, s_224_46, s_224_47, s_224_50, e_224, mv_i_1, mv_l_1, mv_a_1, mv_a_2, mv_a_3, mk2_n, mk2_i, mk2_l, mk2_a, mk2_u, mk2_x, mB_T, mB_F, mS_cons, mS_nil, mSB_T, mSB_F, mca_nil, mca_i, mca_l, mca_r, mca_u, mca_x, mcat_i, mcat_l, mcat_r, mcat_u, mcat_x, mK_some, mK_none, va_rf_s, va_rf_n, lgc_eq, lgc_lt, lgc_gt, lgc_ge, lgc_le, mrd_104, mrd_105, mrd_106, mrd_107, true_and, and_true, and_self, false_and, and_false, true_or, or_true, false_or, or_false, not_true_eq_false, not_false_eq_true, mgb, mga, mgr, mN, reduceCtorEq, ↓reduceIte, eq_self, ge_iff_le, gt_iff_lt, hk_si, hk_sj, hk_sr, hl_si, hl_sj, hl_sr, hn_si, hn_sj, hn_sr, hs_si, hs_sj, hs_sr, hi_sj, hi_sr, hj_si, hj_sr, hr_si, hr_sj, hi_si, hj_sj, hr_sr, mg_si, mg_sj, mg_sr, Nat.reduceAdd, Nat.reduceMul, Nat.reduceSub, Nat.reduceLT, Nat.reduceGT, Nat.reduceEqDiff, Nat.reduceLeDiff, Nat.left_eq_add, Nat.add_eq_left, Nat.reduceMod, Nat.reduceDiv, Nat.succ_ne_self, hk_new, hl_new, hn_new, hr_nw, mg_new, hk_cp, hl_cp, hr_cp, hn_cp, mg_cp, g, b1, e14, gk, gn, b3, e2, e3, a0, ne0]
    exact ⟨h', H2, cal_mb mb run', run'⟩
  · obtain ⟨h', H2, run⟩ := t_224 (d := d + 1) (v := v) g0 H (bs := bs) b1 (by omega) hv
    have run' : ∀ Q, mcall (d + 1) 224 [.ref 0, .int v] h Q = Q none h' := fun Q => by
      rw [← run Q]
      have e3 : (Int32.ofNat L.length = Int32.ofNat l) = False := by rw [nn_eq (by omega) (by omega)]; exact eq_false c
      clear H H2 b8 run mb
      simp (disch := omega) only [s_224_0, s_224_1, s_224_4, s_224_5, s_224_8, s_224_9, s_224_12, s_224_13, s_224_14, s_224_17, s_224_18, s_224_19, s_224_22, s_224_23, s_224_26, s_224_26n, s_224_30, s_224_33, s_224_34, s_224_37, s_224_38, s_224_39, s_224_40, s_224_41, s_224_42, s_224_45, s_224_46, s_224_47, s_224_50, e_224, mv_i_1, mv_l_1, mv_a_1, mv_a_2, mv_a_3, mk2_n, mk2_i, mk2_l, mk2_a, mk2_u, mk2_x, mB_T, mB_F, mS_cons, mS_nil, mSB_T, mSB_F, mca_nil, mca_i, mca_l, mca_r, mca_u, mca_x, mcat_i, mcat_l, mcat_r, mcat_u, mcat_x, mK_some, mK_none, va_rf_s, va_rf_n, lgc_eq, lgc_lt, lgc_gt, lgc_ge, lgc_le, mrd_104, mrd_105, mrd_106, mrd_107, true_and, and_true, and_self, false_and, and_false, true_or, or_true, false_or, or_false, not_true_eq_false, not_false_eq_true, mgb, mga, mgr, mN, reduceCtorEq, ↓reduceIte, eq_self, ge_iff_le, gt_iff_lt, hk_si, hk_sj, hk_sr, hl_si, hl_sj, hl_sr, hn_si, hn_sj, hn_sr, hs_si, hs_sj, hs_sr, hi_sj, hi_sr, hj_si, hj_sr, hr_si, hr_sj, hi_si, hj_sj, hr_sr, mg_si, mg_sj, mg_sr, Nat.reduceAdd, Nat.reduceMul, Nat.reduceSub, Nat.reduceLT, Nat.reduceGT, Nat.reduceEqDiff, Nat.reduceLeDiff, Nat.left_eq_add, Nat.add_eq_left, Nat.reduceMod, Nat.reduceDiv, Nat.succ_ne_self, g, b1, e14, gk, gn, b3, e3]
    exact ⟨h', H2, cal_mb mb run', run'⟩
/-- writeText -/
theorem l_222 (g0 : mg h0 0 11) {j : Nat} (hj : j < 35) : ∀ f i (L : List Int32) (h : mh_H), i + f = xL j → LNc h0 h s0 L → mbf h → L.length + f ≤ 24000 → ∃ h', LNc h0 h' s0 (L ++ xT j f i) ∧ mbf h' ∧ ∀ Q, mw (d + 4) 222 Q 2 [some (.ref 0), some (.retAddr (3 * j + 3)), some (.int (Int32.ofNat i))] [] h = Q none h' := by
  have b1 := xl_ok j hj
  have xs := (xs_ok j hj).1
  have e1' : ∀ k, Int32.ofNat k + 1 = Int32.ofNat (k + 1) := fun k => nn_add (a := k) (b := 1)
  intro f
  induction f with
  | zero =>
    intro i L h hi H mb _
    have c' : (xL j ≤ i) = True := eq_true (by omega)
    have a1 := c_394 (d := d + 2) (h := h) hj
    refine ⟨h, by rw [show xT j 0 i = [] from rfl, List.append_nil]; exact H, mb, fun Q => ?_⟩
    clear H mb
    simp (disch := omega) only [s_222_0, s_222_1, s_222_2, s_222_3, s_222_4, s_222_7, s_222_10, s_222_11, s_222_12, s_222_13, s_222_16, s_222_19, s_222_22, s_222_25, e_222, mv_i_1, mv_l_1, mv_a_1, mv_a_2, mv_a_3, mk2_n, mk2_i, mk2_l, mk2_a, mk2_u, mk2_x, mB_T, mB_F, mS_cons, mS_nil, mSB_T, mSB_F, mca_nil, mca_i, mca_l, mca_r, mca_u, mca_x, mcat_i, mcat_l, mcat_r, mcat_u, mcat_x, mK_some, mK_none, va_rf_s, va_rf_n, lgc_eq, lgc_lt, lgc_gt, lgc_ge, lgc_le, mrd_104, mrd_105, mrd_106, mrd_107, true_and, and_true, and_self, false_and, and_false, true_or, or_true, false_or, or_false, not_true_eq_false, not_false_eq_true, mgb, mga, mgr, mN, reduceCtorEq, ↓reduceIte, eq_self, ge_iff_le, gt_iff_lt, Nat.reduceAdd, Nat.reduceMul, Nat.reduceSub, Nat.reduceLT, Nat.reduceGT, Nat.reduceEqDiff, Nat.reduceLeDiff, Nat.left_eq_add, Nat.add_eq_left, Nat.reduceMod, Nat.reduceDiv, Nat.succ_ne_self, xs, a1, nn_le, c']
  | succ f ih =>
    intro i L h hi H mb hL
    have c' : (xL j ≤ i) = False := eq_false (by omega)
    have a1 := c_394 (d := d + 2) (h := h) hj
    have a2 := c_397 (d := d) (h := h) (i := i) hj (by omega)
    have g := fz_mg H.f g0
    obtain ⟨h1, H1, m1, r1⟩ := w_224 (d := d + 2) (v := xB j i) g0 H mb (by omega) (xB_255 j hj i (by omega))
    obtain ⟨h2, H2, m2, r2⟩ := ih (i + 1) (L ++ [xB j i]) h1 (by omega) H1 m1 (by rw [List.length_append]; show L.length + 1 + f ≤ 24000; omega)
    refine ⟨h2, by rw [List.append_assoc] at H2; exact H2, m2, fun Q => ?_⟩
    rw [← r2 Q]
    clear ih H H1 H2 mb m1 m2
    rw [s_222_2]
    simp (disch := omega) only [s_222_0, s_222_1, s_222_3, s_222_4, s_222_7, s_222_10, s_222_11, s_222_12, s_222_13, s_222_16, s_222_19, s_222_22, s_222_25, e_222, mv_i_1, mv_l_1, mv_a_1, mv_a_2, mv_a_3, mk2_n, mk2_i, mk2_l, mk2_a, mk2_u, mk2_x, mB_T, mB_F, mS_cons, mS_nil, mSB_T, mSB_F, mca_nil, mca_i, mca_l, mca_r, mca_u, mca_x, mcat_i, mcat_l, mcat_r, mcat_u, mcat_x, mK_some, mK_none, va_rf_s, va_rf_n, lgc_eq, lgc_lt, lgc_gt, lgc_ge, lgc_le, mrd_104, mrd_105, mrd_106, mrd_107, true_and, and_true, and_self, false_and, and_false, true_or, or_true, false_or, or_false, not_true_eq_false, not_false_eq_true, mgb, mga, mgr, mN, reduceCtorEq, ↓reduceIte, eq_self, ge_iff_le, gt_iff_lt, Nat.reduceAdd, Nat.reduceMul, Nat.reduceSub, Nat.reduceLT, Nat.reduceGT, Nat.reduceEqDiff, Nat.reduceLeDiff, Nat.left_eq_add, Nat.add_eq_left, Nat.reduceMod, Nat.reduceDiv, Nat.succ_ne_self, xs, a1, a2, g, r1, nn_le, c', e1']
theorem w_222 (g0 : mg h0 0 11) {j : Nat} (hj : j < 35) (H : LNc h0 h s0 L) (mb : mbf h) (hL : L.length + xL j ≤ 24000) : ∃ h', LNc h0 h' s0 (L ++ xW j) ∧ mbf h' ∧ ∀ Q, mcall (d + 4) 222 [.ref 0, .retAddr (3 * j + 3)] h Q = Q none h' := by
  obtain ⟨h', a1, a2, a3⟩ := l_222 (d := d) g0 hj (xL j) 0 L h (by omega) H mb hL
  refine ⟨h', a1, a2, fun Q => ?_⟩
  have a3' : ∀ Q, mw (d + 4) 222 Q 2 [some (.ref 0), some (.retAddr (3 * j + 3)), some (.int 0)] [] h = Q none h' := a3
  rw [← a3' Q]
  simp (disch := omega) only [e_222, s_222_0, s_222_1, mv_i_1, mv_l_1, mv_a_1, mv_a_2, mv_a_3, mk2_n, mk2_i, mk2_l, mk2_a, mk2_u, mk2_x, mB_T, mB_F, mS_cons, mS_nil, mSB_T, mSB_F, mca_nil, mca_i, mca_l, mca_r, mca_u, mca_x, mcat_i, mcat_l, mcat_r, mcat_u, mcat_x, mK_some, mK_none, va_rf_s, va_rf_n, lgc_eq, lgc_lt, lgc_gt, lgc_ge, lgc_le, mrd_104, mrd_105, mrd_106, mrd_107, true_and, and_true, and_self, false_and, and_false, true_or, or_true, false_or, or_false, not_true_eq_false, not_false_eq_true, mgb, mga, mgr, mN, reduceCtorEq, ↓reduceIte, eq_self, ge_iff_le, gt_iff_lt, Nat.reduceAdd, Nat.reduceMul, Nat.reduceSub, Nat.reduceLT, Nat.reduceGT, Nat.reduceEqDiff, Nat.reduceLeDiff, Nat.left_eq_add, Nat.add_eq_left, Nat.reduceMod, Nat.reduceDiv, Nat.succ_ne_self]
/-- writeComma -/
theorem w_219 (g0 : mg h0 0 11) (H : LNc h0 h s0 L) (mb : mbf h) (hL : L.length + 2 ≤ 24000) : ∃ h', LNc h0 h' s0 (wCm L) ∧ mbf h' ∧ ∀ Q, mcall (d + 5) 219 [.ref 0] h Q = Q none h' := by
  have g := fz_mg H.f g0
  have e14 := H.n
  unfold wCm
  by_cases c : L.length = 0
  · rw [if_pos c]
    refine ⟨h, H, mb, fun Q => ?_⟩
    have c' : (Int32.ofNat L.length ≤ 0) = True := by rw [c]; decide
    clear H mb
    simp (disch := omega) only [s_219_0, s_219_1, s_219_4, s_219_7, s_219_8, s_219_11, s_219_14, e_219, mv_i_1, mv_l_1, mv_a_1, mv_a_2, mv_a_3, mk2_n, mk2_i, mk2_l, mk2_a, mk2_u, mk2_x, mB_T, mB_F, mS_cons, mS_nil, mSB_T, mSB_F, mca_nil, mca_i, mca_l, mca_r, mca_u, mca_x, mcat_i, mcat_l, mcat_r, mcat_u, mcat_x, mK_some, mK_none, va_rf_s, va_rf_n, lgc_eq, lgc_lt, lgc_gt, lgc_ge, lgc_le, mrd_104, mrd_105, mrd_106, mrd_107, true_and, and_true, and_self, false_and, and_false, true_or, or_true, false_or, or_false, not_true_eq_false, not_false_eq_true, mgb, mga, mgr, mN, reduceCtorEq, ↓reduceIte, eq_self, ge_iff_le, gt_iff_lt, hk_si, hk_sj, hk_sr, hl_si, hl_sj, hl_sr, hn_si, hn_sj, hn_sr, hs_si, hs_sj, hs_sr, hi_sj, hi_sr, hj_si, hj_sr, hr_si, hr_sj, hi_si, hj_sj, hr_sr, mg_si, mg_sj, mg_sr, Nat.reduceAdd, Nat.reduceMul, Nat.reduceSub, Nat.reduceLT, Nat.reduceGT, Nat.reduceEqDiff, Nat.reduceLeDiff, Nat.left_eq_add, Nat.add_eq_left, Nat.reduceMod, Nat.reduceDiv, Nat.succ_ne_self, g, e14, c']
  · rw [if_neg c]
    have l6 : xL 6 = 2 := by decide +kernel
    obtain ⟨h', H', m', r⟩ := w_222 (d := d) g0 (j := 6) (by decide) H mb (by omega)
    rw [xW_all.2.2.2.2.2.2.1] at H'
    refine ⟨h', H', m', fun Q => ?_⟩
    have c' : (Int32.ofNat L.length ≤ 0) = False := by
      rw [show (0 : Int32) = Int32.ofNat 0 from rfl, nn_le (by omega) (by omega)]
      exact eq_false (by omega)
    have r' : ∀ Q, mcall (d + 4) 222 [.ref 0, .retAddr 21] h Q = Q none h' := r
    clear H H' mb m' r
    simp (disch := omega) only [s_219_0, s_219_1, s_219_4, s_219_7, s_219_8, s_219_11, s_219_14, e_219, mv_i_1, mv_l_1, mv_a_1, mv_a_2, mv_a_3, mk2_n, mk2_i, mk2_l, mk2_a, mk2_u, mk2_x, mB_T, mB_F, mS_cons, mS_nil, mSB_T, mSB_F, mca_nil, mca_i, mca_l, mca_r, mca_u, mca_x, mcat_i, mcat_l, mcat_r, mcat_u, mcat_x, mK_some, mK_none, va_rf_s, va_rf_n, lgc_eq, lgc_lt, lgc_gt, lgc_ge, lgc_le, mrd_104, mrd_105, mrd_106, mrd_107, true_and, and_true, and_self, false_and, and_false, true_or, or_true, false_or, or_false, not_true_eq_false, not_false_eq_true, mgb, mga, mgr, mN, reduceCtorEq, ↓reduceIte, eq_self, ge_iff_le, gt_iff_lt, hk_si, hk_sj, hk_sr, hl_si, hl_sj, hl_sr, hn_si, hn_sj, hn_sr, hs_si, hs_sj, hs_sr, hi_sj, hi_sr, hj_si, hj_sr, hr_si, hr_sj, hi_si, hj_sj, hr_sr, mg_si, mg_sj, mg_sr, Nat.reduceAdd, Nat.reduceMul, Nat.reduceSub, Nat.reduceLT, Nat.reduceGT, Nat.reduceEqDiff, Nat.reduceLeDiff, Nat.left_eq_add, Nat.add_eq_left, Nat.reduceMod, Nat.reduceDiv, Nat.succ_ne_self, g, e14, c', r']
/-- writeNumber: the unit -/
theorem l_223a {v w : Int64} {s : Nat} (e : w.toInt = s) (hs : s < 1000000000000) : ∀ (f u : Nat) (x : Int64) k, x.toInt = u → 0 < u → s < u * 10 ^ f → k + f ≤ 11 → ∃ (x' : Int64) (y : Int32), x'.toInt = uni f s u ∧ ∀ (h : mh_H) Q, mw d 223 Q 31 [some (.ref 0), some (.long v), none, some (.long w), none, some (.long x), none, some (.int (Int32.ofNat k)), none] [] h = mw d 223 Q 63 [some (.ref 0), some (.long v), none, some (.long w), none, some (.long x'), none, some (.int y), none] [] h := by
  have e1' : ∀ k, Int32.ofNat k + 1 = Int32.ofNat (k + 1) := fun k => nn_add (a := k) (b := 1)
  intro f
  induction f with
  | zero =>
    intro u x k ex h0 h1 hk
    have x0 : (x = 0) = False := eq_false (fun z => by rw [z] at ex; have : (0 : Int64).toInt = 0 := rfl; omega)
    have dz : s / u = 0 := Nat.div_eq_of_lt (by rw [Nat.pow_zero, Nat.mul_one] at h1; exact h1)
    have q := ld_n e ex hs
    have lt : (w / x < 10) = True := eq_true (by rw [Int64.lt_iff_toInt_lt, q, show (10 : Int64).toInt = 10 from rfl]; omega)
    have k12 : ((12 : Int32) ≤ Int32.ofNat k) = False := by rw [show (12 : Int32) = Int32.ofNat 12 from rfl, nn_le (by omega) (by omega)]; exact eq_false (by omega)
    refine ⟨x, Int32.ofNat k, ex, fun h Q => ?_⟩
    simp (disch := omega) only [s_223_0, s_223_1, s_223_2, s_223_3, s_223_6, s_223_7, s_223_9, s_223_12, s_223_13, s_223_14, s_223_15, s_223_18, s_223_19, s_223_20, s_223_23, s_223_24, s_223_25, s_223_26, s_223_28, s_223_29, s_223_31, s_223_33, s_223_35, s_223_38, s_223_39, s_223_41, s_223_42, s_223_45, s_223_46, s_223_49, s_223_51, s_223_54, s_223_55, s_223_57, s_223_60, s_223_65, s_223_67, s_223_69, s_223_70, s_223_71, s_223_74, s_223_75, s_223_78, s_223_79, s_223_81, s_223_82, s_223_85, s_223_86, s_223_87, s_223_88, s_223_91, s_223_93, s_223_96, s_223_97, s_223_99, s_223_102, e_223, mv_i_1, mv_l_1, mv_a_1, mv_a_2, mv_a_3, mk2_n, mk2_i, mk2_l, mk2_a, mk2_u, mk2_x, mB_T, mB_F, mS_cons, mS_nil, mSB_T, mSB_F, mca_nil, mca_i, mca_l, mca_r, mca_u, mca_x, mcat_i, mcat_l, mcat_r, mcat_u, mcat_x, mK_some, mK_none, va_rf_s, va_rf_n, lgc_eq, lgc_lt, lgc_gt, lgc_ge, lgc_le, mrd_104, mrd_105, mrd_106, mrd_107, true_and, and_true, and_self, false_and, and_false, true_or, or_true, false_or, or_false, not_true_eq_false, not_false_eq_true, mgb, mga, mgr, mN, reduceCtorEq, ↓reduceIte, eq_self, ge_iff_le, gt_iff_lt, Nat.reduceAdd, Nat.reduceMul, Nat.reduceSub, Nat.reduceLT, Nat.reduceGT, Nat.reduceEqDiff, Nat.reduceLeDiff, Nat.left_eq_add, Nat.add_eq_left, Nat.reduceMod, Nat.reduceDiv, Nat.succ_ne_self, k12, x0, lt]
  | succ f ih =>
    intro u x k ex h0 h1 hk
    have x0 : (x = 0) = False := eq_false (fun z => by rw [z] at ex; have : (0 : Int64).toInt = 0 := rfl; omega)
    have q := ld_n e ex hs
    have k12 : ((12 : Int32) ≤ Int32.ofNat k) = False := by rw [show (12 : Int32) = Int32.ofNat 12 from rfl, nn_le (by omega) (by omega)]; exact eq_false (by omega)
    by_cases c : 10 ≤ s / u
    · have eu : uni (f + 1) s u = uni f s (10 * u) := if_pos c
      have lt : (w / x < 10) = False := eq_false (by rw [Int64.lt_iff_toInt_lt, q, show (10 : Int64).toInt = 10 from rfl]; omega)
      have hs' := Nat.mul_le_of_le_div u 10 s c
      have e5 : u * 10 ^ (f + 1) = 10 * u * 10 ^ f := by rw [Nat.pow_succ, Nat.mul_comm (10 ^ f) 10, ← Nat.mul_assoc, Nat.mul_comm u 10]
      obtain ⟨x', y, a1, a2⟩ := ih (10 * u) (x * 10) (k + 1) (lm_n ex (by omega)).2 (by omega) (by omega) (by omega)
      refine ⟨x', y, by rw [eu]; exact a1, fun h Q => ?_⟩
      rw [← a2 h Q, s_223_31]
      simp (disch := omega) only [s_223_0, s_223_1, s_223_2, s_223_3, s_223_6, s_223_7, s_223_9, s_223_12, s_223_13, s_223_14, s_223_15, s_223_18, s_223_19, s_223_20, s_223_23, s_223_24, s_223_25, s_223_26, s_223_28, s_223_29, s_223_33, s_223_35, s_223_38, s_223_39, s_223_41, s_223_42, s_223_45, s_223_46, s_223_49, s_223_51, s_223_54, s_223_55, s_223_57, s_223_60, s_223_65, s_223_67, s_223_69, s_223_70, s_223_71, s_223_74, s_223_75, s_223_78, s_223_79, s_223_81, s_223_82, s_223_85, s_223_86, s_223_87, s_223_88, s_223_91, s_223_93, s_223_96, s_223_97, s_223_99, s_223_102, e_223, mv_i_1, mv_l_1, mv_a_1, mv_a_2, mv_a_3, mk2_n, mk2_i, mk2_l, mk2_a, mk2_u, mk2_x, mB_T, mB_F, mS_cons, mS_nil, mSB_T, mSB_F, mca_nil, mca_i, mca_l, mca_r, mca_u, mca_x, mcat_i, mcat_l, mcat_r, mcat_u, mcat_x, mK_some, mK_none, va_rf_s, va_rf_n, lgc_eq, lgc_lt, lgc_gt, lgc_ge, lgc_le, mrd_104, mrd_105, mrd_106, mrd_107, true_and, and_true, and_self, false_and, and_false, true_or, or_true, false_or, or_false, not_true_eq_false, not_false_eq_true, mgb, mga, mgr, mN, reduceCtorEq, ↓reduceIte, eq_self, ge_iff_le, gt_iff_lt, Nat.reduceAdd, Nat.reduceMul, Nat.reduceSub, Nat.reduceLT, Nat.reduceGT, Nat.reduceEqDiff, Nat.reduceLeDiff, Nat.left_eq_add, Nat.add_eq_left, Nat.reduceMod, Nat.reduceDiv, Nat.succ_ne_self, k12, x0, lt, e1']
    · have eu : uni (f + 1) s u = u := if_neg c
      have lt : (w / x < 10) = True := eq_true (by rw [Int64.lt_iff_toInt_lt, q, show (10 : Int64).toInt = 10 from rfl]; omega)
      refine ⟨x, Int32.ofNat k, by rw [eu]; exact ex, fun h Q => ?_⟩
      simp (disch := omega) only [s_223_0, s_223_1, s_223_2, s_223_3, s_223_6, s_223_7, s_223_9, s_223_12, s_223_13, s_223_14, s_223_15, s_223_18, s_223_19, s_223_20, s_223_23, s_223_24, s_223_25, s_223_26, s_223_28, s_223_29, s_223_31, s_223_33, s_223_35, s_223_38, s_223_39, s_223_41, s_223_42, s_223_45, s_223_46, s_223_49, s_223_51, s_223_54, s_223_55, s_223_57, s_223_60, s_223_65, s_223_67, s_223_69, s_223_70, s_223_71, s_223_74, s_223_75, s_223_78, s_223_79, s_223_81, s_223_82, s_223_85, s_223_86, s_223_87, s_223_88, s_223_91, s_223_93, s_223_96, s_223_97, s_223_99, s_223_102, e_223, mv_i_1, mv_l_1, mv_a_1, mv_a_2, mv_a_3, mk2_n, mk2_i, mk2_l, mk2_a, mk2_u, mk2_x, mB_T, mB_F, mS_cons, mS_nil, mSB_T, mSB_F, mca_nil, mca_i, mca_l, mca_r, mca_u, mca_x, mcat_i, mcat_l, mcat_r, mcat_u, mcat_x, mK_some, mK_none, va_rf_s, va_rf_n, lgc_eq, lgc_lt, lgc_gt, lgc_ge, lgc_le, mrd_104, mrd_105, mrd_106, mrd_107, true_and, and_true, and_self, false_and, and_false, true_or, or_true, false_or, or_false, not_true_eq_false, not_false_eq_true, mgb, mga, mgr, mN, reduceCtorEq, ↓reduceIte, eq_self, ge_iff_le, gt_iff_lt, Nat.reduceAdd, Nat.reduceMul, Nat.reduceSub, Nat.reduceLT, Nat.reduceGT, Nat.reduceEqDiff, Nat.reduceLeDiff, Nat.left_eq_add, Nat.add_eq_left, Nat.reduceMod, Nat.reduceDiv, Nat.succ_ne_self, k12, x0, lt]
/-- writeNumber: the digits -/
theorem l_223b (g0 : mg h0 0 11) {v w z : Int64} {s : Nat} (e : w.toInt = s) (hs : s < 1000000000000) : ∀ (f u : Nat) (x : Int64) (L : List Int32) (h : mh_H), x.toInt = u → u < 10 ^ f → u < 1000000000000 → LNc h0 h s0 L → mbf h → L.length + f ≤ 24000 → ∃ h', LNc h0 h' s0 (L ++ dgs (f + 1) s u) ∧ mbf h' ∧ ∀ Q, mw (d + 2) 223 Q 67 [some (.ref 0), some (.long v), none, some (.long w), none, some (.long z), none, some (.long x), none] [] h = Q none h' := by
  have stop : ∀ (f u : Nat) (x : Int64) (L : List Int32) (h : mh_H), x.toInt = u → u = 0 → LNc h0 h s0 L → mbf h → ∃ h', LNc h0 h' s0 (L ++ dgs (f + 1) s u) ∧ mbf h' ∧ ∀ Q, mw (d + 2) 223 Q 67 [some (.ref 0), some (.long v), none, some (.long w), none, some (.long z), none, some (.long x), none] [] h = Q none h' := by
    intro f u x L h ex u0 H mb
    have ed : dgs (f + 1) s u = [] := if_pos u0
    have le : (x ≤ 0) = True := eq_true (by rw [Int64.le_iff_toInt_le, ex, u0]; decide)
    refine ⟨h, by rw [ed, List.append_nil]; exact H, mb, fun Q => ?_⟩
    clear H mb
    simp (disch := omega) only [s_223_0, s_223_1, s_223_2, s_223_3, s_223_6, s_223_7, s_223_9, s_223_12, s_223_13, s_223_14, s_223_15, s_223_18, s_223_19, s_223_20, s_223_23, s_223_24, s_223_25, s_223_26, s_223_28, s_223_29, s_223_31, s_223_33, s_223_35, s_223_38, s_223_39, s_223_41, s_223_42, s_223_45, s_223_46, s_223_49, s_223_51, s_223_54, s_223_55, s_223_57, s_223_60, s_223_63, s_223_65, s_223_67, s_223_69, s_223_70, s_223_71, s_223_74, s_223_75, s_223_78, s_223_79, s_223_81, s_223_82, s_223_85, s_223_86, s_223_87, s_223_88, s_223_91, s_223_93, s_223_96, s_223_97, s_223_99, s_223_102, e_223, mv_i_1, mv_l_1, mv_a_1, mv_a_2, mv_a_3, mk2_n, mk2_i, mk2_l, mk2_a, mk2_u, mk2_x, mB_T, mB_F, mS_cons, mS_nil, mSB_T, mSB_F, mca_nil, mca_i, mca_l, mca_r, mca_u, mca_x, mcat_i, mcat_l, mcat_r, mcat_u, mcat_x, mK_some, mK_none, va_rf_s, va_rf_n, lgc_eq, lgc_lt, lgc_gt, lgc_ge, lgc_le, mrd_104, mrd_105, mrd_106, mrd_107, true_and, and_true, and_self, false_and, and_false, true_or, or_true, false_or, or_false, not_true_eq_false, not_false_eq_true, mgb, mga, mgr, mN, reduceCtorEq, ↓reduceIte, eq_self, ge_iff_le, gt_iff_lt, Nat.reduceAdd, Nat.reduceMul, Nat.reduceSub, Nat.reduceLT, Nat.reduceGT, Nat.reduceEqDiff, Nat.reduceLeDiff, Nat.left_eq_add, Nat.add_eq_left, Nat.reduceMod, Nat.reduceDiv, Nat.succ_ne_self, le]
  intro f
  induction f with
  | zero => exact fun u x L h ex h1 _ H mb _ => stop 0 u x L h ex (by rw [Nat.pow_zero] at h1; omega) H mb
  | succ f ih =>
    intro u x L h ex h1 h2 H mb hL
    by_cases u0 : u = 0
    · exact stop (f + 1) u x L h ex u0 H mb
    · have ed : dgs (f + 1 + 1) s u = Int32.ofNat (48 + s / u % 10) :: dgs (f + 1) s (u / 10) := if_neg u0
      have le : (x ≤ 0) = False := eq_false (by rw [Int64.le_iff_toInt_le, ex]; show ¬ (u : Int) ≤ 0; omega)
      have x0 : (x = 0) = False := eq_false (fun z => by rw [z] at ex; have : (0 : Int64).toInt = 0 := rfl; omega)
      have t0 : ((10 : Int64) = 0) = False := by decide
      have dg := dg_n e ex hs
      have g := fz_mg H.f g0
      obtain ⟨h1', H1, m1, r1⟩ := w_224 (d := d) (v := Int32.ofNat (48 + s / u % 10)) g0 H mb (by omega) (dg_255 (Nat.mod_lt _ (by decide)))
      obtain ⟨h2', H2, m2, r2⟩ := ih (u / 10) (x / 10) (L ++ [Int32.ofNat (48 + s / u % 10)]) h1' (ld_n (x := 10) (u := 10) ex rfl h2) (by rw [Nat.pow_succ] at h1; omega) (by omega) H1 m1 (by rw [List.length_append]; show L.length + 1 + f ≤ 24000; omega)
      refine ⟨h2', by rw [ed]; rw [List.append_assoc] at H2; exact H2, m2, fun Q => ?_⟩
      rw [← r2 Q, s_223_67]
      clear ih stop H H1 H2 mb m1 m2
      simp (disch := omega) only [s_223_0, s_223_1, s_223_2, s_223_3, s_223_6, s_223_7, s_223_9, s_223_12, s_223_13, s_223_14, s_223_15, s_223_18, s_223_19, s_223_20, s_223_23, s_223_24, s_223_25, s_223_26, s_223_28, s_223_29, s_223_31, s_223_33, s_223_35, s_223_38, s_223_39, s_223_41, s_223_42, s_223_45, s_223_46, s_223_49, s_223_51, s_223_54, s_223_55, s_223_57, s_223_60, s_223_63, s_223_65, s_223_69, s_223_70, s_223_71, s_223_74, s_223_75, s_223_78, s_223_79, s_223_81, s_223_82, s_223_85, s_223_86, s_223_87, s_223_88, s_223_91, s_223_93, s_223_96, s_223_97, s_223_99, s_223_102, e_223, mv_i_1, mv_l_1, mv_a_1, mv_a_2, mv_a_3, mk2_n, mk2_i, mk2_l, mk2_a, mk2_u, mk2_x, mB_T, mB_F, mS_cons, mS_nil, mSB_T, mSB_F, mca_nil, mca_i, mca_l, mca_r, mca_u, mca_x, mcat_i, mcat_l, mcat_r, mcat_u, mcat_x, mK_some, mK_none, va_rf_s, va_rf_n, lgc_eq, lgc_lt, lgc_gt, lgc_ge, lgc_le, mrd_104, mrd_105, mrd_106, mrd_107, true_and, and_true, and_self, false_and, and_false, true_or, or_true, false_or, or_false, not_true_eq_false, not_false_eq_true, mgb, mga, mgr, mN, reduceCtorEq, ↓reduceIte, eq_self, ge_iff_le, gt_iff_lt, Nat.reduceAdd, Nat.reduceMul, Nat.reduceSub, Nat.reduceLT, Nat.reduceGT, Nat.reduceEqDiff, Nat.reduceLeDiff, Nat.left_eq_add, Nat.add_eq_left, Nat.reduceMod, Nat.reduceDiv, Nat.succ_ne_self, le, x0, t0, dg, g, r1]
/-- writeNumber -/
theorem w_223 (g0 : mg h0 0 11) {v : Int64} (hv : -4294967296 ≤ v.toInt ∧ v.toInt ≤ 4294967296) (H : LNc h0 h s0 L) (mb : mbf h) (hL : L.length + 11 ≤ 24000) : ∃ h', LNc h0 h' s0 (L ++ nbT v.toInt) ∧ mbf h' ∧ ∀ Q, mcall (d + 2) 223 [.ref 0, .long v] h Q = Q none h' := by
  have z0 : (0 : Int64).toInt = 0 := rfl
  have n45 : (45 : Int32) &&& 255 = 45 := by decide
  have fin : ∀ (w : Int64) (h : mh_H) (L : List Int32), w.toInt = (v.toInt.natAbs : Nat) → LNc h0 h s0 L → mbf h → L.length + 10 ≤ 24000 → ∃ h', LNc h0 h' s0 (L ++ dgs 11 v.toInt.natAbs (uni 10 v.toInt.natAbs 1)) ∧ mbf h' ∧ ∀ Q, mw (d + 2) 223 Q 31 [some (.ref 0), some (.long v), none, some (.long w), none, some (.long 1), none, some (.int 1), none] [] h = Q none h' := by
    intro w h L ew H mb hL
    have hs : v.toInt.natAbs ≤ 4294967296 := by omega
    obtain ⟨x', y, a1, a2⟩ := l_223a (d := d + 2) (v := v) (w := w) (s := v.toInt.natAbs) ew (by omega) 10 1 1 1 rfl (by decide) (by omega) (by decide)
    have u10 := uni_10 hs
    obtain ⟨h', b1, b2, b3⟩ := l_223b (d := d) (v := v) (z := x') g0 ew (by omega) 10 (uni 10 v.toInt.natAbs 1) x' L h a1 u10 (by omega) H mb hL
    refine ⟨h', b1, b2, fun Q => ?_⟩
    have a2' := a2 h Q
    have a2'' : mw (d + 2) 223 Q 31 [some (.ref 0), some (.long v), none, some (.long w), none, some (.long 1), none, some (.int 1), none] [] h = mw (d + 2) 223 Q 63 [some (.ref 0), some (.long v), none, some (.long w), none, some (.long x'), none, some (.int y), none] [] h := a2'
    rw [a2'', ← b3 Q]
    clear H mb b1 b2
    simp (disch := omega) only [s_223_63, s_223_65, mv_i_1, mv_l_1, mv_a_1, mv_a_2, mv_a_3, mk2_n, mk2_i, mk2_l, mk2_a, mk2_u, mk2_x, mB_T, mB_F, mS_cons, mS_nil, mSB_T, mSB_F, mca_nil, mca_i, mca_l, mca_r, mca_u, mca_x, mcat_i, mcat_l, mcat_r, mcat_u, mcat_x, mK_some, mK_none, va_rf_s, va_rf_n, lgc_eq, lgc_lt, lgc_gt, lgc_ge, lgc_le, mrd_104, mrd_105, mrd_106, mrd_107, true_and, and_true, and_self, false_and, and_false, true_or, or_true, false_or, or_false, not_true_eq_false, not_false_eq_true, mgb, mga, mgr, mN, reduceCtorEq, ↓reduceIte, eq_self, ge_iff_le, gt_iff_lt, Nat.reduceAdd, Nat.reduceMul, Nat.reduceSub, Nat.reduceLT, Nat.reduceGT, Nat.reduceEqDiff, Nat.reduceLeDiff, Nat.left_eq_add, Nat.add_eq_left, Nat.reduceMod, Nat.reduceDiv, Nat.succ_ne_self]
  by_cases c : v.toInt < 0
  · have lt : (0 ≤ v) = False := eq_false (by rw [Int64.le_iff_toInt_le, z0]; omega)
    have en : (-v).toInt = (v.toInt.natAbs : Nat) := by
      rw [Int64.toInt_neg, Int.bmod_eq_of_le (by omega) (by omega)]
      omega
    have g := fz_mg H.f g0
    obtain ⟨h1, H1, m1, r1⟩ := w_224 (d := d) (v := 45) g0 H mb (by omega) n45
    obtain ⟨h2, H2, m2, r2⟩ := fin (-v) h1 (L ++ [45]) en H1 m1 (by rw [List.length_append]; show L.length + 1 + 10 ≤ 24000; omega)
    refine ⟨h2, by unfold nbT; rw [if_pos c]; rw [List.append_assoc] at H2; exact H2, m2, fun Q => ?_⟩
    rw [← r2 Q]
    clear fin H H1 H2 mb m1 m2
    simp (disch := omega) only [e_223, s_223_0, s_223_1, s_223_2, s_223_3, s_223_6, s_223_7, s_223_9, s_223_12, s_223_13, s_223_14, s_223_15, s_223_18, s_223_19, s_223_20, s_223_23, s_223_24, s_223_25, s_223_26, s_223_28, s_223_29, s_223_33, s_223_35, s_223_38, s_223_39, s_223_41, s_223_42, s_223_45, s_223_46, s_223_49, s_223_51, s_223_54, s_223_55, s_223_57, s_223_60, s_223_63, s_223_65, s_223_67, s_223_69, s_223_70, s_223_71, s_223_74, s_223_75, s_223_78, s_223_79, s_223_81, s_223_82, s_223_85, s_223_86, s_223_87, s_223_88, s_223_91, s_223_93, s_223_96, s_223_97, s_223_99, s_223_102, e_223, mv_i_1, mv_l_1, mv_a_1, mv_a_2, mv_a_3, mk2_n, mk2_i, mk2_l, mk2_a, mk2_u, mk2_x, mB_T, mB_F, mS_cons, mS_nil, mSB_T, mSB_F, mca_nil, mca_i, mca_l, mca_r, mca_u, mca_x, mcat_i, mcat_l, mcat_r, mcat_u, mcat_x, mK_some, mK_none, va_rf_s, va_rf_n, lgc_eq, lgc_lt, lgc_gt, lgc_ge, lgc_le, mrd_104, mrd_105, mrd_106, mrd_107, true_and, and_true, and_self, false_and, and_false, true_or, or_true, false_or, or_false, not_true_eq_false, not_false_eq_true, mgb, mga, mgr, mN, reduceCtorEq, ↓reduceIte, eq_self, ge_iff_le, gt_iff_lt, Nat.reduceAdd, Nat.reduceMul, Nat.reduceSub, Nat.reduceLT, Nat.reduceGT, Nat.reduceEqDiff, Nat.reduceLeDiff, Nat.left_eq_add, Nat.add_eq_left, Nat.reduceMod, Nat.reduceDiv, Nat.succ_ne_self, lt, g, r1]
  · have lt : (0 ≤ v) = True := eq_true (by rw [Int64.le_iff_toInt_le, z0]; omega)
    obtain ⟨h2, H2, m2, r2⟩ := fin v h L (by omega) H mb (by omega)
    refine ⟨h2, by unfold nbT; rw [if_neg c]; exact H2, m2, fun Q => ?_⟩
    rw [← r2 Q]
    clear fin H H2 mb m2
    simp (disch := omega) only [e_223, s_223_0, s_223_1, s_223_2, s_223_3, s_223_6, s_223_7, s_223_9, s_223_12, s_223_13, s_223_14, s_223_15, s_223_18, s_223_19, s_223_20, s_223_23, s_223_24, s_223_25, s_223_26, s_223_28, s_223_29, s_223_33, s_223_35, s_223_38, s_223_39, s_223_41, s_223_42, s_223_45, s_223_46, s_223_49, s_223_51, s_223_54, s_223_55, s_223_57, s_223_60, s_223_63, s_223_65, s_223_67, s_223_69, s_223_70, s_223_71, s_223_74, s_223_75, s_223_78, s_223_79, s_223_81, s_223_82, s_223_85, s_223_86, s_223_87, s_223_88, s_223_91, s_223_93, s_223_96, s_223_97, s_223_99, s_223_102, e_223, mv_i_1, mv_l_1, mv_a_1, mv_a_2, mv_a_3, mk2_n, mk2_i, mk2_l, mk2_a, mk2_u, mk2_x, mB_T, mB_F, mS_cons, mS_nil, mSB_T, mSB_F, mca_nil, mca_i, mca_l, mca_r, mca_u, mca_x, mcat_i, mcat_l, mcat_r, mcat_u, mcat_x, mK_some, mK_none, va_rf_s, va_rf_n, lgc_eq, lgc_lt, lgc_gt, lgc_ge, lgc_le, mrd_104, mrd_105, mrd_106, mrd_107, true_and, and_true, and_self, false_and, and_false, true_or, or_true, false_or, or_false, not_true_eq_false, not_false_eq_true, mgb, mga, mgr, mN, reduceCtorEq, ↓reduceIte, eq_self, ge_iff_le, gt_iff_lt, Nat.reduceAdd, Nat.reduceMul, Nat.reduceSub, Nat.reduceLT, Nat.reduceGT, Nat.reduceEqDiff, Nat.reduceLeDiff, Nat.left_eq_add, Nat.add_eq_left, Nat.reduceMod, Nat.reduceDiv, Nat.succ_ne_self, lt]
/-- writeEnds -/
theorem w_220 (g0 : mg h0 0 11) {v w : Int64} (hv : -4294967296 ≤ v.toInt ∧ v.toInt ≤ 4294967296) (hw : -4294967296 ≤ w.toInt ∧ w.toInt ≤ 4294967296) (H : LNc h0 h s0 L) (mb : mbf h) (hL : L.length + 28 ≤ 24000) : ∃ h', LNc h0 h' s0 (L ++ [32, 105, 110, 32] ++ nbT v.toInt ++ [46, 46] ++ nbT w.toInt) ∧ mbf h' ∧ ∀ Q, mcall (d + 5) 220 [.ref 0, .long v, .long w] h Q = Q none h' := by
  have l7 : xL 7 = 4 := by decide +kernel
  have l8 : xL 8 = 2 := by decide +kernel
  have n1 := nbT_len hv.1 hv.2
  have g := fz_mg H.f g0
  obtain ⟨h1, H1, m1, r1⟩ := w_222 (d := d) g0 (j := 7) (by decide) H mb (by omega)
  rw [xW_all.2.2.2.2.2.2.2.1] at H1
  obtain ⟨h2, H2, m2, r2⟩ := w_223 (d := d + 2) g0 hv H1 m1 (by simp only [List.length_append, List.length_cons, List.length_nil]; omega)
  obtain ⟨h3, H3, m3, r3⟩ := w_222 (d := d) g0 (j := 8) (by decide) H2 m2 (by simp only [List.length_append, List.length_cons, List.length_nil]; omega)
  rw [xW_all.2.2.2.2.2.2.2.2] at H3
  obtain ⟨h4, H4, m4, r4⟩ := w_223 (d := d + 2) g0 hw H3 m3 (by simp only [List.length_append, List.length_cons, List.length_nil]; omega)
  refine ⟨h4, H4, m4, fun Q => ?_⟩
  have r1' : ∀ Q, mcall (d + 4) 222 [.ref 0, .retAddr 24] h Q = Q none h1 := r1
  have r3' : ∀ Q, mcall (d + 4) 222 [.ref 0, .retAddr 27] h2 Q = Q none h3 := r3
  have ga := fz_mg H1.f g0
  have gb := fz_mg H2.f g0
  have gc := fz_mg H3.f g0
  clear H H1 H2 H3 H4 mb m1 m2 m3 m4 r1 r3
  simp (disch := omega) only [s_220_0, s_220_1, s_220_4, s_220_7, s_220_8, s_220_9, s_220_12, s_220_13, s_220_16, s_220_19, s_220_20, s_220_21, s_220_24, e_220, mv_i_1, mv_l_1, mv_a_1, mv_a_2, mv_a_3, mk2_n, mk2_i, mk2_l, mk2_a, mk2_u, mk2_x, mB_T, mB_F, mS_cons, mS_nil, mSB_T, mSB_F, mca_nil, mca_i, mca_l, mca_r, mca_u, mca_x, mcat_i, mcat_l, mcat_r, mcat_u, mcat_x, mK_some, mK_none, va_rf_s, va_rf_n, lgc_eq, lgc_lt, lgc_gt, lgc_ge, lgc_le, mrd_104, mrd_105, mrd_106, mrd_107, true_and, and_true, and_self, false_and, and_false, true_or, or_true, false_or, or_false, not_true_eq_false, not_false_eq_true, mgb, mga, mgr, mN, reduceCtorEq, ↓reduceIte, eq_self, ge_iff_le, gt_iff_lt, hk_si, hk_sj, hk_sr, hl_si, hl_sj, hl_sr, hn_si, hn_sj, hn_sr, hs_si, hs_sj, hs_sr, hi_sj, hi_sr, hj_si, hj_sr, hr_si, hr_sj, hi_si, hj_sj, hr_sr, mg_si, mg_sj, mg_sr, Nat.reduceAdd, Nat.reduceMul, Nat.reduceSub, Nat.reduceLT, Nat.reduceGT, Nat.reduceEqDiff, Nat.reduceLeDiff, Nat.left_eq_add, Nat.add_eq_left, Nat.reduceMod, Nat.reduceDiv, Nat.succ_ne_self, g, ga, gb, gc, r1', r2, r3', r4]
end LCs
