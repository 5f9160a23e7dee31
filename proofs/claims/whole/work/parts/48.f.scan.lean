set_option maxRecDepth 100000
/-! the class's scan: the rows of tokens -/
abbrev TW (h : mh_H) (To X K P U n : Nat) (B : Nat → Int32) : Prop := (TB h To X n B) ∧ (mh_r h To 1 = some K) ∧ (mh_r h To 2 = some P) ∧ (mh_r h To 3 = some U) ∧ (mg h K 100) ∧ (mg h P 100) ∧ (mg h U 100) ∧ (mh_l h K = n + 1) ∧ (mh_l h P = n + 1) ∧ (mh_l h U = n + 1) ∧ (K ≠ P ∧ K ≠ U ∧ P ≠ U)
theorem TW.T {h : mh_H} {To X K P U n : Nat} {B : Nat → Int32} (q : TW h To X K P U n B) : TB h To X n B := q.1
theorem TW.r1 {h : mh_H} {To X K P U n : Nat} {B : Nat → Int32} (q : TW h To X K P U n B) : mh_r h To 1 = some K := q.2.1
theorem TW.r2 {h : mh_H} {To X K P U n : Nat} {B : Nat → Int32} (q : TW h To X K P U n B) : mh_r h To 2 = some P := q.2.2.1
theorem TW.r3 {h : mh_H} {To X K P U n : Nat} {B : Nat → Int32} (q : TW h To X K P U n B) : mh_r h To 3 = some U := q.2.2.2.1
theorem TW.g1 {h : mh_H} {To X K P U n : Nat} {B : Nat → Int32} (q : TW h To X K P U n B) : mg h K 100 := q.2.2.2.2.1
theorem TW.g2 {h : mh_H} {To X K P U n : Nat} {B : Nat → Int32} (q : TW h To X K P U n B) : mg h P 100 := q.2.2.2.2.2.1
theorem TW.g3 {h : mh_H} {To X K P U n : Nat} {B : Nat → Int32} (q : TW h To X K P U n B) : mg h U 100 := q.2.2.2.2.2.2.1
theorem TW.l1 {h : mh_H} {To X K P U n : Nat} {B : Nat → Int32} (q : TW h To X K P U n B) : mh_l h K = n + 1 := q.2.2.2.2.2.2.2.1
theorem TW.l2 {h : mh_H} {To X K P U n : Nat} {B : Nat → Int32} (q : TW h To X K P U n B) : mh_l h P = n + 1 := q.2.2.2.2.2.2.2.2.1
theorem TW.l3 {h : mh_H} {To X K P U n : Nat} {B : Nat → Int32} (q : TW h To X K P U n B) : mh_l h U = n + 1 := q.2.2.2.2.2.2.2.2.2.1
theorem TW.d1 {h : mh_H} {To X K P U n : Nat} {B : Nat → Int32} (q : TW h To X K P U n B) : K ≠ P ∧ K ≠ U ∧ P ≠ U := q.2.2.2.2.2.2.2.2.2.2
def tsW (To K P U : Nat) (b j : Nat) : Prop := (b = To ∧ j = 4) ∨ b = K ∨ b = P ∨ b = U
/-- tokens stand from m on -/
def tkR (KK PP UU : Nat → Int32) : Nat → tks → Prop
  | _, [] => True
  | m, (k, p, w) :: r => (KK m = k ∧ PP m = Int32.ofNat p ∧ UU m = Int32.ofNat w) ∧ tkR KK PP UU (m + 1) r
theorem tkR_c {KK PP UU KK' PP' UU' : Nat → Int32} : ∀ (r : tks) m, (∀ i, m ≤ i → i < m + r.length → KK' i = KK i ∧ PP' i = PP i ∧ UU' i = UU i) → tkR KK PP UU m r → tkR KK' PP' UU' m r := by
  intro r
  induction r with
  | nil => exact fun _ _ _ => trivial
  | cons a r ih =>
    intro m e w
    obtain ⟨⟨w1, w2, w3⟩, w4⟩ := w
    obtain ⟨e1, e2, e3⟩ := e m (Nat.le_refl _) (by rw [List.length_cons]; omega)
    exact ⟨⟨e1.trans w1, e2.trans w2, e3.trans w3⟩, ih (m + 1) (fun i i1 i2 => e i (by omega) (by rw [List.length_cons]; omega)) w4⟩
theorem tkR_a {KK PP UU : Nat → Int32} : ∀ (a r : tks) m, tkR KK PP UU m a → tkR KK PP UU (m + a.length) r → tkR KK PP UU m (a ++ r) := by
  intro a
  induction a with
  | nil => exact fun r m _ w => w
  | cons x a ih =>
    intro r m w1 w2
    exact ⟨w1.1, ih r (m + 1) w1.2 (by rw [List.length_cons, Nat.add_comm a.length 1, ← Nat.add_assoc] at w2; exact w2)⟩
section TGs
variable {d : Nat} {h h1 : mh_H} {To X K P U n : Nat} {B : Nat → Int32}
theorem TB_G {W : Nat → Nat → Prop} (x : fG W h h1) (T : TB h To X n B) (w : ∀ j, ¬ W X j) : TB h1 To X n B :=
  ⟨fG_mg x T.g, by rw [fG_r x]; exact T.r, by rw [x.1]; exact T.k, by rw [x.2.2.2.1]; exact T.x, by rw [fG_l x]; exact T.l, T.n, fun i hi => by rw [fG_i x (w i)]; exact T.b i hi, T.v⟩
theorem TW_G (x : fG (tsW To K P U) h h1) (T : TW h To X K P U n B) : TW h1 To X K P U n B := by
  have a1 := T.g1.1
  have a2 := T.g2.1
  have a3 := T.g3.1
  have a4 := T.T.g.1
  have a5 := T.T.k
  refine ⟨TB_G x T.T (fun j z => ?_), by rw [fG_r x]; exact T.r1, by rw [fG_r x]; exact T.r2, by rw [fG_r x]; exact T.r3, fG_mg x T.g1, fG_mg x T.g2, fG_mg x T.g3, by rw [fG_l x]; exact T.l1, by rw [fG_l x]; exact T.l2, by rw [fG_l x]; exact T.l3, T.d1⟩
  rcases z with ⟨z, -⟩ | z | z | z <;> (subst z; omega)
theorem c_169 (T : TW h To X K P U n B) {m p w : Nat} {k : Int32} (e : mh_i h To 4 = Int32.ofNat m) (hm : m ≤ n) : ∃ h', fG (tsW To K P U) h h' ∧ mh_i h' To 4 = Int32.ofNat (m + 1) ∧ (∀ i, i ≠ m → mh_i h' K i = mh_i h K i ∧ mh_i h' P i = mh_i h P i ∧ mh_i h' U i = mh_i h U i) ∧ (mh_i h' K m = k ∧ mh_i h' P m = Int32.ofNat p ∧ mh_i h' U m = Int32.ofNat w) ∧ ∀ Q, mcall d 169 [.ref To, .int k, .int (Int32.ofNat p), .int (Int32.ofNat w)] h Q = Q none h' := by
  have g := T.T.g
  have r1 := T.r1
  have r2 := T.r2
  have r3 := T.r3
  have g1 := T.g1
  have g2 := T.g2
  have g3 := T.g3
  have l1 := T.l1
  have l2 := T.l2
  have l3 := T.l3
  have hn := T.T.n
  obtain ⟨q1, q2, q3⟩ := T.d1
  have t1 : To ≠ K := fun z => by have := g.1; rw [z, g1.1] at this; omega
  have t2 : To ≠ P := fun z => by have := g.1; rw [z, g2.1] at this; omega
  have t3 : To ≠ U := fun z => by have := g.1; rw [z, g3.1] at this; omega
  have e1' : ∀ k, Int32.ofNat k + 1 = Int32.ofNat (k + 1) := fun k => nn_add (a := k) (b := 1)
  refine ⟨mh_si (mh_si (mh_si (mh_si h K m k) P m (Int32.ofNat p)) U m (Int32.ofNat w)) To 4 (Int32.ofNat (m + 1)), ?_, ?_, fun i hi => ?_, ?_, fun Q => ?_⟩
  · exact fG_t (fG_t (fG_t (fG_si (Or.inr (Or.inl rfl))) (fG_si (Or.inr (Or.inr (Or.inl rfl))))) (fG_si (Or.inr (Or.inr (Or.inr rfl))))) (fG_si (Or.inl ⟨rfl, rfl⟩))
  · simp only [hi_si, and_self, if_true]
  · simp only [hi_si, hi, and_false, if_false, t1.symm, t2.symm, t3.symm, false_and, and_self]
  · simp only [hi_si, q1, q2, q3, q1.symm, q2.symm, q3.symm, t1.symm, t2.symm, t3.symm, false_and, and_self, and_true, if_true, if_false]
  · clear T
    simp (disch := omega) only [s_169_0, s_169_1, s_169_4, s_169_5, s_169_8, s_169_9, s_169_10, s_169_11, s_169_14, s_169_15, s_169_18, s_169_19, s_169_20, s_169_21, s_169_24, s_169_25, s_169_28, s_169_29, s_169_30, s_169_31, s_169_32, s_169_35, s_169_36, s_169_37, s_169_40, e_169, mv_i_1, mv_l_1, mv_a_1, mv_a_2, mv_a_3, mk2_n, mk2_i, mk2_l, mk2_a, mk2_u, mk2_x, mB_T, mB_F, mS_cons, mS_nil, mSB_T, mSB_F, mca_nil, mca_i, mca_l, mca_r, mca_u, mca_x, mcat_i, mcat_l, mcat_r, mcat_u, mcat_x, mK_some, mK_none, va_rf_s, va_rf_n, lgc_eq, lgc_lt, lgc_gt, lgc_ge, lgc_le, mrd_104, mrd_105, mrd_106, mrd_107, true_and, and_true, and_self, false_and, and_false, true_or, or_true, false_or, or_false, not_true_eq_false, not_false_eq_true, mgb, mga, mgr, mN, reduceCtorEq, ↓reduceIte, eq_self, ge_iff_le, gt_iff_lt, hk_si, hk_sj, hk_sr, hl_si, hl_sj, hl_sr, hn_si, hn_sj, hn_sr, hs_si, hs_sj, hs_sr, hi_sj, hi_sr, hj_si, hj_sr, hr_si, hr_sj, hi_si, hj_sj, hr_sr, mg_si, mg_sj, mg_sr, Nat.reduceAdd, Nat.reduceMul, Nat.reduceSub, Nat.reduceLT, Nat.reduceGT, Nat.reduceEqDiff, Nat.reduceLeDiff, Nat.left_eq_add, Nat.add_eq_left, Nat.reduceMod, Nat.reduceDiv, Nat.succ_ne_self, g, r1, r2, r3, g1, g2, g3, l1, l2, l3, e, nn_mxT, nn_clamp, t1, t2, t3, t1.symm, t2.symm, t3.symm, if_false, e1']
theorem l_168 : ∀ f r i m (h : mh_H) (x3 x4 : Option Value), TW h To X K P U n B → r + f = n → i ≤ n → mh_i h To 4 = Int32.ofNat m → m ≤ r → ∃ h', fG (tsW To K P U) h h' ∧ mh_i h' To 4 = Int32.ofNat (m + (scn B n f i).length) ∧ (scn B n f i).length ≤ f + 1 ∧ (∀ j, j < m → mh_i h' K j = mh_i h K j ∧ mh_i h' P j = mh_i h P j ∧ mh_i h' U j = mh_i h U j) ∧ tkR (mh_i h' K) (mh_i h' P) (mh_i h' U) m (scn B n f i) ∧ ∀ Q, mw (d + 7) 168 Q 8 [some (.ref To), some (.int (Int32.ofNat i)), some (.int (Int32.ofNat r)), x3, x4] [] h = Q none h' := by
  intro f
  have e1' : ∀ k, Int32.ofNat k + 1 = Int32.ofNat (k + 1) := fun k => nn_add (a := k) (b := 1)
  have z0 : (Int32.ofNat 0 : Int32) = 0 := rfl
  have fin : ∀ r i m (h : mh_H) (x3 x4 : Option Value), TW h To X K P U n B → r ≤ n → i ≤ n → (n ≤ r ∨ n ≤ i) → mh_i h To 4 = Int32.ofNat m → m ≤ r → ∃ h', fG (tsW To K P U) h h' ∧ mh_i h' To 4 = Int32.ofNat (m + 1) ∧ (∀ j, j < m → mh_i h' K j = mh_i h K j ∧ mh_i h' P j = mh_i h P j ∧ mh_i h' U j = mh_i h U j) ∧ tkR (mh_i h' K) (mh_i h' P) (mh_i h' U) m [(0, n, 0)] ∧ ∀ Q, mw (d + 7) 168 Q 8 [some (.ref To), some (.int (Int32.ofNat i)), some (.int (Int32.ofNat r)), x3, x4] [] h = Q none h' := by
    intro r i m h x3 x4 T hr hi hc e hm
    obtain ⟨h', f1, f2, f3, f4, f5⟩ := c_169 (d := d + 6) T (p := n) (w := 0) (k := 0) e (by omega)
    refine ⟨h', f1, f2, fun j hj => f3 j (by omega), ⟨f4, trivial⟩, fun Q => ?_⟩
    have g := T.T.g
    have rr := T.T.r
    have k := T.T.k
    have x := T.T.x
    have l := T.T.l
    have hn := T.T.n
    rw [z0] at f5
    clear T f1 f2 f3 f4
    by_cases c : n ≤ r
    · simp (disch := omega) only [s_168_0, s_168_1, s_168_2, s_168_5, s_168_6, s_168_7, s_168_8, s_168_9, s_168_10, s_168_13, s_168_14, s_168_17, s_168_18, s_168_19, s_168_22, s_168_23, s_168_26, s_168_27, s_168_28, s_168_31, s_168_32, s_168_33, s_168_36, s_168_37, s_168_40, s_168_41, s_168_42, s_168_43, s_168_46, s_168_48, s_168_49, s_168_51, s_168_52, s_168_53, s_168_56, s_168_58, s_168_59, s_168_62, s_168_63, s_168_64, s_168_65, s_168_66, s_168_67, s_168_70, s_168_71, s_168_74, s_168_77, s_168_78, s_168_79, s_168_80, s_168_83, s_168_84, s_168_85, s_168_88, e_168, mv_i_1, mv_l_1, mv_a_1, mv_a_2, mv_a_3, mk2_n, mk2_i, mk2_l, mk2_a, mk2_u, mk2_x, mB_T, mB_F, mS_cons, mS_nil, mSB_T, mSB_F, mca_nil, mca_i, mca_l, mca_r, mca_u, mca_x, mcat_i, mcat_l, mcat_r, mcat_u, mcat_x, mK_some, mK_none, va_rf_s, va_rf_n, lgc_eq, lgc_lt, lgc_gt, lgc_ge, lgc_le, mrd_104, mrd_105, mrd_106, mrd_107, true_and, and_true, and_self, false_and, and_false, true_or, or_true, false_or, or_false, not_true_eq_false, not_false_eq_true, mgb, mga, mgr, mN, reduceCtorEq, ↓reduceIte, eq_self, ge_iff_le, gt_iff_lt, Nat.reduceAdd, Nat.reduceMul, Nat.reduceSub, Nat.reduceLT, Nat.reduceGT, Nat.reduceEqDiff, Nat.reduceLeDiff, Nat.left_eq_add, Nat.add_eq_left, Nat.reduceMod, Nat.reduceDiv, Nat.succ_ne_self, g, rr, k, x, l, nn_le, c, f5]
    · have c2 : n ≤ i := by omega
      simp (disch := omega) only [s_168_0, s_168_1, s_168_2, s_168_5, s_168_6, s_168_7, s_168_8, s_168_9, s_168_10, s_168_13, s_168_14, s_168_17, s_168_18, s_168_19, s_168_22, s_168_23, s_168_26, s_168_27, s_168_28, s_168_31, s_168_32, s_168_33, s_168_36, s_168_37, s_168_40, s_168_41, s_168_42, s_168_43, s_168_46, s_168_48, s_168_49, s_168_51, s_168_52, s_168_53, s_168_56, s_168_58, s_168_59, s_168_62, s_168_63, s_168_64, s_168_65, s_168_66, s_168_67, s_168_70, s_168_71, s_168_74, s_168_77, s_168_78, s_168_79, s_168_80, s_168_83, s_168_84, s_168_85, s_168_88, e_168, mv_i_1, mv_l_1, mv_a_1, mv_a_2, mv_a_3, mk2_n, mk2_i, mk2_l, mk2_a, mk2_u, mk2_x, mB_T, mB_F, mS_cons, mS_nil, mSB_T, mSB_F, mca_nil, mca_i, mca_l, mca_r, mca_u, mca_x, mcat_i, mcat_l, mcat_r, mcat_u, mcat_x, mK_some, mK_none, va_rf_s, va_rf_n, lgc_eq, lgc_lt, lgc_gt, lgc_ge, lgc_le, mrd_104, mrd_105, mrd_106, mrd_107, true_and, and_true, and_self, false_and, and_false, true_or, or_true, false_or, or_false, not_true_eq_false, not_false_eq_true, mgb, mga, mgr, mN, reduceCtorEq, ↓reduceIte, eq_self, ge_iff_le, gt_iff_lt, Nat.reduceAdd, Nat.reduceMul, Nat.reduceSub, Nat.reduceLT, Nat.reduceGT, Nat.reduceEqDiff, Nat.reduceLeDiff, Nat.left_eq_add, Nat.add_eq_left, Nat.reduceMod, Nat.reduceDiv, Nat.succ_ne_self, g, rr, k, x, l, nn_le, c, c2, f5]
  induction f with
  | zero =>
    intro r i m h x3 x4 T hr hi e hm
    obtain ⟨h', f1, f2, f3, f4, f5⟩ := fin r i m h x3 x4 T (by omega) hi (by omega) e hm
    exact ⟨h', f1, f2, Nat.le_refl _, f3, f4, f5⟩
  | succ f ih =>
    intro r i m h x3 x4 T hr hi e hm
    by_cases c : i < n
    · have es : scn B n (f + 1) i = (if tkD B n i = 1 then [(1, i, tkW B n i)] else (tkD B n i, i, tkW B n i) :: scn B n f (bl B n (n - (i + tkW B n i)) false (i + tkW B n i))) := if_pos c
      rw [es]
      have hw := tkW_b (B := B) c
      have g := T.T.g
      have rr := T.T.r
      have k := T.T.k
      have x := T.T.x
      have l := T.T.l
      have hn := T.T.n
      have a1 := c_174 (d := d + 2) T.T c
      have a2 := c_178 (d := d) T.T (w := tkW B n i) c (by omega)
      have c1 : (n ≤ r) = False := eq_false (by omega)
      have c2 : (n ≤ i) = False := eq_false (by omega)
      obtain ⟨h', f1, f2, f3, f4, f5⟩ := c_169 (d := d + 6) T (p := i) (w := tkW B n i) (k := tkD B n i) e (by omega)
      have st : ∀ Q, mw (d + 7) 168 Q 8 [some (.ref To), some (.int (Int32.ofNat i)), some (.int (Int32.ofNat r)), x3, x4] [] h = mw (d + 7) 168 Q 56 [some (.ref To), some (.int (Int32.ofNat i)), some (.int (Int32.ofNat r)), some (.int (Int32.ofNat (tkW B n i))), some (.int (tkD B n i))] [] h' := by
        intro Q
        have eD : tkD B n i = if tkW B n i = 0 then 1 else tkA B n i (tkW B n i) := rfl
        have e0 : (Int32.ofNat (tkW B n i) = 0) = (tkW B n i = 0) := nn_eq (a := tkW B n i) (b := 0) (by omega) (by omega)
        clear T ih fin f1 f2 f3 f4
        by_cases q : tkW B n i = 0
        · rw [if_pos q] at eD
          rw [eD] at f5 ⊢
          have q' := eq_true q
          simp (disch := omega) only [s_168_0, s_168_1, s_168_2, s_168_5, s_168_6, s_168_7, s_168_8, s_168_9, s_168_10, s_168_13, s_168_14, s_168_17, s_168_18, s_168_19, s_168_22, s_168_23, s_168_26, s_168_27, s_168_28, s_168_31, s_168_32, s_168_33, s_168_36, s_168_37, s_168_40, s_168_41, s_168_42, s_168_43, s_168_46, s_168_48, s_168_49, s_168_51, s_168_52, s_168_53, s_168_58, s_168_59, s_168_62, s_168_63, s_168_64, s_168_65, s_168_66, s_168_67, s_168_70, s_168_71, s_168_74, s_168_77, s_168_78, s_168_79, s_168_80, s_168_83, s_168_84, s_168_85, s_168_88, e_168, mv_i_1, mv_l_1, mv_a_1, mv_a_2, mv_a_3, mk2_n, mk2_i, mk2_l, mk2_a, mk2_u, mk2_x, mB_T, mB_F, mS_cons, mS_nil, mSB_T, mSB_F, mca_nil, mca_i, mca_l, mca_r, mca_u, mca_x, mcat_i, mcat_l, mcat_r, mcat_u, mcat_x, mK_some, mK_none, va_rf_s, va_rf_n, lgc_eq, lgc_lt, lgc_gt, lgc_ge, lgc_le, mrd_104, mrd_105, mrd_106, mrd_107, true_and, and_true, and_self, false_and, and_false, true_or, or_true, false_or, or_false, not_true_eq_false, not_false_eq_true, mgb, mga, mgr, mN, reduceCtorEq, ↓reduceIte, eq_self, ge_iff_le, gt_iff_lt, Nat.reduceAdd, Nat.reduceMul, Nat.reduceSub, Nat.reduceLT, Nat.reduceGT, Nat.reduceEqDiff, Nat.reduceLeDiff, Nat.left_eq_add, Nat.add_eq_left, Nat.reduceMod, Nat.reduceDiv, Nat.succ_ne_self, g, rr, k, x, l, nn_le, c1, c2, a1, e0, q', f5]
        · rw [if_neg q] at eD
          rw [eD] at f5 ⊢
          have q' := eq_false q
          simp (disch := omega) only [s_168_0, s_168_1, s_168_2, s_168_5, s_168_6, s_168_7, s_168_8, s_168_9, s_168_10, s_168_13, s_168_14, s_168_17, s_168_18, s_168_19, s_168_22, s_168_23, s_168_26, s_168_27, s_168_28, s_168_31, s_168_32, s_168_33, s_168_36, s_168_37, s_168_40, s_168_41, s_168_42, s_168_43, s_168_46, s_168_48, s_168_49, s_168_51, s_168_52, s_168_53, s_168_58, s_168_59, s_168_62, s_168_63, s_168_64, s_168_65, s_168_66, s_168_67, s_168_70, s_168_71, s_168_74, s_168_77, s_168_78, s_168_79, s_168_80, s_168_83, s_168_84, s_168_85, s_168_88, e_168, mv_i_1, mv_l_1, mv_a_1, mv_a_2, mv_a_3, mk2_n, mk2_i, mk2_l, mk2_a, mk2_u, mk2_x, mB_T, mB_F, mS_cons, mS_nil, mSB_T, mSB_F, mca_nil, mca_i, mca_l, mca_r, mca_u, mca_x, mcat_i, mcat_l, mcat_r, mcat_u, mcat_x, mK_some, mK_none, va_rf_s, va_rf_n, lgc_eq, lgc_lt, lgc_gt, lgc_ge, lgc_le, mrd_104, mrd_105, mrd_106, mrd_107, true_and, and_true, and_self, false_and, and_false, true_or, or_true, false_or, or_false, not_true_eq_false, not_false_eq_true, mgb, mga, mgr, mN, reduceCtorEq, ↓reduceIte, eq_self, ge_iff_le, gt_iff_lt, Nat.reduceAdd, Nat.reduceMul, Nat.reduceSub, Nat.reduceLT, Nat.reduceGT, Nat.reduceEqDiff, Nat.reduceLeDiff, Nat.left_eq_add, Nat.add_eq_left, Nat.reduceMod, Nat.reduceDiv, Nat.succ_ne_self, g, rr, k, x, l, nn_le, c1, c2, a1, a2, e0, q', f5]
      have T' := TW_G f1 T
      by_cases q : tkD B n i = 1
      · rw [if_pos q]
        rw [q] at f4 st
        refine ⟨h', f1, f2, by show 1 ≤ _; omega, fun j hj => f3 j (by omega), ⟨f4, trivial⟩, fun Q => ?_⟩
        rw [st Q]
        clear T T' ih fin f1 f2 f3 f4 f5 a1 a2 st
        simp (disch := omega) only [s_168_0, s_168_1, s_168_2, s_168_5, s_168_6, s_168_7, s_168_8, s_168_9, s_168_10, s_168_13, s_168_14, s_168_17, s_168_18, s_168_19, s_168_22, s_168_23, s_168_26, s_168_27, s_168_28, s_168_31, s_168_32, s_168_33, s_168_36, s_168_37, s_168_40, s_168_41, s_168_42, s_168_43, s_168_46, s_168_48, s_168_49, s_168_51, s_168_52, s_168_53, s_168_56, s_168_58, s_168_59, s_168_62, s_168_63, s_168_64, s_168_65, s_168_66, s_168_67, s_168_70, s_168_71, s_168_74, s_168_77, s_168_78, s_168_79, s_168_80, s_168_83, s_168_84, s_168_85, s_168_88, e_168, mv_i_1, mv_l_1, mv_a_1, mv_a_2, mv_a_3, mk2_n, mk2_i, mk2_l, mk2_a, mk2_u, mk2_x, mB_T, mB_F, mS_cons, mS_nil, mSB_T, mSB_F, mca_nil, mca_i, mca_l, mca_r, mca_u, mca_x, mcat_i, mcat_l, mcat_r, mcat_u, mcat_x, mK_some, mK_none, va_rf_s, va_rf_n, lgc_eq, lgc_lt, lgc_gt, lgc_ge, lgc_le, mrd_104, mrd_105, mrd_106, mrd_107, true_and, and_true, and_self, false_and, and_false, true_or, or_true, false_or, or_false, not_true_eq_false, not_false_eq_true, mgb, mga, mgr, mN, reduceCtorEq, ↓reduceIte, eq_self, ge_iff_le, gt_iff_lt, Nat.reduceAdd, Nat.reduceMul, Nat.reduceSub, Nat.reduceLT, Nat.reduceGT, Nat.reduceEqDiff, Nat.reduceLeDiff, Nat.left_eq_add, Nat.add_eq_left, Nat.reduceMod, Nat.reduceDiv, Nat.succ_ne_self]
      · rw [if_neg q]
        have hb := bl_b (B := B) (n := n) (n - (i + tkW B n i)) false (i + tkW B n i) (by omega)
        obtain ⟨h2, y1, y2, y3, y4, y5, y6⟩ := ih (r + 1) (bl B n (n - (i + tkW B n i)) false (i + tkW B n i)) (m + 1) h' (some (.int (Int32.ofNat (tkW B n i)))) (some (.int (tkD B n i))) T' (by omega) hb.2 f2 (by omega)
        refine ⟨h2, fG_t f1 y1, by rw [y2, List.length_cons, show m + 1 + (scn B n f (bl B n (n - (i + tkW B n i)) false (i + tkW B n i))).length = m + ((scn B n f (bl B n (n - (i + tkW B n i)) false (i + tkW B n i))).length + 1) from by omega], by rw [List.length_cons]; omega, fun j hj => ?_, ⟨?_, y5⟩, fun Q => ?_⟩
        · obtain ⟨u1, u2, u3⟩ := y4 j (by omega)
          obtain ⟨v1, v2, v3⟩ := f3 j (by omega)
          exact ⟨u1.trans v1, u2.trans v2, u3.trans v3⟩
        · obtain ⟨u1, u2, u3⟩ := y4 m (by omega)
          exact ⟨u1.trans f4.1, u2.trans f4.2.1, u3.trans f4.2.2⟩
        · rw [st Q, ← y6 Q]
          have b1 := c_171 (d := d + 5) T'.T (i := i + tkW B n i) (by omega)
          have g' := T'.T.g
          have q' := eq_false q
          clear T T' ih fin f1 f2 f3 f4 f5 a1 a2 st y1 y2 y3 y4 y5 y6
          simp (disch := omega) only [s_168_0, s_168_1, s_168_2, s_168_5, s_168_6, s_168_7, s_168_9, s_168_10, s_168_13, s_168_14, s_168_17, s_168_18, s_168_19, s_168_22, s_168_23, s_168_26, s_168_27, s_168_28, s_168_31, s_168_32, s_168_33, s_168_36, s_168_37, s_168_40, s_168_41, s_168_42, s_168_43, s_168_46, s_168_48, s_168_49, s_168_51, s_168_52, s_168_53, s_168_56, s_168_58, s_168_59, s_168_62, s_168_63, s_168_64, s_168_65, s_168_66, s_168_67, s_168_70, s_168_71, s_168_74, s_168_77, s_168_78, s_168_79, s_168_80, s_168_83, s_168_84, s_168_85, s_168_88, e_168, mv_i_1, mv_l_1, mv_a_1, mv_a_2, mv_a_3, mk2_n, mk2_i, mk2_l, mk2_a, mk2_u, mk2_x, mB_T, mB_F, mS_cons, mS_nil, mSB_T, mSB_F, mca_nil, mca_i, mca_l, mca_r, mca_u, mca_x, mcat_i, mcat_l, mcat_r, mcat_u, mcat_x, mK_some, mK_none, va_rf_s, va_rf_n, lgc_eq, lgc_lt, lgc_gt, lgc_ge, lgc_le, mrd_104, mrd_105, mrd_106, mrd_107, true_and, and_true, and_self, false_and, and_false, true_or, or_true, false_or, or_false, not_true_eq_false, not_false_eq_true, mgb, mga, mgr, mN, reduceCtorEq, ↓reduceIte, eq_self, ge_iff_le, gt_iff_lt, Nat.reduceAdd, Nat.reduceMul, Nat.reduceSub, Nat.reduceLT, Nat.reduceGT, Nat.reduceEqDiff, Nat.reduceLeDiff, Nat.left_eq_add, Nat.add_eq_left, Nat.reduceMod, Nat.reduceDiv, Nat.succ_ne_self, g', q', nn_add, b1, e1']
    · have es : scn B n (f + 1) i = [(0, n, 0)] := if_neg c
      rw [es]
      obtain ⟨h', f1, f2, f3, f4, f5⟩ := fin r i m h x3 x4 T (by omega) hi (by omega) e hm
      exact ⟨h', f1, f2, by show 1 ≤ _; omega, f3, f4, f5⟩
end TGs
/-- all tokens of a text -/
def toks (B : Nat → Int32) (n : Nat) : tks := scn B n n (bl B n n false 0)
section THs
variable {d : Nat} {h : mh_H} {To X K P U n : Nat} {B : Nat → Int32}
theorem v_168 (T : TW h To X K P U n B) (e : mh_i h To 4 = 0) : ∃ h', fG (tsW To K P U) h h' ∧ mh_i h' To 4 = Int32.ofNat (toks B n).length ∧ (toks B n).length ≤ n + 1 ∧ tkR (mh_i h' K) (mh_i h' P) (mh_i h' U) 0 (toks B n) ∧ ∀ Q, mcall (d + 7) 168 [.ref To] h Q = Q none h' := by
  have hb := bl_b (B := B) (n := n) n false 0 (by omega)
  obtain ⟨h', f1, f2, f3, f4, f5, f6⟩ := l_168 (d := d) (To := To) (X := X) (K := K) (P := P) (U := U) (n := n) (B := B) n 0 (bl B n n false 0) 0 h none none T (by omega) hb.2 e (by omega)
  rw [Nat.zero_add] at f2
  refine ⟨h', f1, f2, f3, f5, fun Q => ?_⟩
  rw [← f6 Q]
  have g := T.T.g
  have b1 := c_171 (d := d + 5) T.T (i := 0) (by omega)
  rw [Nat.sub_zero] at b1
  have b2 : ∀ Q, mcall (d + 6) 171 [.ref To, .int 0] h Q = Q (some (.int (Int32.ofNat (bl B n n false 0)))) h := b1
  clear T f1 f2 f3 f4 f5 f6 b1
  simp (disch := omega) only [s_168_0, s_168_1, s_168_2, s_168_5, s_168_6, s_168_7, s_168_9, s_168_10, s_168_13, s_168_14, s_168_17, s_168_18, s_168_19, s_168_22, s_168_23, s_168_26, s_168_27, s_168_28, s_168_31, s_168_32, s_168_33, s_168_36, s_168_37, s_168_40, s_168_41, s_168_42, s_168_43, s_168_46, s_168_48, s_168_49, s_168_51, s_168_52, s_168_53, s_168_56, s_168_58, s_168_59, s_168_62, s_168_63, s_168_64, s_168_65, s_168_66, s_168_67, s_168_70, s_168_71, s_168_74, s_168_77, s_168_78, s_168_79, s_168_80, s_168_83, s_168_84, s_168_85, s_168_88, e_168, mv_i_1, mv_l_1, mv_a_1, mv_a_2, mv_a_3, mk2_n, mk2_i, mk2_l, mk2_a, mk2_u, mk2_x, mB_T, mB_F, mS_cons, mS_nil, mSB_T, mSB_F, mca_nil, mca_i, mca_l, mca_r, mca_u, mca_x, mcat_i, mcat_l, mcat_r, mcat_u, mcat_x, mK_some, mK_none, va_rf_s, va_rf_n, lgc_eq, lgc_lt, lgc_gt, lgc_ge, lgc_le, mrd_104, mrd_105, mrd_106, mrd_107, true_and, and_true, and_self, false_and, and_false, true_or, or_true, false_or, or_false, not_true_eq_false, not_false_eq_true, mgb, mga, mgr, mN, reduceCtorEq, ↓reduceIte, eq_self, ge_iff_le, gt_iff_lt, Nat.reduceAdd, Nat.reduceMul, Nat.reduceSub, Nat.reduceLT, Nat.reduceGT, Nat.reduceEqDiff, Nat.reduceLeDiff, Nat.left_eq_add, Nat.add_eq_left, Nat.reduceMod, Nat.reduceDiv, Nat.succ_ne_self, g, b2]
  rfl
end THs
