set_option maxRecDepth 100000
/-! the class's Program.lay: what stands all along; limitOf, findWrong -/
def cyW (b j : Nat) : Prop := (21 ≤ b ∧ b ≤ 32) ∨ (b = 2 ∧ (j = 2 ∨ (16 ≤ j ∧ j ≤ 19)))
def fLy (h h' : mh_H) : Prop := mh_k h' = mh_k h ∧ mh_l h' = mh_l h ∧ mh_n h' = mh_n h ∧ mh_s h' = mh_s h ∧ (∀ b j, ¬ cyW b j → mh_i h' b j = mh_i h b j ∧ mh_j h' b j = mh_j h b j) ∧ (∀ b j, b ≠ 20 → mh_r h' b j = mh_r h b j)
def CLC (h : mh_H) (B n m : Nat) (D : lyD) (Sf : cps) : Prop := (CF h) ∧ (2644 ≤ B) ∧ (mh_r h 2 0 = some B ∧ mg h B 10 ∧ mh_r h B 2 = some (B + 3) ∧ mg h (B + 3) 100 ∧ mh_l h (B + 3) = n + 1) ∧ (mh_r h 2 1 = some (B + 5) ∧ mg h (B + 5) 7 ∧ mh_r h (B + 5) 12 = some (B + 14) ∧ mg h (B + 14) 105 ∧ mh_l h (B + 14) = n / 3 + 2) ∧ (mh_r h (B + 5) 14 = some (B + 15) ∧ mg h (B + 15) 100 ∧ mh_l h (B + 15) = 6 * (n / 9 + 2) ∧ mh_i h (B + 5) 15 = Int32.ofNat D.c) ∧ (9 * D.c ≤ n ∧ n ≤ 16400 ∧ m ≤ n + 1 ∧ Sf.1 8 ≤ n / 3 + 2) ∧ (∀ j, mh_i h (B + 15) j = D.H j) ∧ (∀ t, t < m → mh_i h (B + 3) t = Int32.ofNat (D.P t) ∧ D.P t < 65536) ∧ (∀ i, i < Sf.1 8 → mh_r h (B + 14) i = some (B + (24 + i)) ∧ mg h (B + (24 + i)) 9 ∧ ∀ j, mh_i h (B + (24 + i)) j = Sf.2 (24 + i) j)
theorem CLC.of {h : mh_H} {B n m : Nat} {D : lyD} {Sf : cps} (q : (CF h) ∧ (2644 ≤ B) ∧ (mh_r h 2 0 = some B ∧ mg h B 10 ∧ mh_r h B 2 = some (B + 3) ∧ mg h (B + 3) 100 ∧ mh_l h (B + 3) = n + 1) ∧ (mh_r h 2 1 = some (B + 5) ∧ mg h (B + 5) 7 ∧ mh_r h (B + 5) 12 = some (B + 14) ∧ mg h (B + 14) 105 ∧ mh_l h (B + 14) = n / 3 + 2) ∧ (mh_r h (B + 5) 14 = some (B + 15) ∧ mg h (B + 15) 100 ∧ mh_l h (B + 15) = 6 * (n / 9 + 2) ∧ mh_i h (B + 5) 15 = Int32.ofNat D.c) ∧ (9 * D.c ≤ n ∧ n ≤ 16400 ∧ m ≤ n + 1 ∧ Sf.1 8 ≤ n / 3 + 2) ∧ (∀ j, mh_i h (B + 15) j = D.H j) ∧ (∀ t, t < m → mh_i h (B + 3) t = Int32.ofNat (D.P t) ∧ D.P t < 65536) ∧ (∀ i, i < Sf.1 8 → mh_r h (B + 14) i = some (B + (24 + i)) ∧ mg h (B + (24 + i)) 9 ∧ ∀ j, mh_i h (B + (24 + i)) j = Sf.2 (24 + i) j)) : CLC h B n m D Sf := q
theorem CLC.F {h : mh_H} {B n m : Nat} {D : lyD} {Sf : cps} (q : CLC h B n m D Sf) : CF h := q.1
theorem CLC.B {h : mh_H} {B n m : Nat} {D : lyD} {Sf : cps} (q : CLC h B n m D Sf) : 2644 ≤ B := q.2.1
theorem CLC.t {h : mh_H} {B n m : Nat} {D : lyD} {Sf : cps} (q : CLC h B n m D Sf) : mh_r h 2 0 = some B ∧ mg h B 10 ∧ mh_r h B 2 = some (B + 3) ∧ mg h (B + 3) 100 ∧ mh_l h (B + 3) = n + 1 := q.2.2.1
theorem CLC.s {h : mh_H} {B n m : Nat} {D : lyD} {Sf : cps} (q : CLC h B n m D Sf) : mh_r h 2 1 = some (B + 5) ∧ mg h (B + 5) 7 ∧ mh_r h (B + 5) 12 = some (B + 14) ∧ mg h (B + 14) 105 ∧ mh_l h (B + 14) = n / 3 + 2 := q.2.2.2.1
theorem CLC.e {h : mh_H} {B n m : Nat} {D : lyD} {Sf : cps} (q : CLC h B n m D Sf) : mh_r h (B + 5) 14 = some (B + 15) ∧ mg h (B + 15) 100 ∧ mh_l h (B + 15) = 6 * (n / 9 + 2) ∧ mh_i h (B + 5) 15 = Int32.ofNat D.c := q.2.2.2.2.1
theorem CLC.d {h : mh_H} {B n m : Nat} {D : lyD} {Sf : cps} (q : CLC h B n m D Sf) : 9 * D.c ≤ n ∧ n ≤ 16400 ∧ m ≤ n + 1 ∧ Sf.1 8 ≤ n / 3 + 2 := q.2.2.2.2.2.1
theorem CLC.h {h : mh_H} {B n m : Nat} {D : lyD} {Sf : cps} (q : CLC h B n m D Sf) : ∀ j, mh_i h (B + 15) j = D.H j := q.2.2.2.2.2.2.1
theorem CLC.p {h : mh_H} {B n m : Nat} {D : lyD} {Sf : cps} (q : CLC h B n m D Sf) : ∀ t, t < m → mh_i h (B + 3) t = Int32.ofNat (D.P t) ∧ D.P t < 65536 := q.2.2.2.2.2.2.2.1
theorem CLC.q {h : mh_H} {B n m : Nat} {D : lyD} {Sf : cps} (q : CLC h B n m D Sf) : ∀ i, i < Sf.1 8 → mh_r h (B + 14) i = some (B + (24 + i)) ∧ mg h (B + (24 + i)) 9 ∧ ∀ j, mh_i h (B + (24 + i)) j = Sf.2 (24 + i) j := q.2.2.2.2.2.2.2.2
/-- where the BLOCK that is open ends -/
def LMd (h : mh_H) (D : lyD) (k se : Nat) : Prop := ∃ o St kd, mh_i h 31 (k - 1) = Int32.ofNat o ∧ o < 250 ∧ mh_r h 20 o = some St ∧ mg h St 9 ∧ mh_i h St 0 = Int32.ofNat kd ∧ ((kd = 4 ∧ ∃ g, mh_i h St 14 = Int32.ofNat g ∧ g < D.c ∧ D.H (6 * g + 4) = Int32.ofNat se) ∨ (kd = 5 ∧ mh_i h 32 (k - 1) = 0 ∧ mh_i h St 15 = Int32.ofNat se) ∨ (((kd = 5 ∧ mh_i h 32 (k - 1) = 1) ∨ kd = 6) ∧ mh_i h St 16 = Int32.ofNat se))
/-- slots of callers -/
def BSE (h : mh_H) (nb na : Nat) : Prop := (mh_i h 2 17 = -1 ∧ nb = 0 ∧ na = 0) ∨ ∃ c St b1 n1 a1 x1, mh_i h 2 17 = Int32.ofNat c ∧ c < 250 ∧ mh_i h 21 c = Int32.ofNat b1 ∧ mh_i h 22 c = Int32.ofNat a1 ∧ mh_r h 20 c = some St ∧ mg h St 9 ∧ mh_i h St 3 = Int32.ofNat n1 ∧ mh_i h St 4 = Int32.ofNat x1 ∧ nb = b1 + n1 ∧ na = a1 + x1
section CLl
variable {d : Nat} {h h1 h2 : mh_H} {B n m : Nat} {D : lyD} {Sf : cps} {k se p St nb na kd nN aN : Nat} {x2 x3 x4 : Option Value}
theorem fLy_id : fLy h h := ⟨rfl, rfl, rfl, rfl, fun _ _ _ => ⟨rfl, rfl⟩, fun _ _ _ => rfl⟩
theorem fLy_t (x : fLy h h1) (y : fLy h1 h2) : fLy h h2 := ⟨y.1.trans x.1, y.2.1.trans x.2.1, y.2.2.1.trans x.2.2.1, y.2.2.2.1.trans x.2.2.2.1, fun b j w => ⟨(y.2.2.2.2.1 b j w).1.trans (x.2.2.2.2.1 b j w).1, (y.2.2.2.2.1 b j w).2.trans (x.2.2.2.2.1 b j w).2⟩, fun b j w => (y.2.2.2.2.2 b j w).trans (x.2.2.2.2.2 b j w)⟩
theorem fLy_si {b j : Nat} {v : Int32} (w : cyW b j) : fLy h (mh_si h b j v) := ⟨rfl, rfl, rfl, rfl, fun b' j' hw => ⟨by rw [hi_si, if_neg (fun z => hw (by rw [z.1, z.2]; exact w))], rfl⟩, fun _ _ _ => rfl⟩
theorem fLy_sr {j : Nat} {v : Option Nat} : fLy h (mh_sr h 20 j v) := ⟨rfl, rfl, rfl, rfl, fun _ _ _ => ⟨rfl, rfl⟩, fun b' j' hb => by rw [hr_sr, if_neg (fun z => hb z.1)]⟩
theorem fLy_i {b j : Nat} (x : fLy h h1) (w : ¬ cyW b j) : mh_i h1 b j = mh_i h b j := (x.2.2.2.2.1 b j w).1
theorem fLy_r {b j : Nat} (x : fLy h h1) (w : b ≠ 20) : mh_r h1 b j = mh_r h b j := x.2.2.2.2.2 b j w
theorem fLy_g {o c : Nat} (x : fLy h h1) : mg h1 o c = mg h o c := by unfold mg; rw [x.1, x.2.2.1]
theorem CF_L (x : fLy h h1) (F : CF h) : CF h1 := by
  refine ⟨fun t ht => ⟨?_, ?_⟩, fun t ht => ?_⟩
  · rw [fLy_g x]; exact (F.k t ht).1
  · rw [x.2.1]; exact (F.k t ht).2
  · have hne : t.1 ≠ 20 := by
      have : ∀ t ∈ cfR, t.1 ≠ 20 := by decide +kernel
      exact this t ht
    rw [fLy_r x hne]
    exact F.r t ht
theorem CLC_L (x : fLy h h1) (C : CLC h B n m D Sf) : CLC h1 B n m D Sf := by
  have hB := C.B
  obtain ⟨t1, t2, t3, t4, t5⟩ := C.t
  obtain ⟨s1, s2, s3, s4, s5⟩ := C.s
  obtain ⟨e1, e2, e3, e4⟩ := C.e
  have w : ∀ o j, B ≤ o → ¬ cyW o j := fun o j ho z => by unfold cyW at z; omega
  refine CLC.of ⟨CF_L x C.F, hB, ⟨(fLy_r x (by decide)).trans t1, by rw [fLy_g x]; exact t2, (fLy_r x (by omega)).trans t3, by rw [fLy_g x]; exact t4, by rw [x.2.1]; exact t5⟩, ⟨(fLy_r x (by decide)).trans s1, by rw [fLy_g x]; exact s2, (fLy_r x (by omega)).trans s3, by rw [fLy_g x]; exact s4, by rw [x.2.1]; exact s5⟩, ⟨(fLy_r x (by omega)).trans e1, by rw [fLy_g x]; exact e2, by rw [x.2.1]; exact e3, (fLy_i x (w _ _ (by omega))).trans e4⟩, C.d, fun j => (fLy_i x (w _ _ (by omega))).trans (C.h j), fun t ht => ⟨(fLy_i x (w _ _ (by omega))).trans (C.p t ht).1, (C.p t ht).2⟩, fun i hi => ?_⟩
  obtain ⟨q1, q2, q3⟩ := C.q i hi
  exact ⟨(fLy_r x (by omega)).trans q1, by rw [fLy_g x]; exact q2, fun j => (fLy_i x (w _ _ (by omega))).trans (q3 j)⟩
theorem c_137L (C : CLC h B n m D Sf) {f x : Nat} {x' : Int32} (ex : x' = Int32.ofNat x) (hf : f < D.c) (hx : x < 6) : ∀ Q, mcall d 137 [.ref (B + 5), .int (Int32.ofNat f), .int x'] h Q = Q (some (.int (D.H (6 * f + x)))) h := by
  intro Q
  subst ex
  obtain ⟨s1, s2, s3, s4, s5⟩ := C.s
  obtain ⟨e1, e2, e3, e4⟩ := C.e
  have hd := C.d
  have hh := C.h (6 * f + x)
  have e6' : 6 * Int32.ofNat f = Int32.ofNat (6 * f) := nn_mul (a := 6) (b := f)
  have ea : Int32.ofNat (6 * f) + Int32.ofNat x = Int32.ofNat (6 * f + x) := nn_add
  clear C
  simp (disch := omega) only [s_137_0, s_137_1, s_137_4, s_137_6, s_137_7, s_137_8, s_137_9, s_137_10, s_137_11, e_137, mv_i_1, mv_l_1, mv_a_1, mv_a_2, mv_a_3, mk2_n, mk2_i, mk2_l, mk2_a, mk2_u, mk2_x, mB_T, mB_F, mS_cons, mS_nil, mSB_T, mSB_F, mca_nil, mca_i, mca_l, mca_r, mca_u, mca_x, mcat_i, mcat_l, mcat_r, mcat_u, mcat_x, mK_some, mK_none, va_rf_s, va_rf_n, lgc_eq, lgc_lt, lgc_gt, lgc_ge, lgc_le, mrd_104, mrd_105, mrd_106, mrd_107, true_and, and_true, and_self, false_and, and_false, true_or, or_true, false_or, or_false, not_true_eq_false, not_false_eq_true, mgb, mga, mgr, mN, reduceCtorEq, ↓reduceIte, eq_self, ge_iff_le, gt_iff_lt, Nat.reduceAdd, Nat.reduceMul, Nat.reduceSub, Nat.reduceLT, Nat.reduceGT, Nat.reduceEqDiff, Nat.reduceLeDiff, Nat.left_eq_add, Nat.add_eq_left, Nat.reduceMod, Nat.reduceDiv, Nat.succ_ne_self, s2, e1, e2, e3, e6', ea, hh, nn_mxT, nn_clamp]
/-- limitOf -/
theorem c_87 (C : CLC h B n m D Sf) (k16 : mh_i h 2 16 = Int32.ofNat k) (hk : 1 ≤ k) (hk2 : k ≤ 250) (W : LMd h D k se) : ∀ Q, mcall (d + 1) 87 [.ref 2, .int (mh_i h 31 (k - 1))] h Q = Q (some (.int (Int32.ofNat se))) h := by
  intro Q
  obtain ⟨o, St, kd, w1, w2, w3, w4, w5, w6⟩ := W
  have F := C.F
  have g2 := F.g 2 4 20 (by decide +kernel)
  have t3 := F.f 2 3 20 (by decide +kernel)
  have g20 := (F.g 20 105 250 (by decide +kernel)).1
  have g20b := (F.g 20 105 250 (by decide +kernel)).2
  have l20 := F.l 20 105 250 (by decide +kernel)
  have t15 := F.f 2 15 32 (by decide +kernel)
  have g32 := F.g 32 103 250 (by decide +kernel)
  have g32a := g32.1
  have g32b := g32.2
  have l32 := F.l 32 103 250 (by decide +kernel)
  have s1 := C.s.1
  have s1g := C.s.2.1
  have es : Int32.ofNat k - 1 = Int32.ofNat (k - 1) := nn_sub (a := k) (b := 1) hk
  have n1 : ((1 : Int32) = 0) = False := by decide
  have z0 : ((0 : Int32) = 0) = True := eq_true rfl
  rw [w1]
  rcases w6 with ⟨c1, g, y1, y2, y3⟩ | ⟨c1, y1, y2⟩ | ⟨c1, y1⟩
  · subst c1
    have i4 : Int32.ofNat 4 = 4 := rfl
    rw [i4] at w5
    have z4 : ((4 : Int32) = 4) = True := eq_true rfl
    have a0 := c_137L (d := d) C (f := g) (x := 4) (x' := 4) rfl y2 (by decide)
    rw [y3] at a0
    clear C F
    simp (disch := omega) only [s_87_0, s_87_1, s_87_4, s_87_5, s_87_6, s_87_6n, s_87_6x, s_87_7, s_87_8, s_87_11, s_87_12, s_87_15, s_87_16, s_87_19, s_87_20, s_87_23, s_87_24, s_87_27, s_87_28, s_87_29, s_87_32, s_87_33, s_87_36, s_87_37, s_87_40, s_87_41, s_87_44, s_87_45, s_87_46, s_87_47, s_87_50, s_87_51, s_87_54, s_87_55, s_87_56, s_87_57, s_87_60, s_87_61, s_87_64, s_87_67, s_87_68, s_87_71, e_87, mv_i_1, mv_l_1, mv_a_1, mv_a_2, mv_a_3, mk2_n, mk2_i, mk2_l, mk2_a, mk2_u, mk2_x, mB_T, mB_F, mS_cons, mS_nil, mSB_T, mSB_F, mca_nil, mca_i, mca_l, mca_r, mca_u, mca_x, mcat_i, mcat_l, mcat_r, mcat_u, mcat_x, mK_some, mK_none, va_rf_s, va_rf_n, lgc_eq, lgc_lt, lgc_gt, lgc_ge, lgc_le, mrd_104, mrd_105, mrd_106, mrd_107, true_and, and_true, and_self, false_and, and_false, true_or, or_true, false_or, or_false, not_true_eq_false, not_false_eq_true, mgb, mga, mgr, mN, reduceCtorEq, ↓reduceIte, eq_self, ge_iff_le, gt_iff_lt, Nat.reduceAdd, Nat.reduceMul, Nat.reduceSub, Nat.reduceLT, Nat.reduceGT, Nat.reduceEqDiff, Nat.reduceLeDiff, Nat.left_eq_add, Nat.add_eq_left, Nat.reduceMod, Nat.reduceDiv, Nat.succ_ne_self, g2, t3, g20, g20b, l20, w3, w4, w5, z4, s1, s1g, y1, a0, nn_mxT, nn_clamp]
  · subst c1
    have i5 : Int32.ofNat 5 = 5 := rfl
    rw [i5] at w5
    have z5 : ((5 : Int32) = 5) = True := eq_true rfl
    have z4 : ((5 : Int32) = 4) = False := by decide
    clear C F
    simp (disch := omega) only [s_87_0, s_87_1, s_87_4, s_87_5, s_87_6, s_87_6n, s_87_6x, s_87_7, s_87_8, s_87_11, s_87_12, s_87_15, s_87_16, s_87_19, s_87_20, s_87_23, s_87_24, s_87_27, s_87_28, s_87_29, s_87_32, s_87_33, s_87_36, s_87_37, s_87_40, s_87_41, s_87_44, s_87_45, s_87_46, s_87_47, s_87_50, s_87_51, s_87_54, s_87_55, s_87_56, s_87_57, s_87_60, s_87_61, s_87_64, s_87_67, s_87_68, s_87_71, e_87, mv_i_1, mv_l_1, mv_a_1, mv_a_2, mv_a_3, mk2_n, mk2_i, mk2_l, mk2_a, mk2_u, mk2_x, mB_T, mB_F, mS_cons, mS_nil, mSB_T, mSB_F, mca_nil, mca_i, mca_l, mca_r, mca_u, mca_x, mcat_i, mcat_l, mcat_r, mcat_u, mcat_x, mK_some, mK_none, va_rf_s, va_rf_n, lgc_eq, lgc_lt, lgc_gt, lgc_ge, lgc_le, mrd_104, mrd_105, mrd_106, mrd_107, true_and, and_true, and_self, false_and, and_false, true_or, or_true, false_or, or_false, not_true_eq_false, not_false_eq_true, mgb, mga, mgr, mN, reduceCtorEq, ↓reduceIte, eq_self, ge_iff_le, gt_iff_lt, Nat.reduceAdd, Nat.reduceMul, Nat.reduceSub, Nat.reduceLT, Nat.reduceGT, Nat.reduceEqDiff, Nat.reduceLeDiff, Nat.left_eq_add, Nat.add_eq_left, Nat.reduceMod, Nat.reduceDiv, Nat.succ_ne_self, g2, t3, g20, g20b, l20, w3, w4, w5, z4, z5, t15, g32, g32a, g32b, l32, k16, es, y1, y2, n1, z0, nn_mxT, nn_clamp]
  · rcases c1 with ⟨c1, c2⟩ | c1
    · subst c1
      have i5 : Int32.ofNat 5 = 5 := rfl
      rw [i5] at w5
      have z5 : ((5 : Int32) = 5) = True := eq_true rfl
      have z4 : ((5 : Int32) = 4) = False := by decide
      clear C F
      simp (disch := omega) only [s_87_0, s_87_1, s_87_4, s_87_5, s_87_6, s_87_6n, s_87_6x, s_87_7, s_87_8, s_87_11, s_87_12, s_87_15, s_87_16, s_87_19, s_87_20, s_87_23, s_87_24, s_87_27, s_87_28, s_87_29, s_87_32, s_87_33, s_87_36, s_87_37, s_87_40, s_87_41, s_87_44, s_87_45, s_87_46, s_87_47, s_87_50, s_87_51, s_87_54, s_87_55, s_87_56, s_87_57, s_87_60, s_87_61, s_87_64, s_87_67, s_87_68, s_87_71, e_87, mv_i_1, mv_l_1, mv_a_1, mv_a_2, mv_a_3, mk2_n, mk2_i, mk2_l, mk2_a, mk2_u, mk2_x, mB_T, mB_F, mS_cons, mS_nil, mSB_T, mSB_F, mca_nil, mca_i, mca_l, mca_r, mca_u, mca_x, mcat_i, mcat_l, mcat_r, mcat_u, mcat_x, mK_some, mK_none, va_rf_s, va_rf_n, lgc_eq, lgc_lt, lgc_gt, lgc_ge, lgc_le, mrd_104, mrd_105, mrd_106, mrd_107, true_and, and_true, and_self, false_and, and_false, true_or, or_true, false_or, or_false, not_true_eq_false, not_false_eq_true, mgb, mga, mgr, mN, reduceCtorEq, ↓reduceIte, eq_self, ge_iff_le, gt_iff_lt, Nat.reduceAdd, Nat.reduceMul, Nat.reduceSub, Nat.reduceLT, Nat.reduceGT, Nat.reduceEqDiff, Nat.reduceLeDiff, Nat.left_eq_add, Nat.add_eq_left, Nat.reduceMod, Nat.reduceDiv, Nat.succ_ne_self, g2, t3, g20, g20b, l20, w3, w4, w5, z4, z5, t15, g32, g32a, g32b, l32, k16, es, c2, y1, n1, z0, nn_mxT, nn_clamp]
    · subst c1
      have i5 : Int32.ofNat 6 = 6 := rfl
      rw [i5] at w5
      have z5 : ((6 : Int32) = 5) = False := by decide
      have z4 : ((6 : Int32) = 4) = False := by decide
      clear C F
      simp (disch := omega) only [s_87_0, s_87_1, s_87_4, s_87_5, s_87_6, s_87_6n, s_87_6x, s_87_7, s_87_8, s_87_11, s_87_12, s_87_15, s_87_16, s_87_19, s_87_20, s_87_23, s_87_24, s_87_27, s_87_28, s_87_29, s_87_32, s_87_33, s_87_36, s_87_37, s_87_40, s_87_41, s_87_44, s_87_45, s_87_46, s_87_47, s_87_50, s_87_51, s_87_54, s_87_55, s_87_56, s_87_57, s_87_60, s_87_61, s_87_64, s_87_67, s_87_68, s_87_71, e_87, mv_i_1, mv_l_1, mv_a_1, mv_a_2, mv_a_3, mk2_n, mk2_i, mk2_l, mk2_a, mk2_u, mk2_x, mB_T, mB_F, mS_cons, mS_nil, mSB_T, mSB_F, mca_nil, mca_i, mca_l, mca_r, mca_u, mca_x, mcat_i, mcat_l, mcat_r, mcat_u, mcat_x, mK_some, mK_none, va_rf_s, va_rf_n, lgc_eq, lgc_lt, lgc_gt, lgc_ge, lgc_le, mrd_104, mrd_105, mrd_106, mrd_107, true_and, and_true, and_self, false_and, and_false, true_or, or_true, false_or, or_false, not_true_eq_false, not_false_eq_true, mgb, mga, mgr, mN, reduceCtorEq, ↓reduceIte, eq_self, ge_iff_le, gt_iff_lt, Nat.reduceAdd, Nat.reduceMul, Nat.reduceSub, Nat.reduceLT, Nat.reduceGT, Nat.reduceEqDiff, Nat.reduceLeDiff, Nat.left_eq_add, Nat.add_eq_left, Nat.reduceMod, Nat.reduceDiv, Nat.succ_ne_self, g2, t3, g20, g20b, l20, w3, w4, w5, z4, z5, y1, n1, z0, nn_mxT, nn_clamp]
def ntY (h : mh_H) (w q : Int32) : mh_H := mh_si (mh_si h 2 18 w) 2 19 q
/-- findWrong: how many slots -/
theorem s_90a (C : CLC h B n m D Sf) (b : BSE h nb na) (gS : mg h St 9) (s3 : mh_i h St 3 = Int32.ofNat nN) (s4 : mh_i h St 4 = Int32.ofNat aN) : ∀ Q, mw (d + 1) 90 Q 41 [some (.ref 2), some (.ref St), none, none, none] [] h = mw (d + 1) 90 Q 93 [some (.ref 2), some (.ref St), some (.int (Int32.ofNat (nN + nb))), some (.int (Int32.ofNat (aN + na))), none] [] h := by
  intro Q
  have F := C.F
  have g2 := F.g 2 4 20 (by decide +kernel)
  have m1 : ((-1 : Int32) = -1) = True := eq_true rfl
  have ea : ∀ a b, Int32.ofNat a + Int32.ofNat b = Int32.ofNat (a + b) := fun a b => nn_add
  have e0 : ∀ a, Int32.ofNat a + 0 = Int32.ofNat a := fun a => nn_add (a := a) (b := 0)
  rcases b with ⟨b1, b2, b3⟩ | ⟨c, Sc, b1, n1, a1, x1, y1, y2, y3, y4, y5, y6, y7, y8, y9, y10⟩
  · subst b2
    subst b3
    clear C F
    simp (disch := omega) only [s_90_0, s_90_1, s_90_4, s_90_7, s_90_10, s_90_11, s_90_13, s_90_14, s_90_17, s_90_20, s_90_21, s_90_22, s_90_25, s_90_28, s_90_29, s_90_30, s_90_33, s_90_34, s_90_37, s_90_40, s_90_41, s_90_42, s_90_45, s_90_46, s_90_49, s_90_50, s_90_53, s_90_54, s_90_57, s_90_58, s_90_59, s_90_62, s_90_65, s_90_66, s_90_67, s_90_68, s_90_71, s_90_72, s_90_75, s_90_76, s_90_79, s_90_80, s_90_83, s_90_84, s_90_85, s_90_88, s_90_91, s_90_92, s_90_94, s_90_97, s_90_98, s_90_101, s_90_102, s_90_105, s_90_106, s_90_109, s_90_110, s_90_113, s_90_115, s_90_117, s_90_118, s_90_121, s_90_122, s_90_123, s_90_124, s_90_127, s_90_130, s_90_132, s_90_133, s_90_136, s_90_139, s_90_140, s_90_141, s_90_144, s_90_145, s_90_148, s_90_149, s_90_152, s_90_153, s_90_155, s_90_158, s_90_159, s_90_161, s_90_162, s_90_165, s_90_168, s_90_171, s_90_172, s_90_175, s_90_176, s_90_179, s_90_180, s_90_183, s_90_186, s_90_187, s_90_189, s_90_192, s_90_193, s_90_195, s_90_196, s_90_199, s_90_202, s_90_205, s_90_206, s_90_209, s_90_210, s_90_213, s_90_214, s_90_217, s_90_220, s_90_221, s_90_223, s_90_226, s_90_227, s_90_229, s_90_230, s_90_233, s_90_236, e_90, mv_i_1, mv_l_1, mv_a_1, mv_a_2, mv_a_3, mk2_n, mk2_i, mk2_l, mk2_a, mk2_u, mk2_x, mB_T, mB_F, mS_cons, mS_nil, mSB_T, mSB_F, mca_nil, mca_i, mca_l, mca_r, mca_u, mca_x, mcat_i, mcat_l, mcat_r, mcat_u, mcat_x, mK_some, mK_none, va_rf_s, va_rf_n, lgc_eq, lgc_lt, lgc_gt, lgc_ge, lgc_le, mrd_104, mrd_105, mrd_106, mrd_107, true_and, and_true, and_self, false_and, and_false, true_or, or_true, false_or, or_false, not_true_eq_false, not_false_eq_true, mgb, mga, mgr, mN, reduceCtorEq, ↓reduceIte, eq_self, ge_iff_le, gt_iff_lt, Nat.reduceAdd, Nat.reduceMul, Nat.reduceSub, Nat.reduceLT, Nat.reduceGT, Nat.reduceEqDiff, Nat.reduceLeDiff, Nat.left_eq_add, Nat.add_eq_left, Nat.reduceMod, Nat.reduceDiv, Nat.succ_ne_self, g2, gS, s3, s4, b1, m1, e0, Nat.add_zero]
  · have a0 := c_80 (d := d) (p := c) F y2 y3 y5 y6 y7
    have a1 := c_81 (d := d) (p := c) F y2 y4 y5 y6 y8
    have ni : (Int32.ofNat c = -1) = False := nn_m2 (by omega)
    subst y9
    subst y10
    clear C F
    simp (disch := omega) only [s_90_0, s_90_1, s_90_4, s_90_7, s_90_10, s_90_11, s_90_13, s_90_14, s_90_17, s_90_20, s_90_21, s_90_22, s_90_25, s_90_28, s_90_29, s_90_30, s_90_33, s_90_34, s_90_37, s_90_40, s_90_41, s_90_42, s_90_45, s_90_46, s_90_49, s_90_50, s_90_53, s_90_54, s_90_57, s_90_58, s_90_59, s_90_62, s_90_65, s_90_66, s_90_67, s_90_68, s_90_71, s_90_72, s_90_75, s_90_76, s_90_79, s_90_80, s_90_83, s_90_84, s_90_85, s_90_88, s_90_91, s_90_92, s_90_94, s_90_97, s_90_98, s_90_101, s_90_102, s_90_105, s_90_106, s_90_109, s_90_110, s_90_113, s_90_115, s_90_117, s_90_118, s_90_121, s_90_122, s_90_123, s_90_124, s_90_127, s_90_130, s_90_132, s_90_133, s_90_136, s_90_139, s_90_140, s_90_141, s_90_144, s_90_145, s_90_148, s_90_149, s_90_152, s_90_153, s_90_155, s_90_158, s_90_159, s_90_161, s_90_162, s_90_165, s_90_168, s_90_171, s_90_172, s_90_175, s_90_176, s_90_179, s_90_180, s_90_183, s_90_186, s_90_187, s_90_189, s_90_192, s_90_193, s_90_195, s_90_196, s_90_199, s_90_202, s_90_205, s_90_206, s_90_209, s_90_210, s_90_213, s_90_214, s_90_217, s_90_220, s_90_221, s_90_223, s_90_226, s_90_227, s_90_229, s_90_230, s_90_233, s_90_236, e_90, mv_i_1, mv_l_1, mv_a_1, mv_a_2, mv_a_3, mk2_n, mk2_i, mk2_l, mk2_a, mk2_u, mk2_x, mB_T, mB_F, mS_cons, mS_nil, mSB_T, mSB_F, mca_nil, mca_i, mca_l, mca_r, mca_u, mca_x, mcat_i, mcat_l, mcat_r, mcat_u, mcat_x, mK_some, mK_none, va_rf_s, va_rf_n, lgc_eq, lgc_lt, lgc_gt, lgc_ge, lgc_le, mrd_104, mrd_105, mrd_106, mrd_107, true_and, and_true, and_self, false_and, and_false, true_or, or_true, false_or, or_false, not_true_eq_false, not_false_eq_true, mgb, mga, mgr, mN, reduceCtorEq, ↓reduceIte, eq_self, ge_iff_le, gt_iff_lt, Nat.reduceAdd, Nat.reduceMul, Nat.reduceSub, Nat.reduceLT, Nat.reduceGT, Nat.reduceEqDiff, Nat.reduceLeDiff, Nat.left_eq_add, Nat.add_eq_left, Nat.reduceMod, Nat.reduceDiv, Nat.succ_ne_self, g2, gS, s3, s4, y1, ni, a0, a1, ea]
theorem s_90w (C : CLC h B n m D Sf) (gS : mg h St 9) (ec : mh_i h 2 2 = Int32.ofNat p) (hp : p < 1000) {w5 w6 pl : Int32} (s2 : mh_i h St 2 = pl) (s5 : mh_i h St 5 = w5) (s6 : mh_i h St 6 = w6) : ∀ Q, mcall (d + 1) 90 [.ref 2, .ref St] h Q = if p = 249 then Q none (ntY h 11 pl) else if ¬ w5 = 0 then Q none (ntY h w5 w6) else mw (d + 1) 90 Q 41 [some (.ref 2), some (.ref St), none, none, none] [] h := by
  intro Q
  have F := C.F
  have g2 := F.g 2 4 20 (by decide +kernel)
  have e9 : (Int32.ofNat p = 249) = (p = 249) := nn_eq (a := p) (b := 249) (by omega) (by decide)
  have n1 := c_86 (d := d) (w := 11) (q := pl) F
  have n2 := c_86 (d := d) (w := w5) (q := w6) F
  unfold ntY
  clear C F
  by_cases c : p = 249
  · have c' := e9.trans (eq_true c)
    rw [if_pos c]
    simp (disch := omega) only [s_90_0, s_90_1, s_90_4, s_90_7, s_90_10, s_90_11, s_90_13, s_90_14, s_90_17, s_90_20, s_90_21, s_90_22, s_90_25, s_90_28, s_90_29, s_90_30, s_90_33, s_90_34, s_90_37, s_90_40, s_90_42, s_90_45, s_90_46, s_90_49, s_90_50, s_90_53, s_90_54, s_90_57, s_90_58, s_90_59, s_90_62, s_90_65, s_90_66, s_90_67, s_90_68, s_90_71, s_90_72, s_90_75, s_90_76, s_90_79, s_90_80, s_90_83, s_90_84, s_90_85, s_90_88, s_90_91, s_90_92, s_90_93, s_90_94, s_90_97, s_90_98, s_90_101, s_90_102, s_90_105, s_90_106, s_90_109, s_90_110, s_90_113, s_90_115, s_90_117, s_90_118, s_90_121, s_90_122, s_90_123, s_90_124, s_90_127, s_90_130, s_90_132, s_90_133, s_90_136, s_90_139, s_90_140, s_90_141, s_90_144, s_90_145, s_90_148, s_90_149, s_90_152, s_90_153, s_90_155, s_90_158, s_90_159, s_90_161, s_90_162, s_90_165, s_90_168, s_90_171, s_90_172, s_90_175, s_90_176, s_90_179, s_90_180, s_90_183, s_90_186, s_90_187, s_90_189, s_90_192, s_90_193, s_90_195, s_90_196, s_90_199, s_90_202, s_90_205, s_90_206, s_90_209, s_90_210, s_90_213, s_90_214, s_90_217, s_90_220, s_90_221, s_90_223, s_90_226, s_90_227, s_90_229, s_90_230, s_90_233, s_90_236, e_90, mv_i_1, mv_l_1, mv_a_1, mv_a_2, mv_a_3, mk2_n, mk2_i, mk2_l, mk2_a, mk2_u, mk2_x, mB_T, mB_F, mS_cons, mS_nil, mSB_T, mSB_F, mca_nil, mca_i, mca_l, mca_r, mca_u, mca_x, mcat_i, mcat_l, mcat_r, mcat_u, mcat_x, mK_some, mK_none, va_rf_s, va_rf_n, lgc_eq, lgc_lt, lgc_gt, lgc_ge, lgc_le, mrd_104, mrd_105, mrd_106, mrd_107, true_and, and_true, and_self, false_and, and_false, true_or, or_true, false_or, or_false, not_true_eq_false, not_false_eq_true, mgb, mga, mgr, mN, reduceCtorEq, ↓reduceIte, eq_self, ge_iff_le, gt_iff_lt, Nat.reduceAdd, Nat.reduceMul, Nat.reduceSub, Nat.reduceLT, Nat.reduceGT, Nat.reduceEqDiff, Nat.reduceLeDiff, Nat.left_eq_add, Nat.add_eq_left, Nat.reduceMod, Nat.reduceDiv, Nat.succ_ne_self, g2, gS, ec, c', s2, n1]
  · have c' := e9.trans (eq_false c)
    rw [if_neg c]
    by_cases z : w5 = 0
    · have z' : (w5 = 0) = True := eq_true z
      rw [if_neg (fun q => q z)]
      simp (disch := omega) only [s_90_0, s_90_1, s_90_4, s_90_7, s_90_10, s_90_11, s_90_13, s_90_14, s_90_17, s_90_20, s_90_21, s_90_22, s_90_25, s_90_28, s_90_29, s_90_30, s_90_33, s_90_34, s_90_37, s_90_40, s_90_42, s_90_45, s_90_46, s_90_49, s_90_50, s_90_53, s_90_54, s_90_57, s_90_58, s_90_59, s_90_62, s_90_65, s_90_66, s_90_67, s_90_68, s_90_71, s_90_72, s_90_75, s_90_76, s_90_79, s_90_80, s_90_83, s_90_84, s_90_85, s_90_88, s_90_91, s_90_92, s_90_93, s_90_94, s_90_97, s_90_98, s_90_101, s_90_102, s_90_105, s_90_106, s_90_109, s_90_110, s_90_113, s_90_115, s_90_117, s_90_118, s_90_121, s_90_122, s_90_123, s_90_124, s_90_127, s_90_130, s_90_132, s_90_133, s_90_136, s_90_139, s_90_140, s_90_141, s_90_144, s_90_145, s_90_148, s_90_149, s_90_152, s_90_153, s_90_155, s_90_158, s_90_159, s_90_161, s_90_162, s_90_165, s_90_168, s_90_171, s_90_172, s_90_175, s_90_176, s_90_179, s_90_180, s_90_183, s_90_186, s_90_187, s_90_189, s_90_192, s_90_193, s_90_195, s_90_196, s_90_199, s_90_202, s_90_205, s_90_206, s_90_209, s_90_210, s_90_213, s_90_214, s_90_217, s_90_220, s_90_221, s_90_223, s_90_226, s_90_227, s_90_229, s_90_230, s_90_233, s_90_236, e_90, mv_i_1, mv_l_1, mv_a_1, mv_a_2, mv_a_3, mk2_n, mk2_i, mk2_l, mk2_a, mk2_u, mk2_x, mB_T, mB_F, mS_cons, mS_nil, mSB_T, mSB_F, mca_nil, mca_i, mca_l, mca_r, mca_u, mca_x, mcat_i, mcat_l, mcat_r, mcat_u, mcat_x, mK_some, mK_none, va_rf_s, va_rf_n, lgc_eq, lgc_lt, lgc_gt, lgc_ge, lgc_le, mrd_104, mrd_105, mrd_106, mrd_107, true_and, and_true, and_self, false_and, and_false, true_or, or_true, false_or, or_false, not_true_eq_false, not_false_eq_true, mgb, mga, mgr, mN, reduceCtorEq, ↓reduceIte, eq_self, ge_iff_le, gt_iff_lt, Nat.reduceAdd, Nat.reduceMul, Nat.reduceSub, Nat.reduceLT, Nat.reduceGT, Nat.reduceEqDiff, Nat.reduceLeDiff, Nat.left_eq_add, Nat.add_eq_left, Nat.reduceMod, Nat.reduceDiv, Nat.succ_ne_self, g2, gS, ec, c', s5, z']
    · have z' : (w5 = 0) = False := eq_false z
      rw [if_pos z]
      simp (disch := omega) only [s_90_0, s_90_1, s_90_4, s_90_7, s_90_10, s_90_11, s_90_13, s_90_14, s_90_17, s_90_20, s_90_21, s_90_22, s_90_25, s_90_28, s_90_29, s_90_30, s_90_33, s_90_34, s_90_37, s_90_40, s_90_42, s_90_45, s_90_46, s_90_49, s_90_50, s_90_53, s_90_54, s_90_57, s_90_58, s_90_59, s_90_62, s_90_65, s_90_66, s_90_67, s_90_68, s_90_71, s_90_72, s_90_75, s_90_76, s_90_79, s_90_80, s_90_83, s_90_84, s_90_85, s_90_88, s_90_91, s_90_92, s_90_93, s_90_94, s_90_97, s_90_98, s_90_101, s_90_102, s_90_105, s_90_106, s_90_109, s_90_110, s_90_113, s_90_115, s_90_117, s_90_118, s_90_121, s_90_122, s_90_123, s_90_124, s_90_127, s_90_130, s_90_132, s_90_133, s_90_136, s_90_139, s_90_140, s_90_141, s_90_144, s_90_145, s_90_148, s_90_149, s_90_152, s_90_153, s_90_155, s_90_158, s_90_159, s_90_161, s_90_162, s_90_165, s_90_168, s_90_171, s_90_172, s_90_175, s_90_176, s_90_179, s_90_180, s_90_183, s_90_186, s_90_187, s_90_189, s_90_192, s_90_193, s_90_195, s_90_196, s_90_199, s_90_202, s_90_205, s_90_206, s_90_209, s_90_210, s_90_213, s_90_214, s_90_217, s_90_220, s_90_221, s_90_223, s_90_226, s_90_227, s_90_229, s_90_230, s_90_233, s_90_236, e_90, mv_i_1, mv_l_1, mv_a_1, mv_a_2, mv_a_3, mk2_n, mk2_i, mk2_l, mk2_a, mk2_u, mk2_x, mB_T, mB_F, mS_cons, mS_nil, mSB_T, mSB_F, mca_nil, mca_i, mca_l, mca_r, mca_u, mca_x, mcat_i, mcat_l, mcat_r, mcat_u, mcat_x, mK_some, mK_none, va_rf_s, va_rf_n, lgc_eq, lgc_lt, lgc_gt, lgc_ge, lgc_le, mrd_104, mrd_105, mrd_106, mrd_107, true_and, and_true, and_self, false_and, and_false, true_or, or_true, false_or, or_false, not_true_eq_false, not_false_eq_true, mgb, mga, mgr, mN, reduceCtorEq, ↓reduceIte, eq_self, ge_iff_le, gt_iff_lt, Nat.reduceAdd, Nat.reduceMul, Nat.reduceSub, Nat.reduceLT, Nat.reduceGT, Nat.reduceEqDiff, Nat.reduceLeDiff, Nat.left_eq_add, Nat.add_eq_left, Nat.reduceMod, Nat.reduceDiv, Nat.succ_ne_self, g2, gS, ec, c', s5, s6, z', n2]
/-- a call -/
theorem s_90c (C : CLC h B n m D Sf) (gS : mg h St 9) (s0 : mh_i h St 0 = 4) {g par : Nat} {pl : Int32} (s2 : mh_i h St 2 = pl) (s14 : mh_i h St 14 = Int32.ofNat g) (hg : g < D.c) (hpar : D.H (6 * g + 1) = Int32.ofNat par) (hb : nN + par < 100000) (htw : ¬ D.H (6 * g + 2) = -1 → ∃ a, a < m ∧ D.H (6 * g + 2) = Int32.ofNat a) {v3 : Int32} : ∀ Q, mw (d + 1) 90 Q 93 [some (.ref 2), some (.ref St), some (.int (Int32.ofNat nN)), some (.int v3), none] [] h = if ¬ D.H (6 * g + 2) = -1 then Q none (ntY h 2 (Int32.ofNat (D.P (D.H (6 * g + 2)).toNatClampNeg))) else if 12 < nN + par then Q none (ntY h 10 pl) else Q none h := by
  intro Q
  have F := C.F
  have g2 := F.g 2 4 20 (by decide +kernel)
  have s1 := C.s.1
  have s1g := C.s.2.1
  obtain ⟨t1, t2, t3, t4, t5⟩ := C.t
  have hd := C.d
  have z4 : ((4 : Int32) = 4) = True := eq_true rfl
  have a2 := c_137L (d := d) C (f := g) (x := 2) (x' := 2) rfl hg (by decide)
  have a1 := c_137L (d := d) C (f := g) (x := 1) (x' := 1) rfl hg (by decide)
  rw [hpar] at a1
  have ea : Int32.ofNat nN + Int32.ofNat par = Int32.ofNat (nN + par) := nn_add
  have n10 := c_86 (d := d) (w := 10) (q := pl) F
  have le : (Int32.ofNat (nN + par) ≤ 12) = (nN + par ≤ 12) := nn_le (a := nN + par) (b := 12) (by omega) (by decide)
  by_cases c : D.H (6 * g + 2) = -1
  · rw [if_neg (fun z => z c)]
    have c' : (D.H (6 * g + 2) = -1) = True := eq_true c
    unfold ntY
    by_cases c12 : 12 < nN + par
    · rw [if_pos c12]
      have le' := le.trans (eq_false (by omega))
      clear C F htw
      simp (disch := omega) only [s_90_0, s_90_1, s_90_4, s_90_7, s_90_10, s_90_11, s_90_13, s_90_14, s_90_17, s_90_20, s_90_21, s_90_22, s_90_25, s_90_28, s_90_29, s_90_30, s_90_33, s_90_34, s_90_37, s_90_40, s_90_41, s_90_42, s_90_45, s_90_46, s_90_49, s_90_50, s_90_53, s_90_54, s_90_57, s_90_58, s_90_59, s_90_62, s_90_65, s_90_66, s_90_67, s_90_68, s_90_71, s_90_72, s_90_75, s_90_76, s_90_79, s_90_80, s_90_83, s_90_84, s_90_85, s_90_88, s_90_91, s_90_92, s_90_93, s_90_94, s_90_97, s_90_98, s_90_101, s_90_102, s_90_105, s_90_106, s_90_109, s_90_110, s_90_113, s_90_115, s_90_117, s_90_118, s_90_121, s_90_122, s_90_123, s_90_124, s_90_127, s_90_130, s_90_132, s_90_133, s_90_136, s_90_139, s_90_140, s_90_141, s_90_144, s_90_145, s_90_148, s_90_149, s_90_152, s_90_153, s_90_155, s_90_158, s_90_159, s_90_161, s_90_162, s_90_165, s_90_168, s_90_171, s_90_172, s_90_175, s_90_176, s_90_179, s_90_180, s_90_183, s_90_186, s_90_187, s_90_189, s_90_192, s_90_193, s_90_195, s_90_196, s_90_199, s_90_202, s_90_205, s_90_206, s_90_209, s_90_210, s_90_213, s_90_214, s_90_217, s_90_220, s_90_221, s_90_223, s_90_226, s_90_227, s_90_229, s_90_230, s_90_233, s_90_236, e_90, mv_i_1, mv_l_1, mv_a_1, mv_a_2, mv_a_3, mk2_n, mk2_i, mk2_l, mk2_a, mk2_u, mk2_x, mB_T, mB_F, mS_cons, mS_nil, mSB_T, mSB_F, mca_nil, mca_i, mca_l, mca_r, mca_u, mca_x, mcat_i, mcat_l, mcat_r, mcat_u, mcat_x, mK_some, mK_none, va_rf_s, va_rf_n, lgc_eq, lgc_lt, lgc_gt, lgc_ge, lgc_le, mrd_104, mrd_105, mrd_106, mrd_107, true_and, and_true, and_self, false_and, and_false, true_or, or_true, false_or, or_false, not_true_eq_false, not_false_eq_true, mgb, mga, mgr, mN, reduceCtorEq, ↓reduceIte, eq_self, ge_iff_le, gt_iff_lt, Nat.reduceAdd, Nat.reduceMul, Nat.reduceSub, Nat.reduceLT, Nat.reduceGT, Nat.reduceEqDiff, Nat.reduceLeDiff, Nat.left_eq_add, Nat.add_eq_left, Nat.reduceMod, Nat.reduceDiv, Nat.succ_ne_self, g2, gS, s0, z4, s1, s1g, s14, a2, c', a1, ea, le', s2, n10]
    · rw [if_neg c12]
      have le' := le.trans (eq_true (by omega))
      clear C F htw
      simp (disch := omega) only [s_90_0, s_90_1, s_90_4, s_90_7, s_90_10, s_90_11, s_90_13, s_90_14, s_90_17, s_90_20, s_90_21, s_90_22, s_90_25, s_90_28, s_90_29, s_90_30, s_90_33, s_90_34, s_90_37, s_90_40, s_90_41, s_90_42, s_90_45, s_90_46, s_90_49, s_90_50, s_90_53, s_90_54, s_90_57, s_90_58, s_90_59, s_90_62, s_90_65, s_90_66, s_90_67, s_90_68, s_90_71, s_90_72, s_90_75, s_90_76, s_90_79, s_90_80, s_90_83, s_90_84, s_90_85, s_90_88, s_90_91, s_90_92, s_90_93, s_90_94, s_90_97, s_90_98, s_90_101, s_90_102, s_90_105, s_90_106, s_90_109, s_90_110, s_90_113, s_90_115, s_90_117, s_90_118, s_90_121, s_90_122, s_90_123, s_90_124, s_90_127, s_90_130, s_90_132, s_90_133, s_90_136, s_90_139, s_90_140, s_90_141, s_90_144, s_90_145, s_90_148, s_90_149, s_90_152, s_90_153, s_90_155, s_90_158, s_90_159, s_90_161, s_90_162, s_90_165, s_90_168, s_90_171, s_90_172, s_90_175, s_90_176, s_90_179, s_90_180, s_90_183, s_90_186, s_90_187, s_90_189, s_90_192, s_90_193, s_90_195, s_90_196, s_90_199, s_90_202, s_90_205, s_90_206, s_90_209, s_90_210, s_90_213, s_90_214, s_90_217, s_90_220, s_90_221, s_90_223, s_90_226, s_90_227, s_90_229, s_90_230, s_90_233, s_90_236, e_90, mv_i_1, mv_l_1, mv_a_1, mv_a_2, mv_a_3, mk2_n, mk2_i, mk2_l, mk2_a, mk2_u, mk2_x, mB_T, mB_F, mS_cons, mS_nil, mSB_T, mSB_F, mca_nil, mca_i, mca_l, mca_r, mca_u, mca_x, mcat_i, mcat_l, mcat_r, mcat_u, mcat_x, mK_some, mK_none, va_rf_s, va_rf_n, lgc_eq, lgc_lt, lgc_gt, lgc_ge, lgc_le, mrd_104, mrd_105, mrd_106, mrd_107, true_and, and_true, and_self, false_and, and_false, true_or, or_true, false_or, or_false, not_true_eq_false, not_false_eq_true, mgb, mga, mgr, mN, reduceCtorEq, ↓reduceIte, eq_self, ge_iff_le, gt_iff_lt, Nat.reduceAdd, Nat.reduceMul, Nat.reduceSub, Nat.reduceLT, Nat.reduceGT, Nat.reduceEqDiff, Nat.reduceLeDiff, Nat.left_eq_add, Nat.add_eq_left, Nat.reduceMod, Nat.reduceDiv, Nat.succ_ne_self, g2, gS, s0, z4, s1, s1g, s14, a2, c', a1, ea, le']
  · rw [if_pos c]
    have c' : (D.H (6 * g + 2) = -1) = False := eq_false c
    obtain ⟨a, ha, ea'⟩ := htw c
    have ca : (D.H (6 * g + 2)).toNatClampNeg = a := by rw [ea']; exact nn_clamp (by omega)
    rw [ca]
    obtain ⟨p1, p2⟩ := C.p a ha
    have n2 := c_86 (d := d) (w := 2) (q := Int32.ofNat (D.P a)) F
    rw [ea'] at a2 c'
    unfold ntY
    clear C F htw
    simp (disch := omega) only [s_90_0, s_90_1, s_90_4, s_90_7, s_90_10, s_90_11, s_90_13, s_90_14, s_90_17, s_90_20, s_90_21, s_90_22, s_90_25, s_90_28, s_90_29, s_90_30, s_90_33, s_90_34, s_90_37, s_90_40, s_90_41, s_90_42, s_90_45, s_90_46, s_90_49, s_90_50, s_90_53, s_90_54, s_90_57, s_90_58, s_90_59, s_90_62, s_90_65, s_90_66, s_90_67, s_90_68, s_90_71, s_90_72, s_90_75, s_90_76, s_90_79, s_90_80, s_90_83, s_90_84, s_90_85, s_90_88, s_90_91, s_90_92, s_90_93, s_90_94, s_90_97, s_90_98, s_90_101, s_90_102, s_90_105, s_90_106, s_90_109, s_90_110, s_90_113, s_90_115, s_90_117, s_90_118, s_90_121, s_90_122, s_90_123, s_90_124, s_90_127, s_90_130, s_90_132, s_90_133, s_90_136, s_90_139, s_90_140, s_90_141, s_90_144, s_90_145, s_90_148, s_90_149, s_90_152, s_90_153, s_90_155, s_90_158, s_90_159, s_90_161, s_90_162, s_90_165, s_90_168, s_90_171, s_90_172, s_90_175, s_90_176, s_90_179, s_90_180, s_90_183, s_90_186, s_90_187, s_90_189, s_90_192, s_90_193, s_90_195, s_90_196, s_90_199, s_90_202, s_90_205, s_90_206, s_90_209, s_90_210, s_90_213, s_90_214, s_90_217, s_90_220, s_90_221, s_90_223, s_90_226, s_90_227, s_90_229, s_90_230, s_90_233, s_90_236, e_90, mv_i_1, mv_l_1, mv_a_1, mv_a_2, mv_a_3, mk2_n, mk2_i, mk2_l, mk2_a, mk2_u, mk2_x, mB_T, mB_F, mS_cons, mS_nil, mSB_T, mSB_F, mca_nil, mca_i, mca_l, mca_r, mca_u, mca_x, mcat_i, mcat_l, mcat_r, mcat_u, mcat_x, mK_some, mK_none, va_rf_s, va_rf_n, lgc_eq, lgc_lt, lgc_gt, lgc_ge, lgc_le, mrd_104, mrd_105, mrd_106, mrd_107, true_and, and_true, and_self, false_and, and_false, true_or, or_true, false_or, or_false, not_true_eq_false, not_false_eq_true, mgb, mga, mgr, mN, reduceCtorEq, ↓reduceIte, eq_self, ge_iff_le, gt_iff_lt, Nat.reduceAdd, Nat.reduceMul, Nat.reduceSub, Nat.reduceLT, Nat.reduceGT, Nat.reduceEqDiff, Nat.reduceLeDiff, Nat.left_eq_add, Nat.add_eq_left, Nat.reduceMod, Nat.reduceDiv, Nat.succ_ne_self, g2, gS, s0, z4, s1, s1g, s14, a2, c', t1, t2, t3, t4, t5, p1, n2, nn_mxT, nn_clamp]
/-- var -/
theorem s_90v (C : CLC h B n m D Sf) (gS : mg h St 9) (s0 : mh_i h St 0 = 1) {sz : Nat} {pl : Int32} (s2 : mh_i h St 2 = pl) (s9 : mh_i h St 9 = Int32.ofNat sz) (hz : sz < 100000) (h1 : nN < 100000) (h2 : aN < 100000) : ∀ Q, mw (d + 1) 90 Q 93 [some (.ref 2), some (.ref St), some (.int (Int32.ofNat nN)), some (.int (Int32.ofNat aN)), none] [] h = if sz = 0 then (if nN = 12 then Q none (ntY h 10 pl) else Q none h) else (if aN = 6 then Q none (ntY h 13 pl) else Q none h) := by
  intro Q
  have F := C.F
  have g2 := F.g 2 4 20 (by decide +kernel)
  have z4 : ((1 : Int32) = 4) = False := by decide
  have z1 : ((1 : Int32) = 1) = True := eq_true rfl
  have ez : (Int32.ofNat sz = 0) = (sz = 0) := nn_eq (a := sz) (b := 0) (by omega) (by decide)
  have el : (Int32.ofNat sz ≤ 0) = (sz ≤ 0) := nn_le (a := sz) (b := 0) (by omega) (by decide)
  have e12 : (Int32.ofNat nN = 12) = (nN = 12) := nn_eq (a := nN) (b := 12) (by omega) (by decide)
  have e6 : (Int32.ofNat aN = 6) = (aN = 6) := nn_eq (a := aN) (b := 6) (by omega) (by decide)
  have n10 := c_86 (d := d) (w := 10) (q := pl) F
  have n13 := c_86 (d := d) (w := 13) (q := pl) F
  unfold ntY
  clear C F
  by_cases c : sz = 0
  · rw [if_pos c]
    have c' := ez.trans (eq_true c)
    have cl := el.trans (eq_true (by omega))
    by_cases c2 : nN = 12
    · rw [if_pos c2]
      have c2' := e12.trans (eq_true c2)
      simp (disch := omega) only [s_90_0, s_90_1, s_90_4, s_90_7, s_90_10, s_90_11, s_90_13, s_90_14, s_90_17, s_90_20, s_90_21, s_90_22, s_90_25, s_90_28, s_90_29, s_90_30, s_90_33, s_90_34, s_90_37, s_90_40, s_90_41, s_90_42, s_90_45, s_90_46, s_90_49, s_90_50, s_90_53, s_90_54, s_90_57, s_90_58, s_90_59, s_90_62, s_90_65, s_90_66, s_90_67, s_90_68, s_90_71, s_90_72, s_90_75, s_90_76, s_90_79, s_90_80, s_90_83, s_90_84, s_90_85, s_90_88, s_90_91, s_90_92, s_90_93, s_90_94, s_90_97, s_90_98, s_90_101, s_90_102, s_90_105, s_90_106, s_90_109, s_90_110, s_90_113, s_90_115, s_90_117, s_90_118, s_90_121, s_90_122, s_90_123, s_90_124, s_90_127, s_90_130, s_90_132, s_90_133, s_90_136, s_90_139, s_90_140, s_90_141, s_90_144, s_90_145, s_90_148, s_90_149, s_90_152, s_90_153, s_90_155, s_90_158, s_90_159, s_90_161, s_90_162, s_90_165, s_90_168, s_90_171, s_90_172, s_90_175, s_90_176, s_90_179, s_90_180, s_90_183, s_90_186, s_90_187, s_90_189, s_90_192, s_90_193, s_90_195, s_90_196, s_90_199, s_90_202, s_90_205, s_90_206, s_90_209, s_90_210, s_90_213, s_90_214, s_90_217, s_90_220, s_90_221, s_90_223, s_90_226, s_90_227, s_90_229, s_90_230, s_90_233, s_90_236, e_90, mv_i_1, mv_l_1, mv_a_1, mv_a_2, mv_a_3, mk2_n, mk2_i, mk2_l, mk2_a, mk2_u, mk2_x, mB_T, mB_F, mS_cons, mS_nil, mSB_T, mSB_F, mca_nil, mca_i, mca_l, mca_r, mca_u, mca_x, mcat_i, mcat_l, mcat_r, mcat_u, mcat_x, mK_some, mK_none, va_rf_s, va_rf_n, lgc_eq, lgc_lt, lgc_gt, lgc_ge, lgc_le, mrd_104, mrd_105, mrd_106, mrd_107, true_and, and_true, and_self, false_and, and_false, true_or, or_true, false_or, or_false, not_true_eq_false, not_false_eq_true, mgb, mga, mgr, mN, reduceCtorEq, ↓reduceIte, eq_self, ge_iff_le, gt_iff_lt, Nat.reduceAdd, Nat.reduceMul, Nat.reduceSub, Nat.reduceLT, Nat.reduceGT, Nat.reduceEqDiff, Nat.reduceLeDiff, Nat.left_eq_add, Nat.add_eq_left, Nat.reduceMod, Nat.reduceDiv, Nat.succ_ne_self, g2, gS, s0, z4, z1, s9, c', c2', s2, n10]
    · rw [if_neg c2]
      have c2' := e12.trans (eq_false c2)
      simp (disch := omega) only [s_90_0, s_90_1, s_90_4, s_90_7, s_90_10, s_90_11, s_90_13, s_90_14, s_90_17, s_90_20, s_90_21, s_90_22, s_90_25, s_90_28, s_90_29, s_90_30, s_90_33, s_90_34, s_90_37, s_90_40, s_90_41, s_90_42, s_90_45, s_90_46, s_90_49, s_90_50, s_90_53, s_90_54, s_90_57, s_90_58, s_90_59, s_90_62, s_90_65, s_90_66, s_90_67, s_90_68, s_90_71, s_90_72, s_90_75, s_90_76, s_90_79, s_90_80, s_90_83, s_90_84, s_90_85, s_90_88, s_90_91, s_90_92, s_90_93, s_90_94, s_90_97, s_90_98, s_90_101, s_90_102, s_90_105, s_90_106, s_90_109, s_90_110, s_90_113, s_90_115, s_90_117, s_90_118, s_90_121, s_90_122, s_90_123, s_90_124, s_90_127, s_90_130, s_90_132, s_90_133, s_90_136, s_90_139, s_90_140, s_90_141, s_90_144, s_90_145, s_90_148, s_90_149, s_90_152, s_90_153, s_90_155, s_90_158, s_90_159, s_90_161, s_90_162, s_90_165, s_90_168, s_90_171, s_90_172, s_90_175, s_90_176, s_90_179, s_90_180, s_90_183, s_90_186, s_90_187, s_90_189, s_90_192, s_90_193, s_90_195, s_90_196, s_90_199, s_90_202, s_90_205, s_90_206, s_90_209, s_90_210, s_90_213, s_90_214, s_90_217, s_90_220, s_90_221, s_90_223, s_90_226, s_90_227, s_90_229, s_90_230, s_90_233, s_90_236, e_90, mv_i_1, mv_l_1, mv_a_1, mv_a_2, mv_a_3, mk2_n, mk2_i, mk2_l, mk2_a, mk2_u, mk2_x, mB_T, mB_F, mS_cons, mS_nil, mSB_T, mSB_F, mca_nil, mca_i, mca_l, mca_r, mca_u, mca_x, mcat_i, mcat_l, mcat_r, mcat_u, mcat_x, mK_some, mK_none, va_rf_s, va_rf_n, lgc_eq, lgc_lt, lgc_gt, lgc_ge, lgc_le, mrd_104, mrd_105, mrd_106, mrd_107, true_and, and_true, and_self, false_and, and_false, true_or, or_true, false_or, or_false, not_true_eq_false, not_false_eq_true, mgb, mga, mgr, mN, reduceCtorEq, ↓reduceIte, eq_self, ge_iff_le, gt_iff_lt, Nat.reduceAdd, Nat.reduceMul, Nat.reduceSub, Nat.reduceLT, Nat.reduceGT, Nat.reduceEqDiff, Nat.reduceLeDiff, Nat.left_eq_add, Nat.add_eq_left, Nat.reduceMod, Nat.reduceDiv, Nat.succ_ne_self, g2, gS, s0, z4, z1, s9, c', c2', cl]
  · rw [if_neg c]
    have c' := ez.trans (eq_false c)
    have cl := el.trans (eq_false (by omega))
    by_cases c2 : aN = 6
    · rw [if_pos c2]
      have c2' := e6.trans (eq_true c2)
      simp (disch := omega) only [s_90_0, s_90_1, s_90_4, s_90_7, s_90_10, s_90_11, s_90_13, s_90_14, s_90_17, s_90_20, s_90_21, s_90_22, s_90_25, s_90_28, s_90_29, s_90_30, s_90_33, s_90_34, s_90_37, s_90_40, s_90_41, s_90_42, s_90_45, s_90_46, s_90_49, s_90_50, s_90_53, s_90_54, s_90_57, s_90_58, s_90_59, s_90_62, s_90_65, s_90_66, s_90_67, s_90_68, s_90_71, s_90_72, s_90_75, s_90_76, s_90_79, s_90_80, s_90_83, s_90_84, s_90_85, s_90_88, s_90_91, s_90_92, s_90_93, s_90_94, s_90_97, s_90_98, s_90_101, s_90_102, s_90_105, s_90_106, s_90_109, s_90_110, s_90_113, s_90_115, s_90_117, s_90_118, s_90_121, s_90_122, s_90_123, s_90_124, s_90_127, s_90_130, s_90_132, s_90_133, s_90_136, s_90_139, s_90_140, s_90_141, s_90_144, s_90_145, s_90_148, s_90_149, s_90_152, s_90_153, s_90_155, s_90_158, s_90_159, s_90_161, s_90_162, s_90_165, s_90_168, s_90_171, s_90_172, s_90_175, s_90_176, s_90_179, s_90_180, s_90_183, s_90_186, s_90_187, s_90_189, s_90_192, s_90_193, s_90_195, s_90_196, s_90_199, s_90_202, s_90_205, s_90_206, s_90_209, s_90_210, s_90_213, s_90_214, s_90_217, s_90_220, s_90_221, s_90_223, s_90_226, s_90_227, s_90_229, s_90_230, s_90_233, s_90_236, e_90, mv_i_1, mv_l_1, mv_a_1, mv_a_2, mv_a_3, mk2_n, mk2_i, mk2_l, mk2_a, mk2_u, mk2_x, mB_T, mB_F, mS_cons, mS_nil, mSB_T, mSB_F, mca_nil, mca_i, mca_l, mca_r, mca_u, mca_x, mcat_i, mcat_l, mcat_r, mcat_u, mcat_x, mK_some, mK_none, va_rf_s, va_rf_n, lgc_eq, lgc_lt, lgc_gt, lgc_ge, lgc_le, mrd_104, mrd_105, mrd_106, mrd_107, true_and, and_true, and_self, false_and, and_false, true_or, or_true, false_or, or_false, not_true_eq_false, not_false_eq_true, mgb, mga, mgr, mN, reduceCtorEq, ↓reduceIte, eq_self, ge_iff_le, gt_iff_lt, Nat.reduceAdd, Nat.reduceMul, Nat.reduceSub, Nat.reduceLT, Nat.reduceGT, Nat.reduceEqDiff, Nat.reduceLeDiff, Nat.left_eq_add, Nat.add_eq_left, Nat.reduceMod, Nat.reduceDiv, Nat.succ_ne_self, g2, gS, s0, z4, z1, s9, c', cl, c2', s2, n13]
    · rw [if_neg c2]
      have c2' := e6.trans (eq_false c2)
      simp (disch := omega) only [s_90_0, s_90_1, s_90_4, s_90_7, s_90_10, s_90_11, s_90_13, s_90_14, s_90_17, s_90_20, s_90_21, s_90_22, s_90_25, s_90_28, s_90_29, s_90_30, s_90_33, s_90_34, s_90_37, s_90_40, s_90_41, s_90_42, s_90_45, s_90_46, s_90_49, s_90_50, s_90_53, s_90_54, s_90_57, s_90_58, s_90_59, s_90_62, s_90_65, s_90_66, s_90_67, s_90_68, s_90_71, s_90_72, s_90_75, s_90_76, s_90_79, s_90_80, s_90_83, s_90_84, s_90_85, s_90_88, s_90_91, s_90_92, s_90_93, s_90_94, s_90_97, s_90_98, s_90_101, s_90_102, s_90_105, s_90_106, s_90_109, s_90_110, s_90_113, s_90_115, s_90_117, s_90_118, s_90_121, s_90_122, s_90_123, s_90_124, s_90_127, s_90_130, s_90_132, s_90_133, s_90_136, s_90_139, s_90_140, s_90_141, s_90_144, s_90_145, s_90_148, s_90_149, s_90_152, s_90_153, s_90_155, s_90_158, s_90_159, s_90_161, s_90_162, s_90_165, s_90_168, s_90_171, s_90_172, s_90_175, s_90_176, s_90_179, s_90_180, s_90_183, s_90_186, s_90_187, s_90_189, s_90_192, s_90_193, s_90_195, s_90_196, s_90_199, s_90_202, s_90_205, s_90_206, s_90_209, s_90_210, s_90_213, s_90_214, s_90_217, s_90_220, s_90_221, s_90_223, s_90_226, s_90_227, s_90_229, s_90_230, s_90_233, s_90_236, e_90, mv_i_1, mv_l_1, mv_a_1, mv_a_2, mv_a_3, mk2_n, mk2_i, mk2_l, mk2_a, mk2_u, mk2_x, mB_T, mB_F, mS_cons, mS_nil, mSB_T, mSB_F, mca_nil, mca_i, mca_l, mca_r, mca_u, mca_x, mcat_i, mcat_l, mcat_r, mcat_u, mcat_x, mK_some, mK_none, va_rf_s, va_rf_n, lgc_eq, lgc_lt, lgc_gt, lgc_ge, lgc_le, mrd_104, mrd_105, mrd_106, mrd_107, true_and, and_true, and_self, false_and, and_false, true_or, or_true, false_or, or_false, not_true_eq_false, not_false_eq_true, mgb, mga, mgr, mN, reduceCtorEq, ↓reduceIte, eq_self, ge_iff_le, gt_iff_lt, Nat.reduceAdd, Nat.reduceMul, Nat.reduceSub, Nat.reduceLT, Nat.reduceGT, Nat.reduceEqDiff, Nat.reduceLeDiff, Nat.left_eq_add, Nat.add_eq_left, Nat.reduceMod, Nat.reduceDiv, Nat.succ_ne_self, g2, gS, s0, z4, z1, s9, c', cl, c2']
theorem s_90o (C : CLC h B n m D Sf) (gS : mg h St 9) (s0 : mh_i h St 0 = Int32.ofNat kd) (hk : kd < 100) (n4 : kd ≠ 4) (n1 : kd ≠ 1) {v2 v3 : Int32} : ∀ Q, mw (d + 1) 90 Q 93 [some (.ref 2), some (.ref St), some (.int v2), some (.int v3), none] [] h = Q none h := by
  intro Q
  have z4 : (Int32.ofNat kd = 4) = False := (nn_eq (a := kd) (b := 4) (by omega) (by decide)).trans (eq_false n4)
  have z1 : (Int32.ofNat kd = 1) = False := (nn_eq (a := kd) (b := 1) (by omega) (by decide)).trans (eq_false n1)
  clear C
  simp (disch := omega) only [s_90_0, s_90_1, s_90_4, s_90_7, s_90_10, s_90_11, s_90_13, s_90_14, s_90_17, s_90_20, s_90_21, s_90_22, s_90_25, s_90_28, s_90_29, s_90_30, s_90_33, s_90_34, s_90_37, s_90_40, s_90_41, s_90_42, s_90_45, s_90_46, s_90_49, s_90_50, s_90_53, s_90_54, s_90_57, s_90_58, s_90_59, s_90_62, s_90_65, s_90_66, s_90_67, s_90_68, s_90_71, s_90_72, s_90_75, s_90_76, s_90_79, s_90_80, s_90_83, s_90_84, s_90_85, s_90_88, s_90_91, s_90_92, s_90_93, s_90_94, s_90_97, s_90_98, s_90_101, s_90_102, s_90_105, s_90_106, s_90_109, s_90_110, s_90_113, s_90_115, s_90_117, s_90_118, s_90_121, s_90_122, s_90_123, s_90_124, s_90_127, s_90_130, s_90_132, s_90_133, s_90_136, s_90_139, s_90_140, s_90_141, s_90_144, s_90_145, s_90_148, s_90_149, s_90_152, s_90_153, s_90_155, s_90_158, s_90_159, s_90_161, s_90_162, s_90_165, s_90_168, s_90_171, s_90_172, s_90_175, s_90_176, s_90_179, s_90_180, s_90_183, s_90_186, s_90_187, s_90_189, s_90_192, s_90_193, s_90_195, s_90_196, s_90_199, s_90_202, s_90_205, s_90_206, s_90_209, s_90_210, s_90_213, s_90_214, s_90_217, s_90_220, s_90_221, s_90_223, s_90_226, s_90_227, s_90_229, s_90_230, s_90_233, s_90_236, e_90, mv_i_1, mv_l_1, mv_a_1, mv_a_2, mv_a_3, mk2_n, mk2_i, mk2_l, mk2_a, mk2_u, mk2_x, mB_T, mB_F, mS_cons, mS_nil, mSB_T, mSB_F, mca_nil, mca_i, mca_l, mca_r, mca_u, mca_x, mcat_i, mcat_l, mcat_r, mcat_u, mcat_x, mK_some, mK_none, va_rf_s, va_rf_n, lgc_eq, lgc_lt, lgc_gt, lgc_ge, lgc_le, mrd_104, mrd_105, mrd_106, mrd_107, true_and, and_true, and_self, false_and, and_false, true_or, or_true, false_or, or_false, not_true_eq_false, not_false_eq_true, mgb, mga, mgr, mN, reduceCtorEq, ↓reduceIte, eq_self, ge_iff_le, gt_iff_lt, Nat.reduceAdd, Nat.reduceMul, Nat.reduceSub, Nat.reduceLT, Nat.reduceGT, Nat.reduceEqDiff, Nat.reduceLeDiff, Nat.left_eq_add, Nat.add_eq_left, Nat.reduceMod, Nat.reduceDiv, Nat.succ_ne_self, gS, s0, z4, z1]
end CLl
