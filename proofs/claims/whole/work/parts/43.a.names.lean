set_option maxRecDepth 100000
/-! THE REFERENCE'S STATEMENTS: what stands, names -/
def o_arr (x : Nat) : Option ab → Option ab
  | none => none
  | some A => some (a_arr x A)
abbrev EV (h : mh_H) (T : Nat) (sN : Int → Prop) (en : Int → Nat) : Prop := (mh_i h 115 18 = Int32.ofNat T) ∧ (T ≤ 64) ∧ (∀ v, sN v → ∃ i, i < T ∧ (mh_i h 121 i).toInt = v ∧ (∀ j, i < j → j < T → (mh_i h 121 j).toInt ≠ v) ∧ mh_i h 122 i = Int32.ofNat (en v))
theorem EV.t {h : mh_H} {T : Nat} {sN : Int → Prop} {en : Int → Nat} (q : EV h T sN en) : mh_i h 115 18 = Int32.ofNat T := q.1
theorem EV.t64 {h : mh_H} {T : Nat} {sN : Int → Prop} {en : Int → Nat} (q : EV h T sN en) : T ≤ 64 := q.2.1
theorem EV.e {h : mh_H} {T : Nat} {sN : Int → Prop} {en : Int → Nat} (q : EV h T sN en) : ∀ v, sN v → ∃ i, i < T ∧ (mh_i h 121 i).toInt = v ∧ (∀ j, i < j → j < T → (mh_i h 121 j).toInt ≠ v) ∧ mh_i h 122 i = Int32.ofNat (en v) := q.2.2
abbrev RZ (h : mh_H) : Prop := (RF h) ∧ (mh_r h 115 0 = some 93) ∧ (mh_r h 115 1 = some 95) ∧ (mh_r h 115 2 = some 97) ∧ (∃ PQ PS PU PF PL PH lP, PR h PQ PS PU PF PL PH lP) ∧ (KS h) ∧ (∀ i j a, mh_r h 119 i = some a → mh_r h 119 j = some a → i = j)
theorem RZ.F {h : mh_H} (q : RZ h) : RF h := q.1
theorem RZ.r0 {h : mh_H} (q : RZ h) : mh_r h 115 0 = some 93 := q.2.1
theorem RZ.r1 {h : mh_H} (q : RZ h) : mh_r h 115 1 = some 95 := q.2.2.1
theorem RZ.r2 {h : mh_H} (q : RZ h) : mh_r h 115 2 = some 97 := q.2.2.2.1
theorem RZ.p {h : mh_H} (q : RZ h) : ∃ PQ PS PU PF PL PH lP, PR h PQ PS PU PF PL PH lP := q.2.2.2.2.1
theorem RZ.s {h : mh_H} (q : RZ h) : KS h := q.2.2.2.2.2.1
theorem RZ.i {h : mh_H} (q : RZ h) : ∀ i j a, mh_r h 119 i = some a → mh_r h 119 j = some a → i = j := q.2.2.2.2.2.2
section RZs
variable {d : Nat} {h h1 : mh_H} {T o a : Nat} {sN : Int → Prop} {en : Int → Nat} {s : Option ab}
theorem RZ.j (Z : RZ h) (V : EV h T sN en) : RJ h T sN en := ⟨⟨Z.F, Z.r0, Z.r1, Z.r2, V.t, V.t64, V.e⟩, Z.p, Z.s, Z.i⟩
theorem RJ_z (J : RJ h T sN en) : RZ h := ⟨J.a.F, J.a.r0, J.a.r1, J.a.r2, J.p, J.s, J.i⟩
theorem RJ_v (J : RJ h T sN en) : EV h T sN en := ⟨J.a.t, J.a.t64, J.a.e⟩
/-- Known.addArray, where it is nothing too -/
theorem k_289x {x : Nat} (r : RK h o s) (f2 : mh_i h o 2 = Int32.ofNat a) (ha : a < 6) : ∃ h', fq (kW o) h h' ∧ RK h' o (o_arr x s) ∧ mh_i h' o 2 = Int32.ofNat (a + 1) ∧ ∀ Q, mcall d 289 [.ref o, .int (Int32.ofNat x)] h Q = Q none h' := by
  cases s with
  | some A =>
    have ea : A.a = a := by
      have z := KM.a r
      rw [f2] at z
      have a6 := KM.a6 r
      have := (nn_eq (a := a) (b := A.a) (by omega) (by omega)).mp z
      omega
    obtain ⟨h', f, r', e⟩ := k_289 (d := d) (x := x) r (by omega)
    exact ⟨h', f, r', by rw [KM.a (A := a_arr x A) r']; show Int32.ofNat (A.a + 1) = _; rw [ea], e⟩
  | none =>
    have r : KN h o := r
    refine ⟨_, fq_t (fq_t (fq_t (fq_J kW2) (fq_J kW3)) (fq_si kW4)) (fq_si kW0), ⟨r.s, ?_, ?_, ?_⟩, by rw [hi_si, if_pos ⟨rfl, rfl⟩], fun Q => c_289 r.s f2 ha⟩
    · simp [hi_si, hi_J, r.z]
    · obtain ⟨n, n1, n2⟩ := r.n
      exact ⟨n, n1, by simp [hi_si, hi_J, n2]⟩
    · exact ⟨a + 1, by omega, by rw [hi_si, if_pos ⟨rfl, rfl⟩]⟩
/-- names are added -/
def adH (h : mh_H) (T k c v z : Nat) : mh_H := mh_si (mh_si (mh_si (mh_si (mh_si h 121 T (mh_i h 95 k)) 123 T (Int32.ofNat z)) 115 c (Int32.ofNat (v + 1))) 122 T (Int32.ofNat v)) 115 18 (Int32.ofNat (T + 1))
theorem ad_i {k c v z b j : Nat} (w : ¬ ((b = 121 ∨ b = 122 ∨ b = 123) ∧ j = T) ∧ ¬ (b = 115 ∧ (j = c ∨ j = 18))) : mh_i (adH h T k c v z) b j = mh_i h b j := by
  unfold adH
  rw [hi_si, if_neg (by omega), hi_si, if_neg (by omega), hi_si, if_neg (by omega), hi_si, if_neg (by omega), hi_si, if_neg (by omega)]
theorem ad_V (V : EV h T sN en) (hT : T < 64) {k c v z : Nat} (hc : c = 20 ∨ c = 21) {w : Int} (hw : (mh_i h 95 k).toInt = w) : EV (adH h T k c v z) (T + 1) (fun y => y = w ∨ sN y) (fun y => if y = w then v else en y) := by
  have a1 : mh_i (adH h T k c v z) 121 T = mh_i h 95 k := by
    unfold adH
    rw [hi_si, if_neg (by omega), hi_si, if_neg (by omega), hi_si, if_neg (by omega), hi_si, if_neg (by omega), hi_si, if_pos ⟨rfl, rfl⟩]
  have a2 : mh_i (adH h T k c v z) 122 T = Int32.ofNat v := by
    unfold adH
    rw [hi_si, if_neg (by omega), hi_si, if_pos ⟨rfl, rfl⟩]
  refine ⟨by unfold adH; rw [hi_si, if_pos ⟨rfl, rfl⟩], by omega, fun y hy => ?_⟩
  by_cases c1 : y = w
  · refine ⟨T, by omega, by rw [a1, hw, c1], fun j j1 j2 => by omega, by show _ = Int32.ofNat (if y = w then v else en y); rw [a2, if_pos c1]⟩
  · rcases hy with hy | hy
    · exact absurd hy c1
    · obtain ⟨i, q1, q2, q3, q4⟩ := V.e y hy
      refine ⟨i, by omega, by rw [ad_i ⟨by omega, by omega⟩]; exact q2, fun j j1 j2 => ?_, by show _ = Int32.ofNat (if y = w then v else en y); rw [ad_i ⟨by omega, by omega⟩, if_neg c1]; exact q4⟩
      by_cases c2 : j = T
      · rw [c2, a1, hw]; exact fun z => c1 z.symm
      · rw [ad_i ⟨by omega, by omega⟩]; exact q3 j j1 (by omega)
theorem u_230 (Z : RZ h) (V : EV h T sN en) (hT : T < 64) {k v : Nat} (hk : k < 26000) (ar : Bool) (hv : mh_i h 115 (if ar = true then 21 else 20) = Int32.ofNat v) : ∀ Q, mcall d 230 [.ref 115, .int (Int32.ofNat k), .int (kb ar)] h Q = Q none (adH h T k (if ar = true then 21 else 20) v (if ar = true then 1 else 0)) := fun Q => by
  have F := Z.F
  have g := F.g 115 12 38 (by decide +kernel)
  have t15 := F.f 115 15 121 (by decide +kernel)
  have t16 := F.f 115 16 122 (by decide +kernel)
  have t17 := F.f 115 17 123 (by decide +kernel)
  have g121 := F.g 121 100 64 (by decide +kernel)
  have l121 := F.l 121 100 64 (by decide +kernel)
  have g122 := F.g 122 100 64 (by decide +kernel)
  have l122 := F.l 122 100 64 (by decide +kernel)
  have g123 := F.g 123 103 64 (by decide +kernel)
  have g123a := g123.1
  have g123b := g123.2
  have l123 := F.l 123 103 64 (by decide +kernel)
  have g95 := F.g 95 100 26000 (by decide +kernel)
  have l95 := F.l 95 100 26000 (by decide +kernel)
  have r1 := Z.r1
  have t := V.t
  have ei : ∀ k, Int32.ofNat k + 1 = Int32.ofNat (k + 1) := fun k => nn_add (a := k) (b := 1)
  have e10 : ((1 : Int32) = 0) = False := by decide
  have e00 : ((0 : Int32) = 0) = True := by decide
  have b1 : vp_nar .boolean 1 = (1 : Int32) := by decide
  have b0 : vp_nar .boolean 0 = (0 : Int32) := by decide
  have n102 : ((103 : Nat) = 102) = False := by decide
  have k1' : kb true = 1 := rfl
  have k0' : kb false = 0 := rfl
  have z1 : Int32.ofNat 1 = (1 : Int32) := rfl
  have z0 : Int32.ofNat 0 = (0 : Int32) := rfl
  clear Z V F
  unfold adH
  cases ar with
  | true =>
    rw [if_pos rfl] at hv
    rw [if_pos rfl, if_pos rfl, k1', z1]
    simp (disch := omega) only [s_230_0, s_230_1, s_230_4, s_230_5, s_230_8, s_230_9, s_230_12, s_230_13, s_230_14, s_230_15, s_230_16, s_230_19, s_230_20, s_230_23, s_230_24, s_230_25, s_230_26, s_230_29, s_230_30, s_230_33, s_230_34, s_230_37, s_230_38, s_230_39, s_230_42, s_230_43, s_230_44, s_230_45, s_230_48, s_230_51, s_230_52, s_230_53, s_230_56, s_230_57, s_230_58, s_230_59, s_230_62, s_230_63, s_230_64, s_230_65, s_230_68, s_230_69, s_230_70, s_230_73, e_230, mv_i_1, mv_l_1, mv_a_1, mv_a_2, mv_a_3, mk2_n, mk2_i, mk2_l, mk2_a, mk2_u, mk2_x, mB_T, mB_F, mS_cons, mS_nil, mSB_T, mSB_F, mca_nil, mca_i, mca_l, mca_r, mca_u, mca_x, mcat_i, mcat_l, mcat_r, mcat_u, mcat_x, mK_some, mK_none, va_rf_s, va_rf_n, lgc_eq, lgc_lt, lgc_gt, lgc_ge, lgc_le, mrd_104, mrd_105, mrd_106, mrd_107, true_and, and_true, and_self, false_and, and_false, true_or, or_true, false_or, or_false, not_true_eq_false, not_false_eq_true, mgb, mga, mgr, mN, reduceCtorEq, ↓reduceIte, eq_self, ge_iff_le, gt_iff_lt, hk_si, hk_sj, hk_sr, hl_si, hl_sj, hl_sr, hn_si, hn_sj, hn_sr, hs_si, hs_sj, hs_sr, hi_sj, hi_sr, hj_si, hj_sr, hr_si, hr_sj, hi_si, hj_sj, hr_sr, mg_si, mg_sj, mg_sr, Nat.reduceAdd, Nat.reduceMul, Nat.reduceSub, Nat.reduceLT, Nat.reduceGT, Nat.reduceEqDiff, Nat.reduceLeDiff, Nat.left_eq_add, Nat.add_eq_left, Nat.reduceMod, Nat.reduceDiv, Nat.succ_ne_self, g, t15, t16, t17, g121, l121, g122, l122, g123, g123a, g123b, l123, g95, l95, r1, t, hv, ei, e10, mna, b1, n102, nn_mxT, nn_clamp]
  | false =>
    rw [if_neg (by decide)] at hv
    rw [if_neg (by decide), if_neg (by decide), k0', z0]
    simp (disch := omega) only [s_230_0, s_230_1, s_230_4, s_230_5, s_230_8, s_230_9, s_230_12, s_230_13, s_230_14, s_230_15, s_230_16, s_230_19, s_230_20, s_230_23, s_230_24, s_230_25, s_230_26, s_230_29, s_230_30, s_230_33, s_230_34, s_230_37, s_230_38, s_230_39, s_230_42, s_230_43, s_230_44, s_230_45, s_230_48, s_230_51, s_230_52, s_230_53, s_230_56, s_230_57, s_230_58, s_230_59, s_230_62, s_230_63, s_230_64, s_230_65, s_230_68, s_230_69, s_230_70, s_230_73, e_230, mv_i_1, mv_l_1, mv_a_1, mv_a_2, mv_a_3, mk2_n, mk2_i, mk2_l, mk2_a, mk2_u, mk2_x, mB_T, mB_F, mS_cons, mS_nil, mSB_T, mSB_F, mca_nil, mca_i, mca_l, mca_r, mca_u, mca_x, mcat_i, mcat_l, mcat_r, mcat_u, mcat_x, mK_some, mK_none, va_rf_s, va_rf_n, lgc_eq, lgc_lt, lgc_gt, lgc_ge, lgc_le, mrd_104, mrd_105, mrd_106, mrd_107, true_and, and_true, and_self, false_and, and_false, true_or, or_true, false_or, or_false, not_true_eq_false, not_false_eq_true, mgb, mga, mgr, mN, reduceCtorEq, ↓reduceIte, eq_self, ge_iff_le, gt_iff_lt, hk_si, hk_sj, hk_sr, hl_si, hl_sj, hl_sr, hn_si, hn_sj, hn_sr, hs_si, hs_sj, hs_sr, hi_sj, hi_sr, hj_si, hj_sr, hr_si, hr_sj, hi_si, hj_sj, hr_sr, mg_si, mg_sj, mg_sr, Nat.reduceAdd, Nat.reduceMul, Nat.reduceSub, Nat.reduceLT, Nat.reduceGT, Nat.reduceEqDiff, Nat.reduceLeDiff, Nat.left_eq_add, Nat.add_eq_left, Nat.reduceMod, Nat.reduceDiv, Nat.succ_ne_self, g, t15, t16, t17, g121, l121, g122, l122, g123, g123a, g123b, l123, g95, l95, r1, t, hv, ei, e00, mna, b0, n102, nn_mxT, nn_clamp]
end RZs
