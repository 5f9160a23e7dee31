set_option maxRecDepth 100000
/-! the reference's lookAll IS lwT -/
/-- a row of nodes in the reference's rows, names by their numbers, places, what it is part of -/
def trR (h : mh_H) (nm : Nat → Nat) : tr → Nat → Int32 → Prop
  | .leaf _, _, _ => True
  | .branch n cs r, k, o => (mh_i h 93 k = Int32.ofNat (tK n) ∧ mh_i h 94 k = Int32.ofNat (tP n) ∧ (tK n = 13 → mh_i h 95 k = Int32.ofNat (nm (tV n).toNat)) ∧ (tK n ≠ 13 → (mh_i h 95 k).toInt = tV n) ∧ mh_i h 96 k = o ∧ mh_i h 97 k = Int32.ofNat (1 + ts cs)) ∧ trR h nm cs (k + 1) (Int32.ofNat k) ∧ trR h nm r (k + 1 + ts cs) o
/-- from k to k1, or something is wrong -/
def LAk (d : Nat) (h : mh_H) (fr k : Nat) (x3 : Option Value) (w : Nat × Nat) (k1 : Nat) : Prop := ∃ x, ∀ Q, mw d 342 Q 2 [some (.ref 81), some (.int (Int32.ofNat fr)), some (.int (Int32.ofNat k)), x3] [] h = if w.1 = 0 then mw d 342 Q 2 [some (.ref 81), some (.int (Int32.ofNat fr)), some (.int (Int32.ofNat k1)), x] [] h else Q (some (.int 0)) (wrH h (Int32.ofNat w.1) (Int32.ofNat w.2))
section LBs
variable {d : Nat} {h : mh_H} {sp : Nat → Nat → Bool} {nm : Nat → Nat} {X : lcx} {L : cen} {b id bs v k fr sz kk k1 k2 m pk : Nat} {x3 : Option Value} {wh : Int32} {K : Nat → Int32} {a c : Nat × Nat}
theorem LA_t (A : LAk d h fr k x3 a k1) (B : ∀ x, LAk d h fr k1 x c k2) : LAk d h fr k x3 (fw a c) k2 := by
  obtain ⟨x, hx⟩ := A
  obtain ⟨y, hy⟩ := B x
  refine ⟨y, fun Q => ?_⟩
  rw [hx Q]
  unfold fw
  by_cases q : a.1 = 0
  · rw [if_pos q, if_pos q]; exact hy Q
  · rw [if_neg q, if_neg q, if_neg q]
theorem LA_r : LAk d h fr k x3 (0, 0) k := ⟨x3, fun Q => by rw [if_pos (show ((0, 0) : Nat × Nat).1 = 0 from rfl)]⟩
theorem LA_c (A : LAk d h fr k x3 a k1) (e : k1 = k2) : LAk d h fr k x3 a k2 := e ▸ A
theorem isA_n (hp : pk < 26000) (hk : k < 26000) (h1 : pk < k) (nc : ¬ (mh_i h 93 pk = 14 ∧ pk + 1 = k)) : isA h k (Int32.ofNat pk) = false := by
  refine decide_eq_false (fun z => nc ⟨?_, ?_⟩)
  · have := z.2.1
    rw [nn_clamp (by omega)] at this
    exact this
  · have e := z.2.2
    rw [show Int32.ofNat k - 1 = Int32.ofNat (k - 1) from nn_sub (a := k) (b := 1) (by omega)] at e
    have := (nn_eq (a := pk) (b := k - 1) (by omega) (by omega)) ▸ e
    omega
theorem isA_y (hk : k < 26000) (e : mh_i h 93 k = 14) : isA h (k + 1) (Int32.ofNat k) = true := by
  refine decide_eq_true ⟨?_, ?_, ?_⟩
  · rw [nn_neg (by omega)]; exact id
  · rw [nn_clamp (by omega)]; exact e
  · exact (nn_sub (a := k + 1) (b := 1) (by omega)).symm
theorem mx_p (hp : pk < 26000) : ¬ Int32.ofNat pk < 0 → mx (Int32.ofNat pk) 26000 := fun _ => by rw [nn_mxT (by omega) (by omega)]; trivial
/-- a NAME -/
theorem la_13 (R : REN h nm X L b id bs) (HQ : ∀ v, v < m → K v = 2 → nm v < 100000 ∧ ∀ a z, (a, z) ∈ L → (nm a = nm v ↔ sp a v = true)) (e0 : mh_i h 81 47 = 0) (hf : fr < 26000) (hs : mh_i h 97 fr = Int32.ofNat sz) (hsz : fr + sz ≤ 25000) (hk : k < fr + sz) (hp : pk < 26000) {n : Nat} {ar : Bool} (i1 : isA h k (Int32.ofNat pk) = ar) (t1 : mh_i h 93 k = Int32.ofNat (tK n)) (t2 : mh_i h 94 k = Int32.ofNat (tP n)) (t3 : tK n = 13 → mh_i h 95 k = Int32.ofNat (nm (tV n).toNat)) (t5 : mh_i h 96 k = Int32.ofNat pk) (k13 : tK n = 13) (tv : ∃ a : Nat, a < m ∧ tV n = (a : Int) ∧ K a = 2) : LAk (d + 2) h fr k x3 (lkW (loE sp L) (tV n) ar, tP n) (k + 1) := by
  obtain ⟨v, v1, v2, v3⟩ := tv
  obtain ⟨q1, q2⟩ := HQ v v1 v3
  have ev : mh_i h 95 k = Int32.ofNat (nm v) := by rw [t3 k13, v2]; rfl
  refine ⟨some (.int (kb ar)), fun Q => ?_⟩
  rw [a_342 (d := d) R.F hf hs (by omega) hk t5 (mx_p hp) Q, i1, n_342 (d := d) (sp := sp) (v := v) R (by omega) (by rw [t1, k13]; rfl) ev q1 q2 e0 Q, v2, t2]
theorem la_o (F : RF h) (e0 : mh_i h 81 47 = 0) (hf : fr < 26000) (hs : mh_i h 97 fr = Int32.ofNat sz) (hsz : fr + sz ≤ 25000) (hk : k < fr + sz) (hp : pk < 26000) {n : Nat} {cs : tr} (t1 : mh_i h 93 k = Int32.ofNat (tK n)) (t5 : mh_i h 96 k = Int32.ofNat pk) (t6 : mh_i h 97 k = Int32.ofNat (1 + ts cs)) (hc : ts cs ≤ 25000) (k13 : tK n ≠ 13) (nw : ¬ (tK n = 16 ∧ 1 < 1 + ts cs ∧ mh_i h 95 (k + 2) < mh_i h 95 (k + 1))) : LAk (d + 2) h fr k x3 (0, 0) (k + 1) := by
  have k64 := tK_b (x := n)
  refine ⟨some (.int (kb (isA h k (Int32.ofNat pk)))), fun Q => ?_⟩
  rw [a_342 (d := d) F hf hs (by omega) hk t5 (mx_p hp) Q, o_342 (d := d) F (by omega) k64 t1 k13 e0 t6 (by omega) Q, if_neg nw, if_pos (show ((0, 0) : Nat × Nat).1 = 0 from rfl)]
theorem la_8 (F : RF h) (e0 : mh_i h 81 47 = 0) (hf : fr < 26000) (hs : mh_i h 97 fr = Int32.ofNat sz) (hsz : fr + sz ≤ 25000) (hk : k < fr + sz) (hp : pk < 26000) {n p : Nat} {cs : tr} (t1 : mh_i h 93 k = Int32.ofNat (tK n)) (t5 : mh_i h 96 k = Int32.ofNat pk) (t6 : mh_i h 97 k = Int32.ofNat (1 + ts cs)) (hc : ts cs ≤ 25000) (k13 : tK n ≠ 13) (nw : tK n = 16 ∧ 1 < 1 + ts cs ∧ mh_i h 95 (k + 2) < mh_i h 95 (k + 1)) (t2 : mh_i h 94 (k + 1) = Int32.ofNat p) : LAk (d + 2) h fr k x3 (8, p) k1 := by
  have k64 := tK_b (x := n)
  refine ⟨none, fun Q => ?_⟩
  rw [a_342 (d := d) F hf hs (by omega) hk t5 (mx_p hp) Q, o_342 (d := d) F (by omega) k64 t1 k13 e0 t6 (by omega) Q, if_pos nw, if_neg (show ¬ ((8, p) : Nat × Nat).1 = 0 from by show ¬ 8 = 0; decide), t2]
  rfl
theorem la_342 (R : REN h nm X L b id bs) (HQ : ∀ v, v < m → K v = 2 → nm v < 100000 ∧ ∀ a z, (a, z) ∈ L → (nm a = nm v ↔ sp a v = true)) (e0 : mh_i h 81 47 = 0) (hf : fr < 26000) (hs : mh_i h 97 fr = Int32.ofNat sz) (hsz : fr + sz ≤ 25000) : ∀ z t k pk x3, ts t ≤ z → trR h nm t k (Int32.ofNat pk) → tvT K m t → k + ts t ≤ fr + sz → pk < k → ¬ (mh_i h 93 pk = 14 ∧ pk + 1 = k) → LAk (d + 2) h fr k x3 (lwT (loE sp L) t) (k + ts t) := by
  have F := R.F
  intro z
  induction z with
  | zero =>
    intro t k pk x3 hz
    cases t with
    | leaf _ => exact fun _ _ _ _ _ => LA_r
    | branch n cs r => rw [ts_B] at hz; omega
  | succ z ih =>
    intro t k pk x3 hz T tv hk hpk nc
    cases t with
    | leaf _ => exact LA_r
    | branch n cs r =>
      rw [ts_B] at hz hk
      obtain ⟨⟨t1, t2, t3, t4, t5, t6⟩, T1, T2⟩ := T
      obtain ⟨⟨v13, v14, v16⟩, v2, v3⟩ := tv
      have rest : ∀ x, LAk (d + 2) h fr (k + 1 + ts cs) x (lwT (loE sp L) r) (k + 1 + ts cs + ts r) := fun x => ih r (k + 1 + ts cs) pk x (by omega) T2 v3 (by omega) (by omega) (fun q => by omega)
      have iA := isA_n (h := h) (k := k) (pk := pk) (by omega) (by omega) hpk nc
      rw [ts_B, show k + (1 + ts cs + ts r) = k + 1 + ts cs + ts r from by omega]
      have lw : lwT (loE sp L) (.branch n cs r) = fw (lwN (loE sp L) n cs) (lwT (loE sp L) r) := lwT_B
      rw [lw]
      refine LA_t (k1 := k + 1 + ts cs) ?_ rest
      clear rest lw T2 v3
      unfold lwN
      by_cases k13 : tK n = 13
      · rw [if_pos k13]
        obtain ⟨va, ec⟩ := v13 k13
        subst ec
        exact la_13 R HQ e0 hf hs hsz (by omega) (by omega) iA t1 t2 t3 t5 k13 va
      rw [if_neg k13]
      by_cases k14 : tK n = 14
      · rw [if_pos k14]
        obtain ⟨y, r', ec, ky⟩ := v14 k14
        subst ec
        rw [ts_B] at hz hk
        obtain ⟨⟨y1, y2, y3, y4, y5, y6⟩, -, Y2⟩ := T1
        obtain ⟨⟨w13, -, -⟩, -, w3⟩ := v2
        have l0 : ts (Lean.RArray.leaf ()) = 0 := rfl
        rw [l0] at hz hk Y2
        have s1 := la_o (d := d) (x3 := x3) (cs := .branch y (.leaf ()) r') F e0 hf hs hsz (by omega) (by omega) t1 t5 t6 (by rw [ts_B, l0]; omega) k13 (fun q => by omega)
        have e14 : mh_i h 93 k = 14 := by rw [t1, k14]; rfl
        have s2 : ∀ x, LAk (d + 2) h fr (k + 1) x (lkW (loE sp L) (tV y) true, tP y) (k + 1 + 1) := fun x => la_13 R HQ e0 hf hs hsz (by omega) (by omega) (isA_y (by omega) e14) y1 y2 y3 y5 ky (w13 ky).1
        have s3 : ∀ x, LAk (d + 2) h fr (k + 1 + 1) x (lwT (loE sp L) r') (k + 1 + 1 + ts r') := fun x => ih r' (k + 1 + 1) k x (by omega) Y2 w3 (by omega) (by omega) (fun q => by omega)
        have s4 := LA_t s1 (fun x => LA_t (s2 x) s3)
        rw [fw_0] at s4
        exact LA_c s4 (by rw [ts_B, l0]; omega)
      rw [if_neg k14]
      by_cases k16 : tK n = 16
      · rw [if_pos k16]
        rcases v16 k16 with ec | ⟨y, g, ec, ky, kg⟩
        · subst ec
          exact la_o (d := d) (cs := .leaf ()) F e0 hf hs hsz (by omega) (by omega) t1 t5 t6 (by show 0 ≤ 25000; omega) k13 (fun q => by have := q.2.1; exact absurd this (by show ¬ 1 < 1 + 0; decide))
        · subst ec
          have l0 : ts (Lean.RArray.leaf ()) = 0 := rfl
          have l2 : ts (.branch y (.leaf ()) (.branch g (.leaf ()) (.leaf ()))) = 2 := rfl
          rw [l2] at hz hk t6
          obtain ⟨⟨y1, y2, y3, y4, y5, y6⟩, -, ⟨g1, g2, g3, g4, g5, g6⟩, -⟩ := T1
          rw [l0] at y6 g1 g2 g3 g4 g5 g6
          have t6' : mh_i h 97 k = Int32.ofNat (1 + ts (.branch y (.leaf ()) (.branch g (.leaf ()) (.leaf ())))) := t6
          have ei : (mh_i h 95 (k + 2) < mh_i h 95 (k + 1)) ↔ tV g < tV y := by
            rw [Int32.lt_iff_toInt_lt]
            have a1 := y4 (by omega)
            have a2 := g4 (by omega)
            rw [show k + 1 + 1 + 0 = k + 2 from rfl] at a2
            rw [a1, a2]
          show LAk (d + 2) h fr k x3 (if tV g < tV y then (8, tP y) else (0, 0)) _
          by_cases c : tV g < tV y
          · rw [if_pos c]
            exact la_8 (d := d) F e0 hf hs hsz (by omega) (by omega) t1 t5 t6' (by rw [l2]; omega) k13 ⟨k16, by rw [l2]; omega, ei.mpr c⟩ y2
          · rw [if_neg c]
            have s1 := la_o (d := d) (x3 := x3) F e0 hf hs hsz (by omega) (by omega) t1 t5 t6' (by rw [l2]; omega) k13 (fun q => c (ei.mp q.2.2))
            have s2 : ∀ x, LAk (d + 2) h fr (k + 1) x (0, 0) (k + 1 + 1) := fun x => la_o (d := d) (cs := .leaf ()) (n := y) F e0 hf hs hsz (by omega) (by omega) y1 y5 y6 (by show 0 ≤ 25000; omega) (by omega) (fun q => by omega)
            have s3 : ∀ x, LAk (d + 2) h fr (k + 1 + 1) x (0, 0) (k + 1 + 1 + 1) := fun x => la_o (d := d) (cs := .leaf ()) (n := g) F e0 hf hs hsz (by omega) (by omega) g1 g5 g6 (by show 0 ≤ 25000; omega) (by omega) (fun q => by omega)
            have s4 := LA_t s1 (fun x => LA_t (s2 x) s3)
            rw [fw_0, fw_0] at s4
            exact LA_c s4 (by rw [l2])
      · rw [if_neg k16]
        have s1 := la_o (d := d) (x3 := x3) F e0 hf hs hsz (by omega) (by omega) t1 t5 t6 (by omega) k13 (fun q => k16 q.1)
        have s2 : ∀ x, LAk (d + 2) h fr (k + 1) x (lwT (loE sp L) cs) (k + 1 + ts cs) := fun x => ih cs (k + 1) k x (by omega) T1 v2 (by omega) (by omega) (fun q => k14 (by
          have e := q.1
          rw [t1] at e
          have k64 := tK_b (x := n)
          exact (nn_eq (a := tK n) (b := 14) (by omega) (by decide)) ▸ e))
        have s3 := LA_t s1 s2
        rw [fw_0] at s3
        exact s3
/-- lookAll -/
theorem u_342 (R : REN h nm X L b id bs) (HQ : ∀ v, v < m → K v = 2 → nm v < 100000 ∧ ∀ a z, (a, z) ∈ L → (nm a = nm v ↔ sp a v = true)) (e0 : mh_i h 81 47 = 0) {n : Nat} {cs : tr} (hsz : k + (1 + ts cs) ≤ 25000) (T : trR h nm (tNd n cs) k (Int32.ofNat pk)) (tv : tvT K m (tNd n cs)) (hpk : pk < k) (nc : ¬ mh_i h 93 pk = 14) : ∀ Q, mcall (d + 2) 342 [.ref 81, .int (Int32.ofNat k)] h Q = if (lwT (loE sp L) (tNd n cs)).1 = 0 then Q (some (.int 1)) h else Q (some (.int 0)) (wrH h (Int32.ofNat (lwT (loE sp L) (tNd n cs)).1) (Int32.ofNat (lwT (loE sp L) (tNd n cs)).2)) := by
  intro Q
  have es : ts (tNd n cs) = 1 + ts cs := rfl
  have T' := T
  obtain ⟨⟨-, -, -, -, -, t6⟩, -, -⟩ := T'
  obtain ⟨x, hx⟩ := la_342 (d := d) (sp := sp) (fr := k) (sz := 1 + ts cs) R HQ e0 (by omega) t6 hsz (1 + ts cs) (tNd n cs) k pk none (Nat.le_refl _) T tv (by rw [es]; omega) hpk (fun q => nc q.1)
  have hxQ := hx Q
  have en := e_342x (d := d) (h := h) (fr := k) (sz := 1 + ts cs) (k := k + ts (tNd n cs)) (x3 := x) R.F (by omega) t6 (by omega) (by rw [es]) Q
  rw [en] at hxQ
  rw [← hxQ]
  clear hxQ hx en R T
  simp (disch := omega) only [s_342_0, s_342_1, s_342_3, s_342_4, s_342_5, s_342_8, s_342_11, s_342_12, s_342_15, s_342_16, s_342_17, s_342_20, s_342_21, s_342_24, s_342_25, s_342_28, s_342_29, s_342_30, s_342_31, s_342_33, s_342_36, s_342_37, s_342_40, s_342_41, s_342_42, s_342_43, s_342_44, s_342_45, s_342_48, s_342_49, s_342_52, s_342_53, s_342_54, s_342_55, s_342_58, s_342_59, s_342_60, s_342_62, s_342_65, s_342_66, s_342_67, s_342_68, s_342_71, s_342_74, s_342_75, s_342_76, s_342_77, s_342_80, s_342_81, s_342_82, s_342_84, s_342_87, s_342_88, s_342_91, s_342_92, s_342_93, s_342_94, s_342_97, s_342_98, s_342_101, s_342_102, s_342_103, s_342_104, s_342_105, s_342_106, s_342_109, s_342_110, s_342_111, s_342_112, s_342_113, s_342_116, s_342_117, s_342_119, s_342_120, s_342_121, s_342_122, s_342_125, s_342_126, s_342_129, s_342_132, s_342_133, e_342, mv_i_1, mv_l_1, mv_a_1, mv_a_2, mv_a_3, mk2_n, mk2_i, mk2_l, mk2_a, mk2_u, mk2_x, mB_T, mB_F, mS_cons, mS_nil, mSB_T, mSB_F, mca_nil, mca_i, mca_l, mca_r, mca_u, mca_x, mcat_i, mcat_l, mcat_r, mcat_u, mcat_x, mK_some, mK_none, va_rf_s, va_rf_n, lgc_eq, lgc_lt, lgc_gt, lgc_ge, lgc_le, mrd_104, mrd_105, mrd_106, mrd_107, true_and, and_true, and_self, false_and, and_false, true_or, or_true, false_or, or_false, not_true_eq_false, not_false_eq_true, mgb, mga, mgr, mN, reduceCtorEq, ↓reduceIte, eq_self, ge_iff_le, gt_iff_lt, Nat.reduceAdd, Nat.reduceMul, Nat.reduceSub, Nat.reduceLT, Nat.reduceGT, Nat.reduceEqDiff, Nat.reduceLeDiff, Nat.left_eq_add, Nat.add_eq_left, Nat.reduceMod, Nat.reduceDiv, Nat.succ_ne_self]
end LBs
