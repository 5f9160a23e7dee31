set_option maxRecDepth 100000
/-! THE REFERENCE'S PARSER: the SUMs of a call -/
theorem tC_l : ∀ t : tr, tC t (.leaf ()) = t := by
  intro t
  induction t with
  | leaf _ => rfl
  | branch n cs r _ ih => show Lean.RArray.branch n cs (tC r (.leaf ())) = _; rw [ih]
theorem tC_a : ∀ t u w : tr, tC (tC t u) w = tC t (tC u w) := by
  intro t
  induction t with
  | leaf _ => exact fun u w => rfl
  | branch n cs r _ ih => intro u w; show Lean.RArray.branch n cs (tC (tC r u) w) = Lean.RArray.branch n cs (tC r (tC u w)); rw [ih]
section HAs
variable {D N : Nat} {h : mh_H} {m : Nat} {K : Nat → Int32} {P : Nat → Nat} {V : Nat → Int} {d : Nat} {sch : Bool} {s0 : pst} {i a o q e : Nat} {fx k p v : Int32}
theorem l_325 (R : RTK h m K P V) (hN : 8 * m + 6 ≤ N) (hd : d ≤ 60) (hD : 3 * (62 - d) + 10 ≤ D + 4) (h52 : a + 2 * (m - i) + 8 ≤ 52000) : ∀ f (s : pst) (x : pqr), GS P sch s0 i a o q e fx k p v s x → x.1 < m → m - x.1 + 1 ≤ f → (bnd x fun r j => bnd (pgA K P V N f (d + 1) j) fun t k => (k, some (tC r t))).1 < m ∧ ∃ s', GS P sch s0 i a o q e fx k p v s' (bnd x fun r j => bnd (pgA K P V N f (d + 1) j) fun t k => (k, some (tC r t))) ∧ ∀ Q, mw (D + 4) 325 Q 38 [some (.ref 81), some (.int (Int32.ofNat o)), some (.int (Int32.ofNat d))] [] (pH h s) = Q none (pH h s') := by
  have g := R.F.g 81 14 70 (by decide +kernel)
  have k0 : kb false = 0 := rfl
  have e1' : ∀ k, Int32.ofNat k + 1 = Int32.ofNat (k + 1) := fun k => nn_add (a := k) (b := 1)
  intro f
  induction f with
  | zero => intro s x G hx hf; omega
  | succ f ih =>
    intro s x G hx hf
    have a0 := G.2.1
    have hi' := G.2.2.1.2.2.2
    have lt : s.at < m := by rw [a0]; exact hx
    have q0 := c_310 (D := D + 3) R lt
    obtain ⟨j, ot⟩ := x
    have a0' : s.at = j := a0
    have hx' : j < m := hx
    have hi'' : i ≤ j := hi'
    have hf' : m - j + 1 ≤ f + 1 := hf
    have cs := G.2.2.2.2.2
    rcases ot with _ | r
    · have bd : s.bd = true := by
        rcases cs with ⟨r, z, -⟩ | ⟨-, z, -⟩
        · cases z
        · exact z
      have q1 := c_312 (D := D + 2) (s := s) R lt (c := 41) (y := 41) (by decide) rfl (by decide)
      rw [tk_b bd] at q1
      rw [lk_b bd] at q0
      have y1 : (rkd 1 = 44) = False := by decide
      refine ⟨hx', s, G, fun Q => ?_⟩
      clear R ih G cs
      rw [s_325_38]
      simp (disch := omega) only [s_325_0, s_325_1, s_325_3, s_325_6, s_325_7, s_325_10, s_325_12, s_325_15, s_325_16, s_325_17, s_325_18, s_325_21, s_325_24, s_325_25, s_325_28, s_325_29, s_325_30, s_325_31, s_325_32, s_325_35, s_325_39, s_325_42, s_325_44, s_325_47, s_325_48, s_325_50, s_325_53, s_325_54, s_325_55, s_325_56, s_325_59, s_325_62, s_325_63, s_325_66, s_325_67, s_325_68, s_325_69, s_325_70, s_325_73, s_325_76, s_325_79, s_325_80, s_325_82, s_325_85, e_325, mv_i_1, mv_l_1, mv_a_1, mv_a_2, mv_a_3, mk2_n, mk2_i, mk2_l, mk2_a, mk2_u, mk2_x, mB_T, mB_F, mS_cons, mS_nil, mSB_T, mSB_F, mca_nil, mca_i, mca_l, mca_r, mca_u, mca_x, mcat_i, mcat_l, mcat_r, mcat_u, mcat_x, mK_some, mK_none, va_rf_s, va_rf_n, lgc_eq, lgc_lt, lgc_gt, lgc_ge, lgc_le, mrd_104, mrd_105, mrd_106, mrd_107, true_and, and_true, and_self, false_and, and_false, true_or, or_true, false_or, or_false, not_true_eq_false, not_false_eq_true, mgb, mga, mgr, mN, reduceCtorEq, ↓reduceIte, eq_self, ge_iff_le, gt_iff_lt, Nat.reduceAdd, Nat.reduceMul, Nat.reduceSub, Nat.reduceLT, Nat.reduceGT, Nat.reduceEqDiff, Nat.reduceLeDiff, Nat.left_eq_add, Nat.add_eq_left, Nat.reduceMod, Nat.reduceDiv, Nat.succ_ne_self, pH_g, g, q0, y1, q1]
    · have bd : s.bd = false := by
        rcases cs with ⟨r, -, z, -⟩ | ⟨z, -⟩
        · exact z
        · cases z
      rw [lk_0 bd, a0'] at q0
      have eA : pgA K P V N (f + 1) (d + 1) j = if K j = 44 then bnd (pgX K P V N 0 (d + 1) (j + 1)) fun t j => bnd (pgA K P V N f (d + 1) j) fun r k => (k, some (tA t r)) else tak K 41 j (j + 1, some (.leaf ())) := rfl
      rw [bnd_o, eA]
      by_cases c : K j = 44
      · rw [if_pos c]
        have h1 := tkM_s R.M hx' c (by decide) (by decide)
        have y1 : (rkd (K j) = 44) = True := by rw [rk_e (R.k _ hx').2 (c := 44) (y := 44) (by decide) rfl]; exact eq_true c
        have q1 := c_312 (D := D + 2) (s := s) R lt (c := 44) (y := 44) (by decide) rfl (by decide)
        have G1 := GS_tk (K := K) (c := 44) (by show a + 2 * (j - i) + 8 ≤ 52000; omega) G
        have e1 : (bnd (j, some r) fun r j => tak K 44 j (j + 1, some r)) = (j + 1, some r) := by rw [bnd_o]; exact if_pos c
        rw [e1] at G1
        have bd1 : (s.tk K P 44).bd = false := by rw [tk_1 bd (by rw [a0']; exact c)]; exact bd
        generalize s.tk K P 44 = s1 at *
        have at1 : s1.at = j + 1 := G1.2.1
        obtain ⟨b2, s2, G2, z2⟩ := GS_sub (m := m) (Fp := fun j => pgX K P V N 0 (d + 1) j) (M := 318) (D := D + 3) (ar := [.ref 81, .int (Int32.ofNat (d + 1))]) R.F G1 h52 h1 (fun y1 y2 y3 => (pe_all R N).1 (d + 1) (D + 3) s1 (by omega) y2 y1 (by omega) (by omega) y3) (fun j hj => pgX_b R.M N 0 (d + 1) j (by decide) hj)
        have b2' := gd_bs (m := m) (x := (j + 1, some r)) (Fp := fun j => pgX K P V N 0 (d + 1) j) h1 (fun j hj => pgX_b R.M N 0 (d + 1) j (by decide) hj)
        have b2'' : j + 1 ≤ (bnd (j + 1, some r) fun r j => bnd (pgX K P V N 0 (d + 1) j) fun t k => (k, some (tC r t))).1 := b2'
        obtain ⟨b3, s3, G3, z3⟩ := ih s2 _ G2 b2 (by omega)
        have EQ : (bnd (bnd (j + 1, some r) fun r j => bnd (pgX K P V N 0 (d + 1) j) fun t k => (k, some (tC r t))) fun r j => bnd (pgA K P V N f (d + 1) j) fun t k => (k, some (tC r t))) = (bnd (bnd (pgX K P V N 0 (d + 1) (j + 1)) fun t j => bnd (pgA K P V N f (d + 1) j) fun r k => (k, some (tA t r))) fun t k => (k, some (tC r t))) := by
          simp only [bnd_o, bnd_b]
          refine bnd_g (m := m) (pgX_b R.M N 0 (d + 1) (j + 1) (by decide) h1) (fun n cs j' hj' => ?_)
          refine bnd_f (fun t k => ?_)
          rw [tC_a]; rfl
        rw [EQ] at G3 b3
        refine ⟨b3, s3, G3, fun Q => ?_⟩
        rw [← z3 Q]
        rcases z2 with ⟨z, -⟩ | ⟨-, s7, v7, u1, u2⟩
        · rw [bd1] at z; cases z
        have u2' := u2 (D + 3)
        clear R ih G cs G1 G2 G3 b2 b3 z3 u2 EQ eA
        rw [s_325_38]
        simp (disch := omega) only [s_325_0, s_325_1, s_325_3, s_325_6, s_325_7, s_325_10, s_325_12, s_325_15, s_325_16, s_325_17, s_325_18, s_325_21, s_325_24, s_325_25, s_325_28, s_325_29, s_325_30, s_325_31, s_325_32, s_325_35, s_325_39, s_325_42, s_325_44, s_325_47, s_325_48, s_325_50, s_325_53, s_325_54, s_325_55, s_325_56, s_325_59, s_325_62, s_325_63, s_325_66, s_325_67, s_325_68, s_325_69, s_325_70, s_325_73, s_325_76, s_325_79, s_325_80, s_325_82, s_325_85, e_325, mv_i_1, mv_l_1, mv_a_1, mv_a_2, mv_a_3, mk2_n, mk2_i, mk2_l, mk2_a, mk2_u, mk2_x, mB_T, mB_F, mS_cons, mS_nil, mSB_T, mSB_F, mca_nil, mca_i, mca_l, mca_r, mca_u, mca_x, mcat_i, mcat_l, mcat_r, mcat_u, mcat_x, mK_some, mK_none, va_rf_s, va_rf_n, lgc_eq, lgc_lt, lgc_gt, lgc_ge, lgc_le, mrd_104, mrd_105, mrd_106, mrd_107, true_and, and_true, and_self, false_and, and_false, true_or, or_true, false_or, or_false, not_true_eq_false, not_false_eq_true, mgb, mga, mgr, mN, reduceCtorEq, ↓reduceIte, eq_self, ge_iff_le, gt_iff_lt, Nat.reduceAdd, Nat.reduceMul, Nat.reduceSub, Nat.reduceLT, Nat.reduceGT, Nat.reduceEqDiff, Nat.reduceLeDiff, Nat.left_eq_add, Nat.add_eq_left, Nat.reduceMod, Nat.reduceDiv, Nat.succ_ne_self, pH_g, pH_9, g, q0, y1, q1, bd1, k0, e1', u1, u2']
      · rw [if_neg c]
        have y1 : (rkd (K j) = 44) = False := by rw [rk_e (R.k _ hx').2 (c := 44) (y := 44) (by decide) rfl]; exact eq_false c
        have q1 := c_312 (D := D + 2) (s := s) R lt (c := 41) (y := 41) (by decide) rfl (by decide)
        have G1 := GS_tk (K := K) (c := 41) (by show a + 2 * (j - i) + 8 ≤ 52000; omega) G
        have b1 := gd_bt (m := m) (x := (j, some r)) (c := 41) R.M (by decide) (by decide) hx'
        have EQ : (bnd (j, some r) fun r j => tak K 41 j (j + 1, some r)) = (bnd (tak K 41 j (j + 1, some (.leaf ()))) fun t k => (k, some (tC r t))) := by
          rw [bnd_o, bnd_t, bnd_o, tC_l]
        rw [EQ] at G1 b1
        refine ⟨b1, _, G1, fun Q => ?_⟩
        clear R ih G cs G1 b1 EQ eA
        rw [s_325_38]
        simp (disch := omega) only [s_325_0, s_325_1, s_325_3, s_325_6, s_325_7, s_325_10, s_325_12, s_325_15, s_325_16, s_325_17, s_325_18, s_325_21, s_325_24, s_325_25, s_325_28, s_325_29, s_325_30, s_325_31, s_325_32, s_325_35, s_325_39, s_325_42, s_325_44, s_325_47, s_325_48, s_325_50, s_325_53, s_325_54, s_325_55, s_325_56, s_325_59, s_325_62, s_325_63, s_325_66, s_325_67, s_325_68, s_325_69, s_325_70, s_325_73, s_325_76, s_325_79, s_325_80, s_325_82, s_325_85, e_325, mv_i_1, mv_l_1, mv_a_1, mv_a_2, mv_a_3, mk2_n, mk2_i, mk2_l, mk2_a, mk2_u, mk2_x, mB_T, mB_F, mS_cons, mS_nil, mSB_T, mSB_F, mca_nil, mca_i, mca_l, mca_r, mca_u, mca_x, mcat_i, mcat_l, mcat_r, mcat_u, mcat_x, mK_some, mK_none, va_rf_s, va_rf_n, lgc_eq, lgc_lt, lgc_gt, lgc_ge, lgc_le, mrd_104, mrd_105, mrd_106, mrd_107, true_and, and_true, and_self, false_and, and_false, true_or, or_true, false_or, or_false, not_true_eq_false, not_false_eq_true, mgb, mga, mgr, mN, reduceCtorEq, ↓reduceIte, eq_self, ge_iff_le, gt_iff_lt, Nat.reduceAdd, Nat.reduceMul, Nat.reduceSub, Nat.reduceLT, Nat.reduceGT, Nat.reduceEqDiff, Nat.reduceLeDiff, Nat.left_eq_add, Nat.add_eq_left, Nat.reduceMod, Nat.reduceDiv, Nat.succ_ne_self, pH_g, g, q0, y1, q1]
/-- sums, behind the bracket -/
theorem c_325g (R : RTK h m K P V) (hN : 8 * m + 6 ≤ N) (hd : d ≤ 60) (hD : 3 * (62 - d) + 10 ≤ D + 4) (h52 : a + 2 * (m - i) + 8 ≤ 52000) {s s1 : pst} {x1 : pqr} (qa : ∀ Q, mcall (D + 3) 312 [.ref 81, .int 40] (pH h s) Q = Q none (pH h s1)) (G : GS P sch s0 i a o q e fx k p v s1 x1) (hx1 : x1.1 < m) : (bnd x1 fun r j => bnd (pgS K P V N (d + 1) j) fun t k => (k, some (tC r t))).1 < m ∧ ∃ s', GS P sch s0 i a o q e fx k p v s' (bnd x1 fun r j => bnd (pgS K P V N (d + 1) j) fun t k => (k, some (tC r t))) ∧ ∀ Q, mcall (D + 4) 325 [.ref 81, .int (Int32.ofNat o), .int (Int32.ofNat d)] (pH h s) Q = Q none (pH h s') := by
  have g := R.F.g 81 14 70 (by decide +kernel)
  have k0 : kb false = 0 := rfl
  have k1 : kb true = 1 := rfl
  have n1 : ((1 : Int32) = 0) = False := by decide
  have e1' : ∀ k, Int32.ofNat k + 1 = Int32.ofNat (k + 1) := fun k => nn_add (a := k) (b := 1)
  have a0 := G.2.1
  have hi' := G.2.2.1.2.2.2
  have lt : s1.at < m := by rw [a0]; exact hx1
  have q0 := c_310 (D := D + 3) R lt
  obtain ⟨j, ot⟩ := x1
  have a0' : s1.at = j := a0
  have hx' : j < m := hx1
  have hi'' : i ≤ j := hi'
  have cs := G.2.2.2.2.2
  rcases ot with _ | r
  · have bd : s1.bd = true := by
      rcases cs with ⟨r, z, -⟩ | ⟨-, z, -⟩
      · cases z
      · exact z
    obtain ⟨b2, s2, G2, z2⟩ := l_325 (D := D) (d := d) R hN hd hD h52 N s1 (j, none) G hx' (by show m - j + 1 ≤ N; omega)
    rw [lk_b bd] at q0
    have y1 : (rkd 1 = 41) = False := by decide
    have q3 := c_314n (D := D + 3) (h := h) (s := s1) (o := Int32.ofNat o)
    refine ⟨b2, s2, G2, fun Q => ?_⟩
    rw [← z2 Q]
    clear R G cs G2 b2 z2
    simp (disch := omega) only [s_325_0, s_325_1, s_325_3, s_325_6, s_325_7, s_325_10, s_325_12, s_325_15, s_325_16, s_325_17, s_325_18, s_325_21, s_325_24, s_325_25, s_325_28, s_325_29, s_325_30, s_325_31, s_325_32, s_325_35, s_325_39, s_325_42, s_325_44, s_325_47, s_325_48, s_325_50, s_325_53, s_325_54, s_325_55, s_325_56, s_325_59, s_325_62, s_325_63, s_325_66, s_325_67, s_325_68, s_325_69, s_325_70, s_325_73, s_325_76, s_325_79, s_325_80, s_325_82, s_325_85, e_325, mv_i_1, mv_l_1, mv_a_1, mv_a_2, mv_a_3, mk2_n, mk2_i, mk2_l, mk2_a, mk2_u, mk2_x, mB_T, mB_F, mS_cons, mS_nil, mSB_T, mSB_F, mca_nil, mca_i, mca_l, mca_r, mca_u, mca_x, mcat_i, mcat_l, mcat_r, mcat_u, mcat_x, mK_some, mK_none, va_rf_s, va_rf_n, lgc_eq, lgc_lt, lgc_gt, lgc_ge, lgc_le, mrd_104, mrd_105, mrd_106, mrd_107, true_and, and_true, and_self, false_and, and_false, true_or, or_true, false_or, or_false, not_true_eq_false, not_false_eq_true, mgb, mga, mgr, mN, reduceCtorEq, ↓reduceIte, eq_self, ge_iff_le, gt_iff_lt, Nat.reduceAdd, Nat.reduceMul, Nat.reduceSub, Nat.reduceLT, Nat.reduceGT, Nat.reduceEqDiff, Nat.reduceLeDiff, Nat.left_eq_add, Nat.add_eq_left, Nat.reduceMod, Nat.reduceDiv, Nat.succ_ne_self, pH_g, pH_9, g, qa, q0, y1, bd, k1, n1, q3]
  · have bd : s1.bd = false := by
      rcases cs with ⟨r, -, z, -⟩ | ⟨z, -⟩
      · exact z
      · cases z
    rw [lk_0 bd, a0'] at q0
    rw [bnd_o]
    have eS : pgS K P V N (d + 1) j = if K j = 41 then (j + 1, some (.leaf ())) else bnd (pgX K P V N 0 (d + 1) j) fun t j => bnd (pgA K P V N N (d + 1) j) fun r k => (k, some (tA t r)) := rfl
    rw [eS]
    by_cases c : K j = 41
    · rw [if_pos c]
      have h1 := tkM_s R.M hx' c (by decide) (by decide)
      have y1 : (rkd (K j) = 41) = True := by rw [rk_e (R.k _ hx').2 (c := 41) (y := 41) (by decide) rfl]; exact eq_true c
      have q1 := c_312 (D := D + 2) (s := s1) R lt (c := 41) (y := 41) (by decide) rfl (by decide)
      have G1 := GS_tk (K := K) (c := 41) (by show a + 2 * (j - i) + 8 ≤ 52000; omega) G
      have EQ : (bnd (j, some r) fun r j => tak K 41 j (j + 1, some r)) = (bnd (j + 1, some (.leaf ())) fun t k => (k, some (tC r t))) := by
        rw [bnd_o, bnd_o, tC_l]; exact if_pos c
      rw [EQ] at G1
      refine ⟨h1, _, G1, fun Q => ?_⟩
      clear R G cs G1 EQ eS
      simp (disch := omega) only [s_325_0, s_325_1, s_325_3, s_325_6, s_325_7, s_325_10, s_325_12, s_325_15, s_325_16, s_325_17, s_325_18, s_325_21, s_325_24, s_325_25, s_325_28, s_325_29, s_325_30, s_325_31, s_325_32, s_325_35, s_325_38, s_325_39, s_325_42, s_325_44, s_325_47, s_325_48, s_325_50, s_325_53, s_325_54, s_325_55, s_325_56, s_325_59, s_325_62, s_325_63, s_325_66, s_325_67, s_325_68, s_325_69, s_325_70, s_325_73, s_325_76, s_325_79, s_325_80, s_325_82, s_325_85, e_325, mv_i_1, mv_l_1, mv_a_1, mv_a_2, mv_a_3, mk2_n, mk2_i, mk2_l, mk2_a, mk2_u, mk2_x, mB_T, mB_F, mS_cons, mS_nil, mSB_T, mSB_F, mca_nil, mca_i, mca_l, mca_r, mca_u, mca_x, mcat_i, mcat_l, mcat_r, mcat_u, mcat_x, mK_some, mK_none, va_rf_s, va_rf_n, lgc_eq, lgc_lt, lgc_gt, lgc_ge, lgc_le, mrd_104, mrd_105, mrd_106, mrd_107, true_and, and_true, and_self, false_and, and_false, true_or, or_true, false_or, or_false, not_true_eq_false, not_false_eq_true, mgb, mga, mgr, mN, reduceCtorEq, ↓reduceIte, eq_self, ge_iff_le, gt_iff_lt, Nat.reduceAdd, Nat.reduceMul, Nat.reduceSub, Nat.reduceLT, Nat.reduceGT, Nat.reduceEqDiff, Nat.reduceLeDiff, Nat.left_eq_add, Nat.add_eq_left, Nat.reduceMod, Nat.reduceDiv, Nat.succ_ne_self, pH_g, g, qa, q0, y1, q1]
    · rw [if_neg c]
      have y1 : (rkd (K j) = 41) = False := by rw [rk_e (R.k _ hx').2 (c := 41) (y := 41) (by decide) rfl]; exact eq_false c
      obtain ⟨b2, s2, G2, z2⟩ := GS_sub (m := m) (Fp := fun j => pgX K P V N 0 (d + 1) j) (M := 318) (D := D + 3) (ar := [.ref 81, .int (Int32.ofNat (d + 1))]) R.F G h52 hx' (fun y1 y2 y3 => (pe_all R N).1 (d + 1) (D + 3) s1 (by omega) y2 y1 (by omega) (by omega) y3) (fun j hj => pgX_b R.M N 0 (d + 1) j (by decide) hj)
      obtain ⟨b3, s3, G3, z3⟩ := l_325 (D := D) (d := d) R hN hd hD h52 N s2 _ G2 b2 (by omega)
      have EQ : (bnd (bnd (j, some r) fun r j => bnd (pgX K P V N 0 (d + 1) j) fun t k => (k, some (tC r t))) fun r j => bnd (pgA K P V N N (d + 1) j) fun t k => (k, some (tC r t))) = (bnd (bnd (pgX K P V N 0 (d + 1) j) fun t j => bnd (pgA K P V N N (d + 1) j) fun r k => (k, some (tA t r))) fun t k => (k, some (tC r t))) := by
        simp only [bnd_o, bnd_b]
        refine bnd_g (m := m) (pgX_b R.M N 0 (d + 1) j (by decide) hx') (fun n cs j' hj' => ?_)
        refine bnd_f (fun t k => ?_)
        rw [tC_a]; rfl
      rw [EQ] at G3 b3
      refine ⟨b3, s3, G3, fun Q => ?_⟩
      rw [← z3 Q]
      rcases z2 with ⟨z, -⟩ | ⟨-, s7, v7, u1, u2⟩
      · rw [bd] at z; cases z
      have u2' := u2 (D + 3)
      clear R G cs G2 G3 b2 b3 z3 u2 EQ eS
      simp (disch := omega) only [s_325_0, s_325_1, s_325_3, s_325_6, s_325_7, s_325_10, s_325_12, s_325_15, s_325_16, s_325_17, s_325_18, s_325_21, s_325_24, s_325_25, s_325_28, s_325_29, s_325_30, s_325_31, s_325_32, s_325_35, s_325_39, s_325_42, s_325_44, s_325_47, s_325_48, s_325_50, s_325_53, s_325_54, s_325_55, s_325_56, s_325_59, s_325_62, s_325_63, s_325_66, s_325_67, s_325_68, s_325_69, s_325_70, s_325_73, s_325_76, s_325_79, s_325_80, s_325_82, s_325_85, e_325, mv_i_1, mv_l_1, mv_a_1, mv_a_2, mv_a_3, mk2_n, mk2_i, mk2_l, mk2_a, mk2_u, mk2_x, mB_T, mB_F, mS_cons, mS_nil, mSB_T, mSB_F, mca_nil, mca_i, mca_l, mca_r, mca_u, mca_x, mcat_i, mcat_l, mcat_r, mcat_u, mcat_x, mK_some, mK_none, va_rf_s, va_rf_n, lgc_eq, lgc_lt, lgc_gt, lgc_ge, lgc_le, mrd_104, mrd_105, mrd_106, mrd_107, true_and, and_true, and_self, false_and, and_false, true_or, or_true, false_or, or_false, not_true_eq_false, not_false_eq_true, mgb, mga, mgr, mN, reduceCtorEq, ↓reduceIte, eq_self, ge_iff_le, gt_iff_lt, Nat.reduceAdd, Nat.reduceMul, Nat.reduceSub, Nat.reduceLT, Nat.reduceGT, Nat.reduceEqDiff, Nat.reduceLeDiff, Nat.left_eq_add, Nat.add_eq_left, Nat.reduceMod, Nat.reduceDiv, Nat.succ_ne_self, pH_g, pH_9, g, qa, q0, y1, bd, k0, e1', u1, u2']
/-- sums -/
theorem c_325 (R : RTK h m K P V) (hN : 8 * m + 6 ≤ N) (hd : d ≤ 60) (hD : 3 * (62 - d) + 10 ≤ D + 4) (h52 : a + 2 * (m - i) + 8 ≤ 52000) {s : pst} {x : pqr} (G0 : GS P sch s0 i a o q e fx k p v s x) (hx : x.1 < m) : (bnd (bnd x fun r j => tak K 40 j (j + 1, some r)) fun r j => bnd (pgS K P V N (d + 1) j) fun t k => (k, some (tC r t))).1 < m ∧ ∃ s', GS P sch s0 i a o q e fx k p v s' (bnd (bnd x fun r j => tak K 40 j (j + 1, some r)) fun r j => bnd (pgS K P V N (d + 1) j) fun t k => (k, some (tC r t))) ∧ ∀ Q, mcall (D + 4) 325 [.ref 81, .int (Int32.ofNat o), .int (Int32.ofNat d)] (pH h s) Q = Q none (pH h s') := by
  have lt0 : s.at < m := by rw [G0.2.1]; exact hx
  have hi0 := G0.2.2.1.2.2.2
  exact c_325g R hN hd hD h52 (c_312 (D := D + 2) (s := s) R lt0 (c := 40) (y := 40) (by decide) rfl (by decide)) (GS_tk (K := K) (c := 40) (by omega) G0) (gd_bt (c := 40) R.M (by decide) (by decide) hx)
end HAs
