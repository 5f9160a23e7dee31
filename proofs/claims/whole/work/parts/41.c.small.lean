set_option maxRecDepth 100000
/-! the class's Analysis: what stands of the layout; its small methods -/
abbrev PH (h : mh_H) (G : pgm) (cnt : Nat) : Prop := (mh_i h 2 2 = Int32.ofNat cnt) ∧ (0 < cnt ∧ cnt ≤ 250) ∧ (∀ p, p < cnt → ∃ St nb nm na nx, mh_r h 20 p = some St ∧ mg h St 9 ∧ mh_i h St 0 = Int32.ofNat (G.kd p) ∧ mh_i h 21 p = Int32.ofNat nb ∧ mh_i h St 3 = Int32.ofNat nm ∧ nb + nm = G.n p ∧ mh_i h 22 p = Int32.ofNat na ∧ mh_i h St 4 = Int32.ofNat nx ∧ na + nx = G.a p) ∧ (∀ p, p < cnt → G.kd p ≤ 8 ∧ G.n p ≤ 12 ∧ G.a p ≤ 6) ∧ (∀ p, p < cnt → G.kd p = 5 → mh_i h 25 p = Int32.ofNat (G.M p) ∧ G.M p ≤ 250) ∧ (∀ p, p < cnt → 4 ≤ G.kd p → G.kd p ≤ 6 → mh_i h 26 p = Int32.ofNat (G.E p) ∧ G.E p ≤ 250)
theorem PH.c {h : mh_H} {G : pgm} {cnt : Nat} (q : PH h G cnt) : mh_i h 2 2 = Int32.ofNat cnt := q.1
theorem PH.b {h : mh_H} {G : pgm} {cnt : Nat} (q : PH h G cnt) : 0 < cnt ∧ cnt ≤ 250 := q.2.1
theorem PH.s {h : mh_H} {G : pgm} {cnt : Nat} (q : PH h G cnt) : ∀ p, p < cnt → ∃ St nb nm na nx, mh_r h 20 p = some St ∧ mg h St 9 ∧ mh_i h St 0 = Int32.ofNat (G.kd p) ∧ mh_i h 21 p = Int32.ofNat nb ∧ mh_i h St 3 = Int32.ofNat nm ∧ nb + nm = G.n p ∧ mh_i h 22 p = Int32.ofNat na ∧ mh_i h St 4 = Int32.ofNat nx ∧ na + nx = G.a p := q.2.2.1
theorem PH.k {h : mh_H} {G : pgm} {cnt : Nat} (q : PH h G cnt) : ∀ p, p < cnt → G.kd p ≤ 8 ∧ G.n p ≤ 12 ∧ G.a p ≤ 6 := q.2.2.2.1
theorem PH.m {h : mh_H} {G : pgm} {cnt : Nat} (q : PH h G cnt) : ∀ p, p < cnt → G.kd p = 5 → mh_i h 25 p = Int32.ofNat (G.M p) ∧ G.M p ≤ 250 := q.2.2.2.2.1
theorem PH.e {h : mh_H} {G : pgm} {cnt : Nat} (q : PH h G cnt) : ∀ p, p < cnt → 4 ≤ G.kd p → G.kd p ≤ 6 → mh_i h 26 p = Int32.ofNat (G.E p) ∧ G.E p ≤ 250 := q.2.2.2.2.2
/-- ints of the analysis -/
def aI (b : Nat) : Prop := b = 53 ∨ b = 55 ∨ b = 59 ∨ b = 60 ∨ b = 65 ∨ b = 66
section AMs
variable {V U : Nat → Nat → Prop} {d : Nat} {h h1 : mh_H} {Y C E TT UU SC SP nC nE nS : Nat} {G : pgm} {cnt k p q : Nat}
theorem st_ne (B : BS h Y C E TT UU SC SP nC nE nS) {St : Nat} (g : mg h St 9) : ¬ eff St ∧ ¬ aI St := by
  have F := B.F
  have a1 := (F.g 34 1 9 (by decide +kernel)).1
  have a2 := (F.g 35 5 19 (by decide +kernel)).1
  have a3 := (F.g 38 100 124 (by decide +kernel)).1
  have a4 := (F.g 41 100 12 (by decide +kernel)).1
  have a5 := (F.g 51 104 122 (by decide +kernel)).1
  have b1 := (F.g 53 0 17 (by decide +kernel)).1
  have b2 := (F.g 55 100 250 (by decide +kernel)).1
  have b3 := (F.g 59 100 250 (by decide +kernel)).1
  have b4 := (F.g 60 100 250 (by decide +kernel)).1
  have b5 := (F.g 65 100 250 (by decide +kernel)).1
  have b6 := (F.g 66 100 250 (by decide +kernel)).1
  have a6 := g.1
  constructor
  · rintro (e | e | e | e | e) <;> (rw [e] at a6; omega)
  · rintro (e | e | e | e | e | e) <;> (rw [e] at a6; omega)
theorem PH_s (B : BS h Y C E TT UU SC SP nC nE nS) (x : zS V U h h1) (hU : ∀ b j, U b j → aI b) (H : PH h G cnt) : PH h1 G cnt := by
  have F := B.F
  have g2 := F.g 2 4 20 (by decide +kernel)
  have g20 := F.g 20 105 250 (by decide +kernel)
  have i1 : ∀ b c j, mg h b c → c ≠ 8 → c ≠ 101 → ¬ eff b → ¬ aI b → mh_i h1 b j = mh_i h b j := fun b c j g c8 c1 e a => x.ii b c j g c8 c1 e (fun u => a (hU b j u))
  have ir : ∀ b j, mg h b 100 → 20 ≤ b → b ≤ 26 → mh_i h1 b j = mh_i h b j := fun b j g h1' h2' => i1 b 100 j g (by omega) (by omega) (by unfold eff; omega) (by unfold aI; omega)
  have g21 := F.g 21 100 250 (by decide +kernel)
  have g22 := F.g 22 100 250 (by decide +kernel)
  have g25 := F.g 25 100 250 (by decide +kernel)
  have g26 := F.g 26 100 250 (by decide +kernel)
  refine ⟨?_, H.b, fun p hp => ?_, H.k, fun p hp k5 => ?_, fun p hp k4 k6 => ?_⟩
  · rw [i1 2 4 2 g2 (by omega) (by omega) (by unfold eff; omega) (by unfold aI; omega)]; exact H.c
  · obtain ⟨St, nb, nm, na, nx, q1, q2, q3, q4, q5, q6, q7, q8, q9⟩ := H.s p hp
    obtain ⟨w1, w2⟩ := st_ne B q2
    have iS : ∀ j, mh_i h1 St j = mh_i h St j := fun j => i1 St 9 j q2 (by omega) (by omega) w1 w2
    exact ⟨St, nb, nm, na, nx, by rw [x.rr 20 105 p g20 (by omega) (by omega) (by unfold eff; omega) (by unfold isPl; omega)]; exact q1, zS_g x q2, by rw [iS]; exact q3, by rw [ir 21 p g21 (by omega) (by omega)]; exact q4, by rw [iS]; exact q5, q6, by rw [ir 22 p g22 (by omega) (by omega)]; exact q7, by rw [iS]; exact q8, q9⟩
  · rw [ir 25 p g25 (by omega) (by omega)]; exact H.m p hp k5
  · rw [ir 26 p g26 (by omega) (by omega)]; exact H.e p hp k4 k6
/-- where the way ends now -/
def lmt (h : mh_H) (G : pgm) (cnt k e : Nat) : Prop := (k = 0 ∧ e + 1 = cnt) ∨ ∃ q, 1 ≤ k ∧ k ≤ 250 ∧ mh_i h 59 (k - 1) = Int32.ofNat q ∧ q < cnt ∧ ((G.kd q = 5 ∧ mh_i h 60 (k - 1) = 0 ∧ e = G.M q) ∨ ((G.kd q = 5 ∧ mh_i h 60 (k - 1) = 1) ∨ G.kd q = 4 ∨ G.kd q = 6) ∧ e = G.E q)
theorem c_2 (B : BS h Y C E TT UU SC SP nC nE nS) (H : PH h G cnt) (k9 : mh_i h 53 9 = Int32.ofNat k) (hk : 1 ≤ k) (hk2 : k ≤ 250) (hq : q < cnt) {e : Nat} (w : (G.kd q = 5 ∧ mh_i h 60 (k - 1) = 0 ∧ e = G.M q) ∨ ((G.kd q = 5 ∧ mh_i h 60 (k - 1) = 1) ∨ G.kd q = 4 ∨ G.kd q = 6) ∧ e = G.E q) : ∀ Q, mcall d 2 [.ref 53, .int (Int32.ofNat q)] h Q = Q (some (.int (Int32.ofNat e))) h := fun Q => by
  have F := B.F
  have cb := H.b
  have g53 := F.g 53 0 17 (by decide +kernel)
  have g2 := F.g 2 4 20 (by decide +kernel)
  have t4 := F.f 53 4 2 (by decide +kernel)
  have t3 := F.f 2 3 20 (by decide +kernel)
  have t8 := F.f 2 8 25 (by decide +kernel)
  have t9 := F.f 2 9 26 (by decide +kernel)
  have t10 := F.f 53 10 60 (by decide +kernel)
  have g20 := (F.g 20 105 250 (by decide +kernel)).1
  have g20' := (F.g 20 105 250 (by decide +kernel)).2
  have l20 := F.l 20 105 250 (by decide +kernel)
  have g25 := F.g 25 100 250 (by decide +kernel)
  have l25 := F.l 25 100 250 (by decide +kernel)
  have g26 := F.g 26 100 250 (by decide +kernel)
  have l26 := F.l 26 100 250 (by decide +kernel)
  have g60 := F.g 60 100 250 (by decide +kernel)
  have l60 := F.l 60 100 250 (by decide +kernel)
  obtain ⟨St, nb, nm, na, nx, q1, q2, q3, -⟩ := H.s q hq
  have kk := H.k q hq
  have em := H.m q hq
  have ee := H.e q hq
  have e5 : (5 : Int32) = Int32.ofNat 5 := rfl
  have i5 : (Int32.ofNat (G.kd q) = 5) = (G.kd q = 5) := by rw [e5, nn_eq (by omega) (by omega)]
  have es : Int32.ofNat k - 1 = Int32.ofNat (k - 1) := nn_sub (a := k) (b := 1) hk
  have e10 : ((1 : Int32) = 0) = False := by decide
  have e00 : ((0 : Int32) = 0) = True := by decide
  clear B H F
  rcases w with ⟨k5, ph, e0⟩ | ⟨(⟨k5, ph⟩ | kk'), e0⟩
  · have k5' : (G.kd q = 5) = True := eq_true k5
    have em' := (em k5).1
    subst e0
    simp (disch := omega) only [s_2_0, s_2_1, s_2_4, s_2_7, s_2_8, s_2_9, s_2_12, s_2_13, s_2_16, s_2_17, s_2_20, s_2_21, s_2_22, s_2_23, s_2_26, s_2_27, s_2_30, s_2_31, s_2_34, s_2_35, s_2_36, s_2_36x, s_2_37, s_2_40, s_2_41, s_2_44, s_2_47, s_2_48, s_2_48x, s_2_49, s_2_52, s_2_53, s_2_56, s_2_59, s_2_60, s_2_60x, s_2_61, e_2, mv_i_1, mv_l_1, mv_a_1, mv_a_2, mv_a_3, mk2_n, mk2_i, mk2_l, mk2_a, mk2_u, mk2_x, mB_T, mB_F, mS_cons, mS_nil, mSB_T, mSB_F, mca_nil, mca_i, mca_l, mca_r, mca_u, mca_x, mcat_i, mcat_l, mcat_r, mcat_u, mcat_x, mK_some, mK_none, va_rf_s, va_rf_n, lgc_eq, lgc_lt, lgc_gt, lgc_ge, lgc_le, mrd_104, mrd_105, mrd_106, mrd_107, true_and, and_true, and_self, false_and, and_false, true_or, or_true, false_or, or_false, not_true_eq_false, not_false_eq_true, mgb, mga, mgr, mN, reduceCtorEq, ↓reduceIte, eq_self, ge_iff_le, gt_iff_lt, hk_si, hk_sj, hk_sr, hl_si, hl_sj, hl_sr, hn_si, hn_sj, hn_sr, hs_si, hs_sj, hs_sr, hi_sj, hi_sr, hj_si, hj_sr, hr_si, hr_sj, hi_si, hj_sj, hr_sr, mg_si, mg_sj, mg_sr, Nat.reduceAdd, Nat.reduceMul, Nat.reduceSub, Nat.reduceLT, Nat.reduceGT, Nat.reduceEqDiff, Nat.reduceLeDiff, Nat.left_eq_add, Nat.add_eq_left, Nat.reduceMod, Nat.reduceDiv, Nat.succ_ne_self, g53, t4, g2, t3, g20, g20', l20, q1, q2, q3, i5, k5', e10, e00, t10, k9, es, g60, l60, ph, t8, g25, l25, em', nn_mxT, nn_clamp]
  · have k5' : (G.kd q = 5) = True := eq_true k5
    have ee' := (ee (by omega) (by omega)).1
    subst e0
    simp (disch := omega) only [s_2_0, s_2_1, s_2_4, s_2_7, s_2_8, s_2_9, s_2_12, s_2_13, s_2_16, s_2_17, s_2_20, s_2_21, s_2_22, s_2_23, s_2_26, s_2_27, s_2_30, s_2_31, s_2_34, s_2_35, s_2_36, s_2_36x, s_2_37, s_2_40, s_2_41, s_2_44, s_2_47, s_2_48, s_2_48x, s_2_49, s_2_52, s_2_53, s_2_56, s_2_59, s_2_60, s_2_60x, s_2_61, e_2, mv_i_1, mv_l_1, mv_a_1, mv_a_2, mv_a_3, mk2_n, mk2_i, mk2_l, mk2_a, mk2_u, mk2_x, mB_T, mB_F, mS_cons, mS_nil, mSB_T, mSB_F, mca_nil, mca_i, mca_l, mca_r, mca_u, mca_x, mcat_i, mcat_l, mcat_r, mcat_u, mcat_x, mK_some, mK_none, va_rf_s, va_rf_n, lgc_eq, lgc_lt, lgc_gt, lgc_ge, lgc_le, mrd_104, mrd_105, mrd_106, mrd_107, true_and, and_true, and_self, false_and, and_false, true_or, or_true, false_or, or_false, not_true_eq_false, not_false_eq_true, mgb, mga, mgr, mN, reduceCtorEq, ↓reduceIte, eq_self, ge_iff_le, gt_iff_lt, hk_si, hk_sj, hk_sr, hl_si, hl_sj, hl_sr, hn_si, hn_sj, hn_sr, hs_si, hs_sj, hs_sr, hi_sj, hi_sr, hj_si, hj_sr, hr_si, hr_sj, hi_si, hj_sj, hr_sr, mg_si, mg_sj, mg_sr, Nat.reduceAdd, Nat.reduceMul, Nat.reduceSub, Nat.reduceLT, Nat.reduceGT, Nat.reduceEqDiff, Nat.reduceLeDiff, Nat.left_eq_add, Nat.add_eq_left, Nat.reduceMod, Nat.reduceDiv, Nat.succ_ne_self, g53, t4, g2, t3, g20, g20', l20, q1, q2, q3, i5, k5', e10, e00, t10, k9, es, g60, l60, ph, t9, g26, l26, ee', nn_mxT, nn_clamp]
  · have k5' : (G.kd q = 5) = False := eq_false (by omega)
    have ee' := (ee (by omega) (by omega)).1
    subst e0
    simp (disch := omega) only [s_2_0, s_2_1, s_2_4, s_2_7, s_2_8, s_2_9, s_2_12, s_2_13, s_2_16, s_2_17, s_2_20, s_2_21, s_2_22, s_2_23, s_2_26, s_2_27, s_2_30, s_2_31, s_2_34, s_2_35, s_2_36, s_2_36x, s_2_37, s_2_40, s_2_41, s_2_44, s_2_47, s_2_48, s_2_48x, s_2_49, s_2_52, s_2_53, s_2_56, s_2_59, s_2_60, s_2_60x, s_2_61, e_2, mv_i_1, mv_l_1, mv_a_1, mv_a_2, mv_a_3, mk2_n, mk2_i, mk2_l, mk2_a, mk2_u, mk2_x, mB_T, mB_F, mS_cons, mS_nil, mSB_T, mSB_F, mca_nil, mca_i, mca_l, mca_r, mca_u, mca_x, mcat_i, mcat_l, mcat_r, mcat_u, mcat_x, mK_some, mK_none, va_rf_s, va_rf_n, lgc_eq, lgc_lt, lgc_gt, lgc_ge, lgc_le, mrd_104, mrd_105, mrd_106, mrd_107, true_and, and_true, and_self, false_and, and_false, true_or, or_true, false_or, or_false, not_true_eq_false, not_false_eq_true, mgb, mga, mgr, mN, reduceCtorEq, ↓reduceIte, eq_self, ge_iff_le, gt_iff_lt, hk_si, hk_sj, hk_sr, hl_si, hl_sj, hl_sr, hn_si, hn_sj, hn_sr, hs_si, hs_sj, hs_sr, hi_sj, hi_sr, hj_si, hj_sr, hr_si, hr_sj, hi_si, hj_sj, hr_sr, mg_si, mg_sj, mg_sr, Nat.reduceAdd, Nat.reduceMul, Nat.reduceSub, Nat.reduceLT, Nat.reduceGT, Nat.reduceEqDiff, Nat.reduceLeDiff, Nat.left_eq_add, Nat.add_eq_left, Nat.reduceMod, Nat.reduceDiv, Nat.succ_ne_self, g53, t4, g2, t3, g20, g20', l20, q1, q2, q3, i5, k5', e10, e00, t9, g26, l26, ee', nn_mxT, nn_clamp]
/-- operations on States, by their places -/
theorem w_copy (B : BS h Y C E TT UU SC SP nC nE nS) {b1 j1 b2 j2 o1 o2 : Nat} {v : Option ab} (p1 : isPl b1 j1) (p2 : isPl b2 j2) (ne : ¬ (b1 = b2 ∧ j1 = j2)) (e1 : mh_r h b1 j1 = some o1) (e2 : mh_r h b2 j2 = some o2) (k2 : pv h b2 j2 v) : ∃ h', zS (fun b j => b = b1 ∧ j = j1) (fun _ _ => False) h h' ∧ BS h' Y C E TT UU SC SP nC nE nS ∧ mh_r h' = mh_r h ∧ pv h' b1 j1 v ∧ ∀ Q, mcall (d + 1) 144 [.ref o1, .ref o2] h Q = Q none h' := by
  obtain ⟨o, e, k⟩ := k2
  rw [e2] at e
  cases e
  obtain ⟨h', f, k', e'⟩ := l_144 (d := d) 52 (cs_so B.S ⟨b1, j1, p1, e1⟩).1 k (fun z => ne (by rw [z] at e1; exact B.S.i b1 j1 b2 j2 o2 p1 p2 e1 e2))
  obtain ⟨x, B'⟩ := zS_q B p1 e1 f
  exact ⟨h', x, B', f.2.2.1, ⟨o1, by rw [f.2.2.1]; exact e1, k'⟩, e'⟩
theorem w_keep (B : BS h Y C E TT UU SC SP nC nE nS) {b1 j1 o1 n a : Nat} {v : Option ab} (p1 : isPl b1 j1) (e1 : mh_r h b1 j1 = some o1) (k1 : pv h b1 j1 v) (hn : n ≤ 12) (ha : a ≤ 6) (hv : ∀ A, v = some A → n ≤ A.n ∧ a ≤ A.a) : ∃ h', zS (fun b j => b = b1 ∧ j = j1) (fun _ _ => False) h h' ∧ BS h' Y C E TT UU SC SP nC nE nS ∧ mh_r h' = mh_r h ∧ pv h' b1 j1 (o_keep n a v) ∧ ∀ Q, mcall d 145 [.ref o1, .int (Int32.ofNat n), .int (Int32.ofNat a)] h Q = Q none h' := by
  obtain ⟨o, e, k⟩ := k1
  rw [e1] at e
  cases e
  have key : ∃ h', fq (sW o1 52) h h' ∧ RS h' o1 (o_keep n a v) ∧ ∀ Q, mcall d 145 [.ref o1, .int (Int32.ofNat n), .int (Int32.ofNat a)] h Q = Q none h' := by
    cases v with
    | none => exact l_145n 52 k hn ha
    | some A => exact l_145 52 k (hv A rfl).1 (hv A rfl).2
  obtain ⟨h', f, k', e'⟩ := key
  obtain ⟨x, B'⟩ := zS_q B p1 e1 f
  exact ⟨h', x, B', f.2.2.1, ⟨o1, by rw [f.2.2.1]; exact e1, k'⟩, e'⟩
theorem w_join (B : BS h Y C E TT UU SC SP nC nE nS) {b1 j1 b2 j2 o1 o2 : Nat} {v u : Option ab} (p1 : isPl b1 j1) (p2 : isPl b2 j2) (ne : ¬ (b1 = b2 ∧ j1 = j2)) (e1 : mh_r h b1 j1 = some o1) (e2 : mh_r h b2 j2 = some o2) (k1 : pv h b1 j1 v) (k2 : pv h b2 j2 u) (hn : ∀ A' B', v = some A' → u = some B' → A'.n = B'.n ∧ A'.a = B'.a) : ∃ h', zS (fun b j => b = b1 ∧ j = j1) (fun _ _ => False) h h' ∧ BS h' Y C E TT UU SC SP nC nE nS ∧ mh_r h' = mh_r h ∧ pv h' b1 j1 (o_join v u) ∧ ∀ Q, mcall (d + 2) 151 [.ref o1, .ref o2] h Q = Q none h' := by
  obtain ⟨o, e, k⟩ := k1
  rw [e1] at e
  cases e
  obtain ⟨o, e, k'⟩ := k2
  rw [e2] at e
  cases e
  obtain ⟨h', f, k'', e'⟩ := l_151o (d := d) 52 k k' (fun z => ne (by rw [z] at e1; exact B.S.i b1 j1 b2 j2 o2 p1 p2 e1 e2)) hn
  obtain ⟨x, B'⟩ := zS_q B p1 e1 f
  exact ⟨h', x, B', f.2.2.1, ⟨o1, by rw [f.2.2.1]; exact e1, k''⟩, e'⟩
theorem w_in {b1 j1 b2 j2 o1 o2 : Nat} {v u : Option ab} (e1 : mh_r h b1 j1 = some o1) (e2 : mh_r h b2 j2 = some o2) (k1 : pv h b1 j1 v) (k2 : pv h b2 j2 u) (hn : ∀ A' B', v = some A' → u = some B' → A'.n = B'.n ∧ A'.a = B'.a) : ∃ x : Int32, (x = 0 ∨ x = 1) ∧ (x = 1 ↔ o_le v u) ∧ ∀ Q, mcall (d + 1) 149 [.ref o1, .ref o2] h Q = Q (some (.int x)) h := by
  obtain ⟨o, e, k⟩ := k1
  rw [e1] at e
  cases e
  obtain ⟨o, e, k'⟩ := k2
  rw [e2] at e
  cases e
  cases v with
  | none => exact ⟨1, Or.inr rfl, ⟨fun _ => trivial, fun _ => rfl⟩, l_149n k k'⟩
  | some A =>
    cases u with
    | none => exact ⟨0, Or.inl rfl, ⟨fun z => absurd z (by decide), fun z => z.elim⟩, l_149m k k'⟩
    | some D => exact l_149 k k' (hn A D rfl rfl).1 (hn A D rfl rfl).2
theorem w_same {b1 j1 b2 j2 o1 o2 : Nat} {v u : Option ab} (e1 : mh_r h b1 j1 = some o1) (e2 : mh_r h b2 j2 = some o2) (k1 : pv h b1 j1 v) (k2 : pv h b2 j2 u) (hn : ∀ A' B', v = some A' → u = some B' → A'.n = B'.n ∧ A'.a = B'.a) : ∃ x : Int32, (x = 0 ∨ x = 1) ∧ (x = 1 ↔ (o_le v u ∧ o_le u v)) ∧ ∀ Q, mcall (d + 2) 150 [.ref o1, .ref o2] h Q = Q (some (.int x)) h := by
  obtain ⟨o, e, k⟩ := k1
  rw [e1] at e
  cases e
  obtain ⟨o, e, k'⟩ := k2
  rw [e2] at e
  cases e
  cases v with
  | none =>
    cases u with
    | none => exact ⟨1, Or.inr rfl, ⟨fun _ => ⟨trivial, trivial⟩, fun _ => rfl⟩, l_150n k k'⟩
    | some D => exact ⟨0, Or.inl rfl, ⟨fun z => absurd z (by decide), fun z => z.2.elim⟩, l_150l k k'⟩
  | some A =>
    cases u with
    | none => exact ⟨0, Or.inl rfl, ⟨fun z => absurd z (by decide), fun z => z.1.elim⟩, l_150r k k'⟩
    | some D => exact l_150 k k' (hn A D rfl rfl).1 (hn A D rfl rfl).2
end AMs
