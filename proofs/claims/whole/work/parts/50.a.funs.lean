set_option maxRecDepth 100000
/-! THE REFERENCE'S PARSER: functions -/
section HGs
variable {D N : Nat} {h : mh_H} {m : Nat} {K : Nat → Int32} {P : Nat → Nat} {V : Nat → Int}
theorem nm_d {s : pst} : (s.nm K P).dr = s.dr + 1 ∧ pSm s.dr s (s.nm K P) ∧ nf (s.nm K P) s.dr 13 (Int32.ofNat (P s.at)) (Int32.ofNat s.at) (-1) (-1) (-1) := by
  unfold pst.nm
  obtain ⟨t1, t2⟩ := tk_d (s := s.dft 13 (Int32.ofNat (P s.at)) (Int32.ofNat s.at)) (K := K) (P := P) (c := 2)
  exact ⟨t1, pSm_t (dft_m (Nat.le_refl _)) (t2 s.dr), nf_S (dft_n (s := s)) (t2 (s.dr + 1)) (by omega)⟩
theorem nm_b {s : pst} (b : s.bd = true) : (s.nm K P).bd = true ∧ (s.nm K P).at = s.at ∧ (s.nm K P).fl = s.fl := by
  unfold pst.nm
  have b' : (s.dft 13 (Int32.ofNat (P s.at)) (Int32.ofNat s.at)).bd = true := b
  rw [tk_b b']
  exact ⟨b, rfl, rfl⟩
/-- behind a fault: a NAME joined -/
theorem bt_n (R : RTK h m K P V) {s t : pst} {a o : Nat} {k p v Fx L Nx : Int32} (hm' : pSm a s t) (b : t.bd = true) (lt : t.at < m) (ho : a ≤ o) (ho2 : o < t.dr) (hdr : t.dr + 1 ≤ 52000) (w : nf t o k p v Fx L Nx) (hw : Fx = -1 ∨ (¬ Fx = -1 ∧ ∃ l, L = Int32.ofNat l ∧ a ≤ l ∧ l < 52000)) (hlo : ∀ l, L = Int32.ofNat l → l < 1000000 → l ≠ o) : ∃ t2, pSm a s t2 ∧ t2.at = t.at ∧ t2.bd = true ∧ t2.fl = t.fl ∧ t2.dr = t.dr + 1 ∧ (∃ F2 N2, nf t2 o k p v F2 (Int32.ofNat t.dr) N2 ∧ ¬ F2 = -1) ∧ (∀ D Q, mcall (D + 2) 315 [.ref 81] (pH h t) Q = Q (some (.int (Int32.ofNat t.dr))) (pH h (t.nm K P))) ∧ ∀ D Q, mcall D 314 [.ref 81, .int (Int32.ofNat o), .int (Int32.ofNat t.dr)] (pH h (t.nm K P)) Q = Q none (pH h t2) := by
  obtain ⟨d1, d2, -⟩ := nm_d (K := K) (P := P) (s := t)
  obtain ⟨e1, e2, e3⟩ := nm_b (K := K) (P := P) b
  have w1 := nf_S w d2 ho2
  obtain ⟨f1, f2, f3, f4⟩ := jn_f (s := t.nm K P) (o := o) (y := t.dr)
  have hl : ¬ (t.nm K P).F o = -1 → ∃ l, l < 52000 ∧ (t.nm K P).L o = Int32.ofNat l := fun c => by
    rcases hw with z | ⟨z, l, l1, l2, l3⟩
    · exact absurd (w1.2.2.2.1.trans z) c
    · exact ⟨l, l3, w1.2.2.2.2.1.trans l1⟩
  refine ⟨(t.nm K P).jn o t.dr, ?_, f1.trans e2, f2.trans e1, f3.trans e3, f4.trans d1, ?_, fun D Q => c_315 R lt (by omega) Q, fun D Q => c_314 R.F (by omega) (by omega) hl Q⟩
  · rcases hw with z | ⟨z, l, l1, l2, l3⟩
    · subst z
      exact fun y hy => pE_t (hm' y hy) (pE_t (d2 y (by omega)) (jn1_E w1 (by omega)))
    · subst l1
      exact fun y hy => pE_t (hm' y hy) (pE_t (d2 y (by omega)) (jn2_E w1 z (by omega) (by omega) (by omega)))
  · rcases hw with z | ⟨z, l, l1, l2, l3⟩
    · subst z
      exact ⟨_, _, jn1_n w1, ofn_m (by omega)⟩
    · subst l1
      exact ⟨_, _, jn2_n w1 z (by omega) (hlo l rfl (by omega)), z⟩
/-- the parameters behind the first one -/
theorem l_328 (R : RTK h m K P V) {s0 : pst} {i a o q e : Nat} {fx k p v : Int32} (h52 : a + 2 * (m - i) + 8 ≤ 52000) : ∀ f (s : pst) (x : pqr), GS P false s0 i a o q e fx k p v s x → x.1 < m → m - x.1 + 1 ≤ f → (bnd x fun r j => bnd (pgM K P f j) fun t k => (k, some (tC r t))).1 < m ∧ ∃ s', GS P false s0 i a o q e fx k p v s' (bnd x fun r j => bnd (pgM K P f j) fun t k => (k, some (tC r t))) ∧ ∀ Q, mw (D + 4) 328 Q 56 [some (.ref 81), some (.int (Int32.ofNat o))] [] (pH h s) = mw (D + 4) 328 Q 89 [some (.ref 81), some (.int (Int32.ofNat o))] [] (pH h s') := by
  have g := R.F.g 81 14 70 (by decide +kernel)
  have bad : ∀ (s : pst), s.at < m → s.bd = true → ∀ Q, mw (D + 4) 328 Q 56 [some (.ref 81), some (.int (Int32.ofNat o))] [] (pH h s) = mw (D + 4) 328 Q 89 [some (.ref 81), some (.int (Int32.ofNat o))] [] (pH h s) := by
    intro s lt bd Q
    have q0 := c_310 (D := D + 3) R lt
    rw [lk_b bd] at q0
    have q1 := c_312 (D := D + 2) (s := s) R lt (c := 41) (y := 41) (by decide) rfl (by decide)
    rw [tk_b bd] at q1
    have y1 : (rkd 1 = 44) = False := by decide
    clear R
    rw [s_328_56]
    simp (disch := omega) only [s_328_0, s_328_1, s_328_2, s_328_3, s_328_6, s_328_7, s_328_10, s_328_11, s_328_12, s_328_15, s_328_16, s_328_17, s_328_20, s_328_23, s_328_24, s_328_25, s_328_26, s_328_29, s_328_32, s_328_33, s_328_35, s_328_38, s_328_39, s_328_42, s_328_44, s_328_47, s_328_48, s_328_49, s_328_50, s_328_53, s_328_57, s_328_60, s_328_62, s_328_65, s_328_66, s_328_68, s_328_71, s_328_72, s_328_73, s_328_74, s_328_77, s_328_80, s_328_83, s_328_84, s_328_86, s_328_90, s_328_91, s_328_92, s_328_95, s_328_98, s_328_99, s_328_102, s_328_103, s_328_104, s_328_107, s_328_110, s_328_111, e_328, mv_i_1, mv_l_1, mv_a_1, mv_a_2, mv_a_3, mk2_n, mk2_i, mk2_l, mk2_a, mk2_u, mk2_x, mB_T, mB_F, mS_cons, mS_nil, mSB_T, mSB_F, mca_nil, mca_i, mca_l, mca_r, mca_u, mca_x, mcat_i, mcat_l, mcat_r, mcat_u, mcat_x, mK_some, mK_none, va_rf_s, va_rf_n, lgc_eq, lgc_lt, lgc_gt, lgc_ge, lgc_le, mrd_104, mrd_105, mrd_106, mrd_107, true_and, and_true, and_self, false_and, and_false, true_or, or_true, false_or, or_false, not_true_eq_false, not_false_eq_true, mgb, mga, mgr, mN, reduceCtorEq, ↓reduceIte, eq_self, ge_iff_le, gt_iff_lt, Nat.reduceAdd, Nat.reduceMul, Nat.reduceSub, Nat.reduceLT, Nat.reduceGT, Nat.reduceEqDiff, Nat.reduceLeDiff, Nat.left_eq_add, Nat.add_eq_left, Nat.reduceMod, Nat.reduceDiv, Nat.succ_ne_self, pH_g, g, q0, y1, q1]
  intro f
  induction f with
  | zero => intro s x G hx hf; omega
  | succ f ih =>
    intro s x G hx hf
    have a0 := G.2.1
    have hi' := G.2.2.1.2.2.2
    have lt : s.at < m := by rw [a0]; exact hx
    obtain ⟨j, ot⟩ := x
    have a0' : s.at = j := a0
    have hx' : j < m := hx
    have hi'' : i ≤ j := hi'
    have hf' : m - j + 1 ≤ f + 1 := hf
    have cs := G.2.2.2.2.2
    rcases ot with _ | r
    · have bd : s.bd = true := by
        rcases cs with ⟨r, z, -⟩ | ⟨-, z, -⟩
        · cases z
        · exact z
      exact ⟨hx', s, G, bad s lt bd⟩
    · have bd : s.bd = false := by
        rcases cs with ⟨r, -, z, -⟩ | ⟨z, -⟩
        · exact z
        · cases z
      have q0 := c_310 (D := D + 3) R lt
      rw [lk_0 bd, a0'] at q0
      have eM : pgM K P (f + 1) j = if K j = 44 then tak K 2 (j + 1) (bnd (pgM K P f (j + 2)) fun r k => (k, some (.branch (tE 13 (P (j + 1)) (j + 1)) (.leaf ()) r))) else tak K 41 j (j + 1, some (.leaf ())) := rfl
      rw [bnd_o, eM]
      by_cases c : K j = 44
      · rw [if_pos c]
        have h1 := tkM_s R.M hx' c (by decide) (by decide)
        have y1 : (rkd (K j) = 44) = True := by rw [rk_e (R.k _ hx').2 (c := 44) (y := 44) (by decide) rfl]; exact eq_true c
        have q1 := c_312 (D := D + 2) (s := s) R lt (c := 44) (y := 44) (by decide) rfl (by decide)
        have G1 := GS_tk (K := K) (c := 44) (by show a + 2 * (j - i) + 8 ≤ 52000; omega) G
        have e1 : (bnd (j, some r) fun r j => tak K 44 j (j + 1, some r)) = (j + 1, some r) := by rw [bnd_o]; exact if_pos c
        rw [e1] at G1
        have bd1 : (s.tk K P 44).bd = false := by rw [tk_1 bd (by rw [a0']; exact c)]; exact bd
        generalize s.tk K P 44 = s1 at *
        obtain ⟨b2, s2, G2, z2⟩ := GS_sub (m := m) (Fp := fun j => tak K 2 j (j + 1, some (tL (tE 13 (P j) (j : Int))))) (M := 315) (D := D + 3) (ar := [.ref 81]) R.F G1 h52 h1 (fun y1 y2 y3 => ⟨_, _, nm_sr R y2 y1, c_315 (D := D + 1) R y2 (by omega)⟩) (fun j hj => nam_b R.M hj)
        have run : ∀ Q, mw (D + 4) 328 Q 56 [some (.ref 81), some (.int (Int32.ofNat o))] [] (pH h s) = mw (D + 4) 328 Q 56 [some (.ref 81), some (.int (Int32.ofNat o))] [] (pH h s2) := by
          intro Q
          rcases z2 with ⟨z, -⟩ | ⟨-, s7, v7, u1, u2⟩
          · rw [bd1] at z; cases z
          have u2' := u2 (D + 3)
          clear R ih G cs G1 G2 b2 u2 eM bad
          rw [s_328_56]
          simp (disch := omega) only [s_328_0, s_328_1, s_328_2, s_328_3, s_328_6, s_328_7, s_328_10, s_328_11, s_328_12, s_328_15, s_328_16, s_328_17, s_328_20, s_328_23, s_328_24, s_328_25, s_328_26, s_328_29, s_328_32, s_328_33, s_328_35, s_328_38, s_328_39, s_328_42, s_328_44, s_328_47, s_328_48, s_328_49, s_328_50, s_328_53, s_328_57, s_328_60, s_328_62, s_328_65, s_328_66, s_328_68, s_328_71, s_328_72, s_328_73, s_328_74, s_328_77, s_328_80, s_328_83, s_328_84, s_328_86, s_328_90, s_328_91, s_328_92, s_328_95, s_328_98, s_328_99, s_328_102, s_328_103, s_328_104, s_328_107, s_328_110, s_328_111, e_328, mv_i_1, mv_l_1, mv_a_1, mv_a_2, mv_a_3, mk2_n, mk2_i, mk2_l, mk2_a, mk2_u, mk2_x, mB_T, mB_F, mS_cons, mS_nil, mSB_T, mSB_F, mca_nil, mca_i, mca_l, mca_r, mca_u, mca_x, mcat_i, mcat_l, mcat_r, mcat_u, mcat_x, mK_some, mK_none, va_rf_s, va_rf_n, lgc_eq, lgc_lt, lgc_gt, lgc_ge, lgc_le, mrd_104, mrd_105, mrd_106, mrd_107, true_and, and_true, and_self, false_and, and_false, true_or, or_true, false_or, or_false, not_true_eq_false, not_false_eq_true, mgb, mga, mgr, mN, reduceCtorEq, ↓reduceIte, eq_self, ge_iff_le, gt_iff_lt, Nat.reduceAdd, Nat.reduceMul, Nat.reduceSub, Nat.reduceLT, Nat.reduceGT, Nat.reduceEqDiff, Nat.reduceLeDiff, Nat.left_eq_add, Nat.add_eq_left, Nat.reduceMod, Nat.reduceDiv, Nat.succ_ne_self, pH_g, g, q0, y1, q1, u1, u2']
        rw [bnd_o] at G2 b2
        have lt2 : s2.at < m := by rw [G2.2.1]; exact b2
        by_cases c2 : K (j + 1) = 2
        · have h2 := tkM_s R.M h1 c2 (by decide) (by decide)
          have et : ∀ r, tak K 2 (j + 1) r = r := fun r => if_pos c2
          rw [et] at G2 b2
          rw [et]
          rw [bnd_o] at G2
          obtain ⟨b3, s3, G3, z3⟩ := ih s2 _ G2 h2 (by show m - (j + 1 + 1) + 1 ≤ f; omega)
          have EQ : (bnd (j + 1 + 1, some (tC r (tL (tE 13 (P (j + 1)) ((j + 1 : Nat) : Int))))) fun r j => bnd (pgM K P f j) fun t k => (k, some (tC r t))) = (bnd (bnd (pgM K P f (j + 2)) fun r k => (k, some (.branch (tE 13 (P (j + 1)) (j + 1)) (.leaf ()) r))) fun t k => (k, some (tC r t))) := by
            rw [bnd_o, bnd_b]
            exact bnd_f (fun t k => by rw [tC_a]; rfl)
          rw [EQ] at G3 b3
          exact ⟨b3, s3, G3, fun Q => by rw [run Q]; exact z3 Q⟩
        · have et : ∀ r, tak K 2 (j + 1) r = (j + 1, none) := fun r => if_neg c2
          rw [et] at G2 b2
          rw [et]
          have bd2 : s2.bd = true := by
            rcases G2.2.2.2.2.2 with ⟨r, z, -⟩ | ⟨-, z, -⟩
            · cases z
            · exact z
          exact ⟨b2, s2, G2, fun Q => by rw [run Q]; exact bad s2 lt2 bd2 Q⟩
      · rw [if_neg c]
        have y1 : (rkd (K j) = 44) = False := by rw [rk_e (R.k _ hx').2 (c := 44) (y := 44) (by decide) rfl]; exact eq_false c
        have q1 := c_312 (D := D + 2) (s := s) R lt (c := 41) (y := 41) (by decide) rfl (by decide)
        have G1 := GS_tk (K := K) (c := 41) (by show a + 2 * (j - i) + 8 ≤ 52000; omega) G
        have b1 := gd_bt (m := m) (x := (j, some r)) (c := 41) R.M (by decide) (by decide) hx'
        have EQ : (bnd (j, some r) fun r j => tak K 41 j (j + 1, some r)) = (bnd (tak K 41 j (j + 1, some (.leaf ()))) fun t k => (k, some (tC r t))) := by
          rw [bnd_o, bnd_t, bnd_o, tC_l]
        rw [EQ] at G1 b1
        refine ⟨b1, _, G1, fun Q => ?_⟩
        clear R ih G cs G1 b1 EQ eM bad
        rw [s_328_56]
        simp (disch := omega) only [s_328_0, s_328_1, s_328_2, s_328_3, s_328_6, s_328_7, s_328_10, s_328_11, s_328_12, s_328_15, s_328_16, s_328_17, s_328_20, s_328_23, s_328_24, s_328_25, s_328_26, s_328_29, s_328_32, s_328_33, s_328_35, s_328_38, s_328_39, s_328_42, s_328_44, s_328_47, s_328_48, s_328_49, s_328_50, s_328_53, s_328_57, s_328_60, s_328_62, s_328_65, s_328_66, s_328_68, s_328_71, s_328_72, s_328_73, s_328_74, s_328_77, s_328_80, s_328_83, s_328_84, s_328_86, s_328_90, s_328_91, s_328_92, s_328_95, s_328_98, s_328_99, s_328_102, s_328_103, s_328_104, s_328_107, s_328_110, s_328_111, e_328, mv_i_1, mv_l_1, mv_a_1, mv_a_2, mv_a_3, mk2_n, mk2_i, mk2_l, mk2_a, mk2_u, mk2_x, mB_T, mB_F, mS_cons, mS_nil, mSB_T, mSB_F, mca_nil, mca_i, mca_l, mca_r, mca_u, mca_x, mcat_i, mcat_l, mcat_r, mcat_u, mcat_x, mK_some, mK_none, va_rf_s, va_rf_n, lgc_eq, lgc_lt, lgc_gt, lgc_ge, lgc_le, mrd_104, mrd_105, mrd_106, mrd_107, true_and, and_true, and_self, false_and, and_false, true_or, or_true, false_or, or_false, not_true_eq_false, not_false_eq_true, mgb, mga, mgr, mN, reduceCtorEq, ↓reduceIte, eq_self, ge_iff_le, gt_iff_lt, Nat.reduceAdd, Nat.reduceMul, Nat.reduceSub, Nat.reduceLT, Nat.reduceGT, Nat.reduceEqDiff, Nat.reduceLeDiff, Nat.left_eq_add, Nat.add_eq_left, Nat.reduceMod, Nat.reduceDiv, Nat.succ_ne_self, pH_g, g, q0, y1, q1]
end HGs
