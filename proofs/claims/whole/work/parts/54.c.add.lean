set_option maxRecDepth 100000
/-! the reference's add; drafts by their pointers -/
def incS (h : mh_H) : List Nat → mh_H
  | [] => h
  | a :: l => incS (mh_si h 97 a (mh_i h 97 a + 1)) l
/-- the nodes above -/
def anC (Wh : Nat → Int32) : List Nat → Int32 → Prop
  | [], x => x = -1
  | a :: l, x => x = Int32.ofNat a ∧ a < 26000 ∧ anC Wh l (Wh a)
def ndH (h : mh_H) (c : Nat) (k p v o : Int32) : mh_H := mh_si (mh_si (mh_si (mh_si (mh_si h 93 c k) 94 c p) 95 c v) 96 c o) 97 c 1
def addH (h : mh_H) (c : Nat) (k p v o : Int32) (l : List Nat) : mh_H := mh_si (incS (ndH h c k p v o) l) 81 24 (Int32.ofNat (c + 1))
/-- a row of drafts by pointers -/
def tpt (K P V F N : Nat → Int32) (lim : Nat) : tr → Int32 → Prop
  | .leaf _, x => x = -1
  | .branch n cs r, x => ∃ i, x = Int32.ofNat i ∧ i < lim ∧ K i = Int32.ofNat (tK n) ∧ P i = Int32.ofNat (tP n) ∧ (V i).toInt = tV n ∧ tpt K P V F N lim cs (F i) ∧ tpt K P V F N lim r (N i)
section ADz
variable {d : Nat} {h : mh_H} {c : Nat} {k p v o : Int32} {l : List Nat}
theorem in_k : ∀ (l : List Nat) (h : mh_H), mh_k (incS h l) = mh_k h ∧ mh_l (incS h l) = mh_l h ∧ mh_r (incS h l) = mh_r h ∧ mh_n (incS h l) = mh_n h ∧ mh_s (incS h l) = mh_s h ∧ mh_j (incS h l) = mh_j h ∧ ∀ b j, b ≠ 97 → mh_i (incS h l) b j = mh_i h b j := by
  intro l
  induction l with
  | nil => exact fun h => ⟨rfl, rfl, rfl, rfl, rfl, rfl, fun _ _ _ => rfl⟩
  | cons a l ih =>
    intro h
    obtain ⟨i1, i2, i3, i4, i5, i6, i7⟩ := ih (mh_si h 97 a (mh_i h 97 a + 1))
    exact ⟨i1, i2, i3, i4, i5, i6, fun b j hb => (i7 b j hb).trans (by rw [hi_si, if_neg (fun z => hb z.1)])⟩
theorem in_i : ∀ (l : List Nat) (h : mh_H) j, l.Nodup → mh_i (incS h l) 97 j = if j ∈ l then mh_i h 97 j + 1 else mh_i h 97 j := by
  intro l
  induction l with
  | nil =>
    intro h j _
    rw [if_neg (fun z => by cases z)]
    rfl
  | cons a l ih =>
    intro h j nd
    obtain ⟨n1, n2⟩ := List.nodup_cons.mp nd
    show mh_i (incS (mh_si h 97 a (mh_i h 97 a + 1)) l) 97 j = _
    rw [ih _ j n2, hi_si]
    by_cases c1 : j = a
    · subst c1
      rw [if_neg n1, if_pos ⟨rfl, rfl⟩, if_pos List.mem_cons_self]
    · rw [if_neg (show ¬ (97 = 97 ∧ j = a) from fun z => c1 z.2)]
      by_cases c2 : j ∈ l
      · rw [if_pos c2, if_pos (List.mem_cons_of_mem _ c2)]
      · rw [if_neg c2, if_neg (fun z => by rcases List.mem_cons.mp z with q | q; exact c1 q; exact c2 q)]
theorem anC_c {W W' : Nat → Int32} : ∀ (l : List Nat) x, (∀ a, a ∈ l → W' a = W a) → anC W l x → anC W' l x := by
  intro l
  induction l with
  | nil => exact fun x _ z => z
  | cons a l ih =>
    intro x e z
    obtain ⟨z1, z2, z3⟩ := z
    refine ⟨z1, z2, ?_⟩
    rw [e a List.mem_cons_self]
    exact ih _ (fun b hb => e b (List.mem_cons_of_mem _ hb)) z3
theorem l_300 {x1 x2 x3 : Option Value} {o4 : Int32} : ∀ (l : List Nat) (h : mh_H) x, RF h → anC (mh_i h 96) l x → ∀ Q, mw d 300 Q 56 [some (.ref 81), x1, x2, x3, some (.int o4), some (.int x)] [] h = mw d 300 Q 85 [some (.ref 81), x1, x2, x3, some (.int o4), some (.int (-1))] [] (incS h l) := by
  intro l
  induction l with
  | nil =>
    intro h x F z Q
    have z' : x = -1 := z
    subst z'
    have e : ((-1 : Int32) = -1) = True := eq_true rfl
    show _ = mw d 300 Q 85 _ [] h
    rw [s_300_56]
    simp only [s_300_0, s_300_1, s_300_4, s_300_5, s_300_8, s_300_9, s_300_10, s_300_11, s_300_12, s_300_15, s_300_16, s_300_19, s_300_20, s_300_21, s_300_22, s_300_25, s_300_26, s_300_29, s_300_30, s_300_31, s_300_32, s_300_35, s_300_36, s_300_39, s_300_41, s_300_42, s_300_43, s_300_46, s_300_47, s_300_50, s_300_51, s_300_52, s_300_54, s_300_58, s_300_59, s_300_62, s_300_63, s_300_66, s_300_68, s_300_68l, s_300_69, s_300_70, s_300_71, s_300_72, s_300_73, s_300_74, s_300_77, s_300_79, s_300_80, s_300_82, s_300_86, s_300_87, s_300_90, s_300_91, s_300_92, s_300_95, s_300_96, s_300_99, s_300_100, s_300_101, e_300, mv_i_1, mv_l_1, mv_a_1, mv_a_2, mv_a_3, mk2_n, mk2_i, mk2_l, mk2_a, mk2_u, mk2_x, mB_T, mB_F, mS_cons, mS_nil, mSB_T, mSB_F, mca_nil, mca_i, mca_l, mca_r, mca_u, mca_x, mcat_i, mcat_l, mcat_r, mcat_u, mcat_x, mK_some, mK_none, va_rf_s, va_rf_n, lgc_eq, lgc_lt, lgc_gt, lgc_ge, lgc_le, mrd_104, mrd_105, mrd_106, mrd_107, true_and, and_true, and_self, false_and, and_false, true_or, or_true, false_or, or_false, not_true_eq_false, not_false_eq_true, mgb, mga, mgr, mN, reduceCtorEq, ↓reduceIte, eq_self, ge_iff_le, gt_iff_lt, e]
  | cons a l ih =>
    intro h x F z Q
    obtain ⟨z1, z2, z3⟩ := z
    have g := F.g 81 14 70 (by decide +kernel)
    have r22 := F.f 81 22 96 (by decide +kernel)
    have g22 := F.g 96 100 26000 (by decide +kernel)
    have l22 := F.l 96 100 26000 (by decide +kernel)
    have r23 := F.f 81 23 97 (by decide +kernel)
    have g23 := F.g 97 100 26000 (by decide +kernel)
    have l23 := F.l 97 100 26000 (by decide +kernel)
    have F' : RF (mh_si h 97 a (mh_i h 97 a + 1)) := F
    have i1 := ih (mh_si h 97 a (mh_i h 97 a + 1)) (mh_i h 96 a) F' (anC_c l _ (fun b _ => by rw [hi_si, if_neg (by omega)]) z3) Q
    have ne : (Int32.ofNat a = -1) = False := nn_m2 (by omega)
    subst z1
    show _ = mw d 300 Q 85 _ [] (incS (mh_si h 97 a (mh_i h 97 a + 1)) l)
    rw [← i1]
    clear i1 ih F F' z3
    rw [s_300_56]
    simp (disch := omega) only [s_300_0, s_300_1, s_300_4, s_300_5, s_300_8, s_300_9, s_300_10, s_300_11, s_300_12, s_300_15, s_300_16, s_300_19, s_300_20, s_300_21, s_300_22, s_300_25, s_300_26, s_300_29, s_300_30, s_300_31, s_300_32, s_300_35, s_300_36, s_300_39, s_300_41, s_300_42, s_300_43, s_300_46, s_300_47, s_300_50, s_300_51, s_300_52, s_300_54, s_300_58, s_300_59, s_300_62, s_300_63, s_300_66, s_300_68, s_300_68l, s_300_69, s_300_70, s_300_71, s_300_72, s_300_73, s_300_74, s_300_77, s_300_79, s_300_80, s_300_82, s_300_86, s_300_87, s_300_90, s_300_91, s_300_92, s_300_95, s_300_96, s_300_99, s_300_100, s_300_101, e_300, mv_i_1, mv_l_1, mv_a_1, mv_a_2, mv_a_3, mk2_n, mk2_i, mk2_l, mk2_a, mk2_u, mk2_x, mB_T, mB_F, mS_cons, mS_nil, mSB_T, mSB_F, mca_nil, mca_i, mca_l, mca_r, mca_u, mca_x, mcat_i, mcat_l, mcat_r, mcat_u, mcat_x, mK_some, mK_none, va_rf_s, va_rf_n, lgc_eq, lgc_lt, lgc_gt, lgc_ge, lgc_le, mrd_104, mrd_105, mrd_106, mrd_107, true_and, and_true, and_self, false_and, and_false, true_or, or_true, false_or, or_false, not_true_eq_false, not_false_eq_true, mgb, mga, mgr, mN, reduceCtorEq, ↓reduceIte, eq_self, ge_iff_le, gt_iff_lt, hk_si, hk_sj, hk_sr, hl_si, hl_sj, hl_sr, hn_si, hn_sj, hn_sr, hs_si, hs_sj, hs_sr, hi_sj, hi_sr, hj_si, hj_sr, hr_si, hr_sj, hi_si, hj_sj, hr_sr, mg_si, mg_sj, mg_sr, Nat.reduceAdd, Nat.reduceMul, Nat.reduceSub, Nat.reduceLT, Nat.reduceGT, Nat.reduceEqDiff, Nat.reduceLeDiff, Nat.left_eq_add, Nat.add_eq_left, Nat.reduceMod, Nat.reduceDiv, Nat.succ_ne_self, g, r22, g22, l22, r23, g23, l23, ne, nn_mxT, nn_clamp]
theorem i2b_64 : ∀ m, m < 64 → (vp_nar .byte (Int32.ofNat m).toInt8.toInt32) = Int32.ofNat m := by decide +kernel
theorem u_300 (F : RF h) {kk : Nat} (hk : kk < 64) (e : mh_i h 81 24 = Int32.ofNat c) (hc : c < 26000) (A : anC (mh_i h 96) l o) (hl : c ∉ l) : ∀ Q, mcall d 300 [.ref 81, .int (Int32.ofNat kk), .int p, .int v, .int o] h Q = Q (some (.int (Int32.ofNat c))) (addH h c (Int32.ofNat kk) p v o l) := by
  intro Q
  have g := F.g 81 14 70 (by decide +kernel)
  have r19 := F.f 81 19 93 (by decide +kernel)
  have g19 := F.g 93 102 26000 (by decide +kernel)
  have g19a := g19.1
  have g19b := g19.2
  have l19 := F.l 93 102 26000 (by decide +kernel)
  have r20 := F.f 81 20 94 (by decide +kernel)
  have g20 := F.g 94 100 26000 (by decide +kernel)
  have l20 := F.l 94 100 26000 (by decide +kernel)
  have r21 := F.f 81 21 95 (by decide +kernel)
  have g21 := F.g 95 100 26000 (by decide +kernel)
  have l21 := F.l 95 100 26000 (by decide +kernel)
  have r22 := F.f 81 22 96 (by decide +kernel)
  have g22 := F.g 96 100 26000 (by decide +kernel)
  have l22 := F.l 96 100 26000 (by decide +kernel)
  have r23 := F.f 81 23 97 (by decide +kernel)
  have g23 := F.g 97 100 26000 (by decide +kernel)
  have l23 := F.l 97 100 26000 (by decide +kernel)
  have e1' : ∀ k, Int32.ofNat k + 1 = Int32.ofNat (k + 1) := fun k => nn_add (a := k) (b := 1)
  have es1 : Int32.ofNat (c + 1) - 1 = Int32.ofNat c := nn_sub (a := c + 1) (b := 1) (by omega)
  have nb : ∀ h' : mh_H, mh_k h' 93 = 102 → mna h' 93 (Int32.ofNat kk).toInt8.toInt32 = Int32.ofNat kk := fun h' hh => by
    unfold mna
    rw [if_pos hh]
    exact i2b_64 kk hk
  have nb' := nb h g19a
  have F2 : RF (ndH h c (Int32.ofNat kk) p v o) := F
  have A2 : anC (mh_i (ndH h c (Int32.ofNat kk) p v o) 96) l o := anC_c l o (fun a ha => by
    have ne : a ≠ c := fun z => hl (by rw [← z]; exact ha)
    unfold ndH
    rw [hi_si, if_neg (by omega), hi_si, if_neg (by omega), hi_si, if_neg (by omega), hi_si, if_neg (by omega), hi_si, if_neg (by omega)]) A
  have lp := l_300 (d := d) (x1 := some (.int (Int32.ofNat kk))) (x2 := some (.int p)) (x3 := some (.int v)) (o4 := o) l _ o F2 A2 Q
  obtain ⟨q1, q2, q3, q4, q5, q6, q7⟩ := in_k l (ndH h c (Int32.ofNat kk) p v o)
  have gg : mg (incS (ndH h c (Int32.ofNat kk) p v o) l) 81 14 := ⟨by rw [q1]; exact g.1, by rw [q4]; exact g.2⟩
  have ee : mh_i (incS (ndH h c (Int32.ofNat kk) p v o) l) 81 24 = Int32.ofNat c := by
    rw [q7 81 24 (by decide)]
    unfold ndH
    rw [hi_si, if_neg (by omega), hi_si, if_neg (by omega), hi_si, if_neg (by omega), hi_si, if_neg (by omega), hi_si, if_neg (by omega)]
    exact e
  have end_ : mw d 300 Q 85 [some (.ref 81), some (.int (Int32.ofNat kk)), some (.int p), some (.int v), some (.int o), some (.int (-1))] [] (incS (ndH h c (Int32.ofNat kk) p v o) l) = Q (some (.int (Int32.ofNat c))) (addH h c (Int32.ofNat kk) p v o l) := by
    unfold addH
    generalize incS (ndH h c (Int32.ofNat kk) p v o) l = hh at gg ee
    clear lp A A2 F F2
    simp (disch := omega) only [s_300_0, s_300_1, s_300_4, s_300_5, s_300_8, s_300_9, s_300_10, s_300_11, s_300_12, s_300_15, s_300_16, s_300_19, s_300_20, s_300_21, s_300_22, s_300_25, s_300_26, s_300_29, s_300_30, s_300_31, s_300_32, s_300_35, s_300_36, s_300_39, s_300_41, s_300_42, s_300_43, s_300_46, s_300_47, s_300_50, s_300_51, s_300_52, s_300_54, s_300_56, s_300_58, s_300_59, s_300_62, s_300_63, s_300_66, s_300_68, s_300_68l, s_300_69, s_300_70, s_300_71, s_300_72, s_300_73, s_300_74, s_300_77, s_300_79, s_300_80, s_300_82, s_300_85, s_300_86, s_300_87, s_300_90, s_300_91, s_300_92, s_300_95, s_300_96, s_300_99, s_300_100, s_300_101, e_300, mv_i_1, mv_l_1, mv_a_1, mv_a_2, mv_a_3, mk2_n, mk2_i, mk2_l, mk2_a, mk2_u, mk2_x, mB_T, mB_F, mS_cons, mS_nil, mSB_T, mSB_F, mca_nil, mca_i, mca_l, mca_r, mca_u, mca_x, mcat_i, mcat_l, mcat_r, mcat_u, mcat_x, mK_some, mK_none, va_rf_s, va_rf_n, lgc_eq, lgc_lt, lgc_gt, lgc_ge, lgc_le, mrd_104, mrd_105, mrd_106, mrd_107, true_and, and_true, and_self, false_and, and_false, true_or, or_true, false_or, or_false, not_true_eq_false, not_false_eq_true, mgb, mga, mgr, mN, reduceCtorEq, ↓reduceIte, eq_self, ge_iff_le, gt_iff_lt, hk_si, hk_sj, hk_sr, hl_si, hl_sj, hl_sr, hn_si, hn_sj, hn_sr, hs_si, hs_sj, hs_sr, hi_sj, hi_sr, hj_si, hj_sr, hr_si, hr_sj, hi_si, hj_sj, hr_sr, mg_si, mg_sj, mg_sr, Nat.reduceAdd, Nat.reduceMul, Nat.reduceSub, Nat.reduceLT, Nat.reduceGT, Nat.reduceEqDiff, Nat.reduceLeDiff, Nat.left_eq_add, Nat.add_eq_left, Nat.reduceMod, Nat.reduceDiv, Nat.succ_ne_self, gg, ee, e1', es1]
  rw [← end_, ← lp]
  unfold ndH
  clear lp end_ A A2 F F2 gg ee q1 q2 q3 q4 q5 q6 q7
  simp (disch := omega) only [s_300_0, s_300_1, s_300_4, s_300_5, s_300_8, s_300_9, s_300_10, s_300_11, s_300_12, s_300_15, s_300_16, s_300_19, s_300_20, s_300_21, s_300_22, s_300_25, s_300_26, s_300_29, s_300_30, s_300_31, s_300_32, s_300_35, s_300_36, s_300_39, s_300_41, s_300_42, s_300_43, s_300_46, s_300_47, s_300_50, s_300_51, s_300_52, s_300_54, s_300_58, s_300_59, s_300_62, s_300_63, s_300_66, s_300_68, s_300_68l, s_300_69, s_300_70, s_300_71, s_300_72, s_300_73, s_300_74, s_300_77, s_300_79, s_300_80, s_300_82, s_300_85, s_300_86, s_300_87, s_300_90, s_300_91, s_300_92, s_300_95, s_300_96, s_300_99, s_300_100, s_300_101, e_300, mv_i_1, mv_l_1, mv_a_1, mv_a_2, mv_a_3, mk2_n, mk2_i, mk2_l, mk2_a, mk2_u, mk2_x, mB_T, mB_F, mS_cons, mS_nil, mSB_T, mSB_F, mca_nil, mca_i, mca_l, mca_r, mca_u, mca_x, mcat_i, mcat_l, mcat_r, mcat_u, mcat_x, mK_some, mK_none, va_rf_s, va_rf_n, lgc_eq, lgc_lt, lgc_gt, lgc_ge, lgc_le, mrd_104, mrd_105, mrd_106, mrd_107, true_and, and_true, and_self, false_and, and_false, true_or, or_true, false_or, or_false, not_true_eq_false, not_false_eq_true, mgb, mga, mgr, mN, reduceCtorEq, ↓reduceIte, eq_self, ge_iff_le, gt_iff_lt, hk_si, hk_sj, hk_sr, hl_si, hl_sj, hl_sr, hn_si, hn_sj, hn_sr, hs_si, hs_sj, hs_sr, hi_sj, hi_sr, hj_si, hj_sr, hr_si, hr_sj, hi_si, hj_sj, hr_sr, mg_si, mg_sj, mg_sr, Nat.reduceAdd, Nat.reduceMul, Nat.reduceSub, Nat.reduceLT, Nat.reduceGT, Nat.reduceEqDiff, Nat.reduceLeDiff, Nat.left_eq_add, Nat.add_eq_left, Nat.reduceMod, Nat.reduceDiv, Nat.succ_ne_self, g, r19, g19, g19a, g19b, l19, r20, g20, l20, r21, g21, l21, r22, g22, l22, r23, g23, l23, e, nb', nn_mxT, nn_clamp]
/-- by pointers -/
theorem dq_t {K P V F N : Nat → Int32} {lim : Nat} : ∀ z, (∀ t a x, ts t ≤ z → a + ts t ≤ lim → dq6 K P V F N t false a x → tpt K P V F N lim t (dHd t a)) ∧ (∀ n cs r a x, ts (.branch n cs r) ≤ z + ts r → a + (1 + ts cs) ≤ lim → dq6 K P V F N (.branch n cs r) true a x → tpt K P V F N lim r x → tpt K P V F N lim (.branch n cs r) (Int32.ofNat (a + dOf n cs))) := by
  intro z
  induction z with
  | zero =>
    refine ⟨fun t a x h1 h2 w => ?_, fun n cs r a x h1 h2 w y => ?_⟩
    · cases t with
      | leaf _ => exact rfl
      | branch n cs r => rw [ts_B] at h1; omega
    · rw [ts_B] at h1; omega
  | succ z ih =>
    have node : ∀ n cs a, ts cs ≤ z → a + (1 + ts cs) ≤ lim → dCh K P V F N n cs a → tpt K P V F N lim cs (F (a + dOf n cs)) := fun n cs a h1 h2 w => by
      unfold dCh at w
      by_cases c0 : dSc n cs = 0
      · rw [if_pos c0] at w
        obtain ⟨w1, w2⟩ := w
        rw [dOf_0 c0, Nat.add_zero, w1]
        exact ih.1 cs (a + 1) _ h1 (by omega) w2
      · rw [if_neg c0] at w
        by_cases c1 : dSc n cs = 1
        · rw [if_pos c1] at w
          rcases cs with _ | ⟨m, c, r'⟩
          · exact absurd w (fun q => q)
          · obtain ⟨w1, w2, w3⟩ := w
            rw [ts_B] at h1 h2
            rw [dOf_1 c1, w1]
            exact ih.2 m c r' a _ (by rw [ts_B]; omega) (by omega) w2 (ih.1 r' _ _ (by omega) (by omega) w3)
        · rw [if_neg c1] at w
          rcases cs with _ | ⟨m, c, _ | ⟨m', c', r'⟩⟩
          · exact absurd w (fun q => q)
          · exact absurd w (fun q => q)
          · obtain ⟨w0, w0', w1, w2, w3, w4⟩ := w
            rw [ts_B, ts_B] at h1 h2
            have o1 := dOf_b (n := m) (cs := c)
            have o2 := dOf_b (n := m') (cs := c')
            have t3 := ih.1 r' (a + 3) _ (by omega) (by omega) w4
            have t2 := ih.2 m' c' r' a _ (by rw [ts_B]; omega) (by omega) w3 t3
            rw [show a + dOf m' c' = a from by omega] at t2
            have t1 := ih.2 m c (.branch m' c' r') (a + 2) _ (by rw [ts_B, ts_B]; omega) (by omega) w2 t2
            rw [show a + 2 + dOf m c = a + 2 from by omega] at t1
            rw [dOf_2 c0 c1, w1]
            exact t1
    refine ⟨fun t a x h1 h2 w => ?_, fun n cs r a x h1 h2 w y => ?_⟩
    · cases t with
      | leaf _ => exact rfl
      | branch n cs r =>
        rw [ts_B] at h1 h2
        rw [dq_B] at w
        obtain ⟨⟨k1, k2, k3⟩, w2, w3⟩ := w
        have w3' : N (a + dOf n cs) = dHd r (a + (1 + ts cs)) ∧ dq6 K P V F N r false (a + (1 + ts cs)) (-1) := w3
        have o1 := dOf_b (n := n) (cs := cs)
        refine ⟨a + dOf n cs, rfl, by omega, k1, k2, k3, node n cs a (by omega) (by omega) w2, ?_⟩
        rw [w3'.1]
        exact ih.1 r _ _ (by omega) (by omega) w3'.2
    · rw [ts_B] at h1
      rw [dq_B] at w
      obtain ⟨⟨k1, k2, k3⟩, w2, w3⟩ := w
      have w3' : N (a + dOf n cs) = x := w3
      have o1 := dOf_b (n := n) (cs := cs)
      refine ⟨a + dOf n cs, rfl, by omega, k1, k2, k3, node n cs a (by omega) (by omega) w2, ?_⟩
      rw [w3']
      exact y
theorem tpt_c {K P V F N K' P' V' F' N' : Nat → Int32} {lim : Nat} (e : ∀ i, i < lim → K' i = K i ∧ P' i = P i ∧ V' i = V i ∧ F' i = F i ∧ N' i = N i) : ∀ t x, tpt K P V F N lim t x → tpt K' P' V' F' N' lim t x := by
  intro t
  induction t with
  | leaf _ => exact fun x z => z
  | branch n cs r i1 i2 =>
    intro x z
    obtain ⟨i, z1, z2, z3, z4, z5, z6, z7⟩ := z
    obtain ⟨e1, e2, e3, e4, e5⟩ := e i z2
    exact ⟨i, z1, z2, e1.trans z3, e2.trans z4, by rw [e3]; exact z5, by rw [e4]; exact i1 _ z6, by rw [e5]; exact i2 _ z7⟩
end ADz
