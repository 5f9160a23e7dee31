set_option maxRecDepth 100000
/-! the reference's begin: the table of functions -/
/-- what stands whatever program there is -/
def RYh (h : mh_H) : Prop := (RF h) ∧ (∃ PQ PS PU PF PL PH lP, PR h PQ PS PU PF PL PH lP) ∧ (KS h) ∧ (∀ i j a, mh_r h 119 i = some a → mh_r h 119 j = some a → i = j) ∧ (∃ c, mh_r h 115 12 = some c ∧ mg h c 100 ∧ 64 ≤ mh_l h c ∧ mh_l h c ≤ 4000 ∧ (c = 120 ∨ 2644 ≤ c) ∧ (∀ i a, mh_r h 119 i = some a → ¬ kc a c) ∧ ¬ paR h c)
theorem RYh.of {h : mh_H} (q : (RF h) ∧ (∃ PQ PS PU PF PL PH lP, PR h PQ PS PU PF PL PH lP) ∧ (KS h) ∧ (∀ i j a, mh_r h 119 i = some a → mh_r h 119 j = some a → i = j) ∧ (∃ c, mh_r h 115 12 = some c ∧ mg h c 100 ∧ 64 ≤ mh_l h c ∧ mh_l h c ≤ 4000 ∧ (c = 120 ∨ 2644 ≤ c) ∧ (∀ i a, mh_r h 119 i = some a → ¬ kc a c) ∧ ¬ paR h c)) : RYh h := q
theorem RYh.F {h : mh_H} (q : RYh h) : RF h := q.1
theorem RYh.P {h : mh_H} (q : RYh h) : ∃ PQ PS PU PF PL PH lP, PR h PQ PS PU PF PL PH lP := q.2.1
theorem RYh.K {h : mh_H} (q : RYh h) : KS h := q.2.2.1
theorem RYh.u {h : mh_H} (q : RYh h) : ∀ i j a, mh_r h 119 i = some a → mh_r h 119 j = some a → i = j := q.2.2.2.1
theorem RYh.t {h : mh_H} (q : RYh h) : ∃ c, mh_r h 115 12 = some c ∧ mg h c 100 ∧ 64 ≤ mh_l h c ∧ mh_l h c ≤ 4000 ∧ (c = 120 ∨ 2644 ≤ c) ∧ (∀ i a, mh_r h 119 i = some a → ¬ kc a c) ∧ ¬ paR h c := q.2.2.2.2
/-- cells stay, but for those of 115 -/
def fB9 (h h1 : mh_H) : Prop := mh_n h ≤ mh_n h1 ∧ (∀ b, b < mh_n h → mh_k h1 b = mh_k h b ∧ mh_l h1 b = mh_l h b) ∧ (∀ b j, b < mh_n h → ¬ (b = 115 ∧ (j = 12 ∨ j ≤ 2)) → mh_r h1 b j = mh_r h b j) ∧ ∃ b, mh_r h1 115 12 = some b ∧ b < mh_n h1
section BGs
variable {d : Nat} {h h1 h2 : mh_H} {c l : Nat}
theorem ko_9 {o : Nat} (x : fB9 h h1) (ho : o ≠ 115) (k : ko h o) : ko h1 o := by
  obtain ⟨x1, x2, x3, -⟩ := x
  have gg : ∀ b c, mg h b c → mg h1 b c := fun b c g => ⟨(x2 b g.2).1.trans g.1, Nat.lt_of_lt_of_le g.2 x1⟩
  obtain ⟨k1, k2, k3, k4, k5, k6, k7, k8, k9, k10, k11, k12, k13⟩ := k
  have rr : ∀ j, mh_r h1 o j = mh_r h o j := fun j => x3 o j k1.2 (fun z => ho z.1)
  exact ⟨gg _ _ k1, (rr 3).trans k2, gg _ _ k3, ((x2 _ k3.2).2).trans k4, (rr 4).trans k5, gg _ _ k6, ((x2 _ k6.2).2).trans k7, (rr 5).trans k8, gg _ _ k9, ((x2 _ k9.2).2).trans k10, (rr 6).trans k11, gg _ _ k12, ((x2 _ k12.2).2).trans k13⟩
theorem RF_9 (x : fB9 h h1) (F : RF h) : RF h1 := by
  have x0 := x
  obtain ⟨x1, x2, x3, x4⟩ := x
  have gg : ∀ b c, mg h b c → mg h1 b c := fun b c g => ⟨(x2 b g.2).1.trans g.1, Nat.lt_of_lt_of_le g.2 x1⟩
  have n2 : 2643 < mh_n h := (F.g 2643 107 8 (by decide +kernel)).2
  obtain ⟨f1, f2, f3, f4, f5⟩ := F
  refine ⟨fun t ht => ⟨gg _ _ (f1 t ht).1, ((x2 _ (f1 t ht).1.2).2).trans (f1 t ht).2⟩, fun t ht => ?_, fun p hp => ?_, ko_9 x0 (by decide) f4, x4⟩
  · have q : ∀ t ∈ rfR, t.1 < 2644 ∧ ¬ (t.1 = 115 ∧ (t.2.1 = 12 ∨ t.2.1 ≤ 2)) := by decide +kernel
    obtain ⟨q1, q2⟩ := q t ht
    rw [x3 _ _ (by omega) q2]
    exact f2 t ht
  · obtain ⟨g1, g2, g3, g4⟩ := f3 p hp
    exact ⟨ko_9 x0 (by omega) g1, ko_9 x0 (by omega) g2, (x3 116 p (by omega) (by omega)).trans g3, (x3 117 p (by omega) (by omega)).trans g4⟩
/-- the table grows -/
def gFt (h : mh_H) (c l : Nat) : mh_H := mh_sr (mh_cp (mh_new h 100 (2 * l)) c 0 (mh_n h) 0 l) 115 12 (some (mh_n h))
theorem gF_n : mh_n (gFt h c l) = mh_n h + 1 ∧ mh_s (gFt h c l) = mh_s h + 2 * l := ⟨by unfold gFt; rw [hn_sr, hn_cp, hn_new], by unfold gFt; rw [hs_sr, hs_cp, hs_new]⟩
theorem gF_k {b : Nat} : mh_k (gFt h c l) b = (if b = mh_n h then 100 else mh_k h b) ∧ mh_l (gFt h c l) b = (if b = mh_n h then 2 * l else mh_l h b) := ⟨by unfold gFt; rw [hk_sr, hk_cp, hk_new], by unfold gFt; rw [hl_sr, hl_cp, hl_new]⟩
theorem gF_r {b j : Nat} (hb : b < mh_n h) : mh_r (gFt h c l) b j = if b = 115 ∧ j = 12 then some (mh_n h) else mh_r h b j := by
  unfold gFt
  rw [hr_sr, hr_cp, hr_nw, if_neg (show ¬ b = mh_n h by omega)]
theorem gF_i {b j : Nat} (hc : c < mh_n h) : mh_i (gFt h c l) b j = if b = mh_n h then (if j < l then mh_i h c j else 0) else mh_i h b j := by
  unfold gFt
  rw [hi_sr, hi_cp]
  by_cases e : b = mh_n h
  · rw [if_pos e]
    by_cases q : j < l
    · rw [if_pos ⟨e, by omega, by omega⟩, if_pos q, hi_new, if_neg (by omega), show 0 + (j - 0) = j from by omega]
    · rw [if_neg (by omega), if_neg q, hi_new, if_pos e]
  · rw [if_neg e, if_neg (fun z => e z.1), hi_new, if_neg e]
theorem gF_j {b j : Nat} (hb : b < mh_n h) : mh_j (gFt h c l) b j = mh_j h b j := by
  unfold gFt
  rw [hj_sr, hj_cp, if_neg (by omega), hj_new, if_neg (by omega)]
theorem gF_9 (hn : 115 < mh_n h) : fB9 h (gFt h c l) := by
  obtain ⟨n1, -⟩ := gF_n (h := h) (c := c) (l := l)
  refine ⟨by omega, fun b hb => ?_, fun b j hb w => ?_, mh_n h, ?_, by omega⟩
  · obtain ⟨k1, k2⟩ := gF_k (h := h) (c := c) (l := l) (b := b)
    rw [k1, k2, if_neg (by omega), if_neg (by omega)]
    exact ⟨rfl, rfl⟩
  · rw [gF_r hb, if_neg (by omega)]
  · rw [gF_r hn, if_pos ⟨rfl, rfl⟩]
/-- the table's cells change, a new one may come -/
def fT9 (c : Nat) (h h1 : mh_H) : Prop := mh_n h ≤ mh_n h1 ∧ (∀ b, b < mh_n h → mh_k h1 b = mh_k h b ∧ mh_l h1 b = mh_l h b) ∧ (∀ b j, b < mh_n h → ¬ (b = 115 ∧ j = 12) → mh_r h1 b j = mh_r h b j) ∧ (∀ b j, b < mh_n h → ¬ (b = 115 ∧ j = 13) → b ≠ c → mh_i h1 b j = mh_i h b j) ∧ (∀ b j, b < mh_n h → mh_j h1 b j = mh_j h b j) ∧ qN h1 ≤ qN h ∧ qS h1 ≤ qS h
theorem fT9_id : fT9 c h h := ⟨Nat.le_refl _, fun _ _ => ⟨rfl, rfl⟩, fun _ _ _ _ => rfl, fun _ _ _ _ _ => rfl, fun _ _ _ => rfl, Int.le_refl _, Int.le_refl _⟩
theorem fT9_t {c1 : Nat} (x : fT9 c h h1) (y : fT9 c1 h1 h2) (hc : c1 = c ∨ mh_n h ≤ c1) : fT9 c h h2 := by
  obtain ⟨x1, x2, x3, x4, x5, x6, x7⟩ := x
  obtain ⟨y1, y2, y3, y4, y5, y6, y7⟩ := y
  refine ⟨Nat.le_trans x1 y1, fun b hb => ?_, fun b j hb w => (y3 b j (by omega) w).trans (x3 b j hb w), fun b j hb w w2 => (y4 b j (by omega) w (by omega)).trans (x4 b j hb w w2), fun b j hb => (y5 b j (by omega)).trans (x5 b j hb), Int.le_trans y6 x6, Int.le_trans y7 x7⟩
  obtain ⟨a1, a2⟩ := x2 b hb
  obtain ⟨b1, b2⟩ := y2 b (by omega)
  exact ⟨b1.trans a1, b2.trans a2⟩
theorem cnS_c {a n : Nat} (e : ∀ i, mh_r h1 a i = mh_r h a i) : cnS h1 a n = cnS h a n := by
  unfold cnS
  exact n64_cong _ (fun i _ => by rw [e i])
theorem fT9_si {v : Int32} {j : Nat} : fT9 c h (mh_si h c j v) := ⟨Nat.le_refl _, fun _ _ => ⟨rfl, rfl⟩, fun _ _ _ _ => rfl, fun b j' _ _ hc => by rw [hi_si, if_neg (fun z => hc z.1)], fun _ _ _ => rfl, Int.le_refl _, Int.le_refl _⟩
theorem fT9_13 {v : Int32} : fT9 c h (mh_si h 115 13 v) := ⟨Nat.le_refl _, fun _ _ => ⟨rfl, rfl⟩, fun _ _ _ _ => rfl, fun b j' _ w _ => by rw [hi_si, if_neg w], fun _ _ _ => rfl, Int.le_refl _, Int.le_refl _⟩
theorem gF_T (F : RF h) (r12 : mh_r h 115 12 = some c) (hl : mh_l h c = l) (l1 : 1 ≤ l) (P27 : ∃ PQ, mh_r h 115 27 = some PQ ∧ PQ < mh_n h) (gc : c < mh_n h) : fT9 c h (gFt h c l) := by
  have n2 : 2643 < mh_n h := (F.g 2643 107 8 (by decide +kernel)).2
  obtain ⟨n1, s1⟩ := gF_n (h := h) (c := c) (l := l)
  obtain ⟨x1, x2, x3, -⟩ := gF_9 (h := h) (c := c) (l := l) (by omega)
  have r119 : ∀ i, mh_r (gFt h c l) 119 i = mh_r h 119 i := fun i => by rw [gF_r (by omega), if_neg (by omega)]
  have l12 : ln (gFt h c l) 115 12 = 2 * l := by
    unfold ln
    rw [gF_r (by omega), if_pos ⟨rfl, rfl⟩]
    show mh_l (gFt h c l) (mh_n h) = _
    rw [gF_k.2, if_pos rfl]
  have l12' : ln h 115 12 = l := by
    unfold ln
    rw [r12]
    exact hl
  have l27 : ln (gFt h c l) 115 27 = ln h 115 27 := by
    obtain ⟨PQ, p1, p2⟩ := P27
    unfold ln
    rw [gF_r (by omega), if_neg (by omega), p1]
    show mh_l (gFt h c l) PQ = mh_l h PQ
    rw [gF_k.2, if_neg (by omega)]
  have cc := cnS_c (n := 2048) r119
  refine ⟨by omega, x2, fun b j hb w => by rw [gF_r hb, if_neg w], fun b j hb w w2 => by rw [gF_i gc, if_neg (by omega)], fun b j hb => gF_j hb, ?_, ?_⟩
  · unfold qN
    rw [n1, cc, l27, l12, l12']
    omega
  · unfold qS
    rw [s1, cc, l27, l12, l12']
    omega
/-- the state of the loop -/
def TB9 (h : mh_H) (FK : Nat → Nat) (g c : Nat) : Prop := mh_r h 115 12 = some c ∧ mg h c 100 ∧ (64 ≤ mh_l h c ∧ mh_l h c ≤ 4000) ∧ (c = 120 ∨ 2644 ≤ c) ∧ (∀ f, f < g → mh_i h c f = Int32.ofNat (FK f)) ∧ mh_i h 115 13 = Int32.ofNat g
theorem RF_T (x : fT9 c h h1) (F : RF h) (r : ∃ b, mh_r h1 115 12 = some b ∧ b < mh_n h1) : RF h1 := RF_9 ⟨x.1, x.2.1, fun b j hb w => x.2.2.1 b j hb (fun z => w ⟨z.1, Or.inl z.2⟩), r⟩ F
/-- room for one more -/
theorem s_270a {FK : Nat → Nat} {g : Nat} {x1 x2 x3 x4 x5 : Option Value} (F : RF h) (P27 : ∃ PQ, mh_r h 115 27 = some PQ ∧ PQ < mh_n h) (T : TB9 h FK g c) (hg : g ≤ mh_l h c) (hg2 : g < 2000) : ∃ hA c1, fT9 c h hA ∧ (c1 = c ∨ c1 = mh_n h) ∧ TB9 hA FK g c1 ∧ g < mh_l hA c1 ∧ RF hA ∧ ∀ Q, mw (d + 1) 270 Q 36 [some (.ref 115), x1, x2, x3, x4, x5] [] h = mw (d + 1) 270 Q 66 [some (.ref 115), x1, x2, x3, x4, x5] [] hA := by
  have n2 : 2643 < mh_n h := (F.g 2643 107 8 (by decide +kernel)).2
  have g0 : mg h 115 12 := F.g 115 12 38 (by decide +kernel)
  obtain ⟨r12, gc, ⟨l1, l2⟩, hc, ent, i13⟩ := T
  have gc1 := gc.1
  have gc2 := gc.2
  by_cases e : g = mh_l h c
  · have eq : (Int32.ofNat g = Int32.ofNat (mh_l h c)) = True := (nn_eq (by omega) (by omega)).trans (eq_true e)
    have x := gF_T F r12 rfl (by omega) P27 gc2
    obtain ⟨n1, -⟩ := gF_n (h := h) (c := c) (l := mh_l h c)
    obtain ⟨kN, lN⟩ := gF_k (h := h) (c := c) (l := mh_l h c) (b := mh_n h)
    rw [if_pos rfl] at kN lN
    have rN : mh_r (gFt h c (mh_l h c)) 115 12 = some (mh_n h) := by rw [gF_r (by omega), if_pos ⟨rfl, rfl⟩]
    have a242 := fun Q => c_242 (d := d) (Q := Q) gc rfl (show mh_l h c < 1000000 by omega)
    refine ⟨gFt h c (mh_l h c), mh_n h, x, Or.inr rfl, ⟨rN, ⟨kN, by omega⟩, ⟨by omega, by omega⟩, Or.inr (by omega), fun f hf => ?_, ?_⟩, by omega, RF_T x F ⟨_, rN, by omega⟩, fun Q => ?_⟩
    · rw [gF_i gc2, if_pos rfl, if_pos (by omega)]
      exact ent f hf
    · rw [gF_i gc2, if_neg (by omega)]
      exact i13
    · have k115 : mh_k h 115 = 12 := g0.1
      have ne : (115 = mh_n h) = False := eq_false (by omega)
      have lt : 115 < mh_n h + 1 := by omega
      unfold gFt
      clear F P27 x ent
      simp (disch := omega) only [s_270_0, s_270_1, s_270_2, s_270_2n, s_270_5, s_270_6, s_270_7, s_270_7n, s_270_10, s_270_11, s_270_12, s_270_12n, s_270_15, s_270_16, s_270_18, s_270_21, s_270_22, s_270_23, s_270_26, s_270_27, s_270_31, s_270_33, s_270_36, s_270_37, s_270_38, s_270_41, s_270_42, s_270_45, s_270_46, s_270_49, s_270_50, s_270_53, s_270_56, s_270_59, s_270_60, s_270_63, s_270_63n, s_270_67, s_270_70, s_270_71, s_270_72, s_270_75, s_270_76, s_270_77, s_270_78, s_270_81, s_270_83, s_270_84, s_270_86, s_270_87, s_270_89, s_270_90, s_270_91, s_270_93, s_270_96, e_270, mv_i_1, mv_l_1, mv_a_1, mv_a_2, mv_a_3, mk2_n, mk2_i, mk2_l, mk2_a, mk2_u, mk2_x, mB_T, mB_F, mS_cons, mS_nil, mSB_T, mSB_F, mca_nil, mca_i, mca_l, mca_r, mca_u, mca_x, mcat_i, mcat_l, mcat_r, mcat_u, mcat_x, mK_some, mK_none, va_rf_s, va_rf_n, lgc_eq, lgc_lt, lgc_gt, lgc_ge, lgc_le, mrd_104, mrd_105, mrd_106, mrd_107, true_and, and_true, and_self, false_and, and_false, true_or, or_true, false_or, or_false, not_true_eq_false, not_false_eq_true, mgb, mga, mgr, mN, reduceCtorEq, ↓reduceIte, eq_self, ge_iff_le, gt_iff_lt, hk_si, hk_sj, hk_sr, hl_si, hl_sj, hl_sr, hn_si, hn_sj, hn_sr, hs_si, hs_sj, hs_sr, hi_sj, hi_sr, hj_si, hj_sr, hr_si, hr_sj, hi_si, hj_sj, hr_sr, mg_si, mg_sj, mg_sr, Nat.reduceAdd, Nat.reduceMul, Nat.reduceSub, Nat.reduceLT, Nat.reduceGT, Nat.reduceEqDiff, Nat.reduceLeDiff, Nat.left_eq_add, Nat.add_eq_left, Nat.reduceMod, Nat.reduceDiv, Nat.succ_ne_self, hk_cp, hl_cp, hn_cp, hr_cp, hi_cp, mg_cp, hk_new, hl_new, hi_new, hr_nw, hn_new, mg_new, g0, r12, gc, gc1, gc2, i13, eq, a242, k115, ne, lt, if_false]
  · have eq : (Int32.ofNat g = Int32.ofNat (mh_l h c)) = False := (nn_eq (by omega) (by omega)).trans (eq_false e)
    have rr : ∀ b j, mh_r (mh_sr h 115 12 (some c)) b j = mh_r h b j := fun b j => by
      rw [hr_sr]
      by_cases q : b = 115 ∧ j = 12
      · rw [if_pos q, q.1, q.2, r12]
      · rw [if_neg q]
    have x : fT9 c h (mh_sr h 115 12 (some c)) := by
      refine ⟨Nat.le_refl _, fun _ _ => ⟨rfl, rfl⟩, fun b j _ _ => rr b j, fun _ _ _ _ _ => rfl, fun _ _ _ => rfl, ?_, ?_⟩
      · unfold qN ln
        rw [rr, rr, cnS_c (fun i => rr 119 i)]
        exact Int.le_refl _
      · unfold qS ln
        rw [rr, rr, cnS_c (fun i => rr 119 i)]
        exact Int.le_refl _
    refine ⟨mh_sr h 115 12 (some c), c, x, Or.inl rfl, ⟨(rr _ _).trans r12, gc, ⟨l1, l2⟩, hc, ent, i13⟩, by show g < mh_l h c; omega, RF_T x F ⟨c, (rr _ _).trans r12, gc2⟩, fun Q => ?_⟩
    clear F P27 x ent rr
    simp (disch := omega) only [s_270_0, s_270_1, s_270_2, s_270_2n, s_270_5, s_270_6, s_270_7, s_270_7n, s_270_10, s_270_11, s_270_12, s_270_12n, s_270_15, s_270_16, s_270_18, s_270_21, s_270_22, s_270_23, s_270_26, s_270_27, s_270_31, s_270_33, s_270_36, s_270_37, s_270_38, s_270_41, s_270_42, s_270_45, s_270_46, s_270_49, s_270_50, s_270_53, s_270_56, s_270_59, s_270_60, s_270_63, s_270_63n, s_270_67, s_270_70, s_270_71, s_270_72, s_270_75, s_270_76, s_270_77, s_270_78, s_270_81, s_270_83, s_270_84, s_270_86, s_270_87, s_270_89, s_270_90, s_270_91, s_270_93, s_270_96, e_270, mv_i_1, mv_l_1, mv_a_1, mv_a_2, mv_a_3, mk2_n, mk2_i, mk2_l, mk2_a, mk2_u, mk2_x, mB_T, mB_F, mS_cons, mS_nil, mSB_T, mSB_F, mca_nil, mca_i, mca_l, mca_r, mca_u, mca_x, mcat_i, mcat_l, mcat_r, mcat_u, mcat_x, mK_some, mK_none, va_rf_s, va_rf_n, lgc_eq, lgc_lt, lgc_gt, lgc_ge, lgc_le, mrd_104, mrd_105, mrd_106, mrd_107, true_and, and_true, and_self, false_and, and_false, true_or, or_true, false_or, or_false, not_true_eq_false, not_false_eq_true, mgb, mga, mgr, mN, reduceCtorEq, ↓reduceIte, eq_self, ge_iff_le, gt_iff_lt, hk_si, hk_sj, hk_sr, hl_si, hl_sj, hl_sr, hn_si, hn_sj, hn_sr, hs_si, hs_sj, hs_sr, hi_sj, hi_sr, hj_si, hj_sr, hr_si, hr_sj, hi_si, hj_sj, hr_sr, mg_si, mg_sj, mg_sr, Nat.reduceAdd, Nat.reduceMul, Nat.reduceSub, Nat.reduceLT, Nat.reduceGT, Nat.reduceEqDiff, Nat.reduceLeDiff, Nat.left_eq_add, Nat.add_eq_left, Nat.reduceMod, Nat.reduceDiv, Nat.succ_ne_self, g0, r12, gc, gc1, gc2, i13, eq]
/-- one function -/
theorem s_270b {FK : Nat → Nat} {g k z : Nat} {x1 x2 : Option Value} {y4 : Int32} (F : RF h) (T : TB9 h FK g c) (hg : g < mh_l h c) (hk : k < 26000) (z97 : mh_i h 97 k = Int32.ofNat z) (hz : z < 26000) (ek : FK g = k) : fT9 c h (mh_si (mh_si h 115 13 (Int32.ofNat (g + 1))) c g (Int32.ofNat k)) ∧ TB9 (mh_si (mh_si h 115 13 (Int32.ofNat (g + 1))) c g (Int32.ofNat k)) FK (g + 1) c ∧ ∀ Q, mw (d + 1) 270 Q 66 [some (.ref 115), x1, x2, some (.ref 97), some (.int y4), some (.int (Int32.ofNat k))] [] h = mw (d + 1) 270 Q 29 [some (.ref 115), x1, x2, some (.ref 97), some (.int y4), some (.int (Int32.ofNat (k + z)))] [] (mh_si (mh_si h 115 13 (Int32.ofNat (g + 1))) c g (Int32.ofNat k)) := by
  have g0 : mg h 115 12 := F.g 115 12 38 (by decide +kernel)
  have g97 := F.g 97 100 26000 (by decide +kernel)
  have l97 := F.l 97 100 26000 (by decide +kernel)
  obtain ⟨r12, gc, ⟨l1, l2⟩, hc, ent, i13⟩ := T
  have nc : c ≠ 115 := by omega
  refine ⟨fT9_t fT9_13 fT9_si (Or.inl rfl), ⟨r12, gc, ⟨l1, l2⟩, hc, fun f hf => ?_, ?_⟩, fun Q => ?_⟩
  · rw [hi_si]
    by_cases e : f = g
    · rw [if_pos ⟨rfl, e⟩, e, ek]
    · rw [if_neg (fun q => e q.2), hi_si, if_neg (fun q => nc q.1)]
      exact ent f (by omega)
  · rw [hi_si, if_neg (fun q => nc q.1.symm), hi_si, if_pos ⟨rfl, rfl⟩]
  · have e1' : Int32.ofNat g + 1 = Int32.ofNat (g + 1) := nn_add (a := g) (b := 1)
    have ez : Int32.ofNat k + Int32.ofNat z = Int32.ofNat (k + z) := nn_add
    have n97 : (97 = c) = False := eq_false (by omega)
    clear F ent
    simp (disch := omega) only [s_270_0, s_270_1, s_270_2, s_270_2n, s_270_5, s_270_6, s_270_7, s_270_7n, s_270_10, s_270_11, s_270_12, s_270_12n, s_270_15, s_270_16, s_270_18, s_270_21, s_270_22, s_270_23, s_270_26, s_270_27, s_270_31, s_270_33, s_270_36, s_270_37, s_270_38, s_270_41, s_270_42, s_270_45, s_270_46, s_270_49, s_270_50, s_270_53, s_270_56, s_270_59, s_270_60, s_270_63, s_270_63n, s_270_66, s_270_67, s_270_70, s_270_71, s_270_72, s_270_75, s_270_76, s_270_77, s_270_78, s_270_81, s_270_83, s_270_84, s_270_86, s_270_87, s_270_89, s_270_90, s_270_91, s_270_93, s_270_96, e_270, mv_i_1, mv_l_1, mv_a_1, mv_a_2, mv_a_3, mk2_n, mk2_i, mk2_l, mk2_a, mk2_u, mk2_x, mB_T, mB_F, mS_cons, mS_nil, mSB_T, mSB_F, mca_nil, mca_i, mca_l, mca_r, mca_u, mca_x, mcat_i, mcat_l, mcat_r, mcat_u, mcat_x, mK_some, mK_none, va_rf_s, va_rf_n, lgc_eq, lgc_lt, lgc_gt, lgc_ge, lgc_le, mrd_104, mrd_105, mrd_106, mrd_107, true_and, and_true, and_self, false_and, and_false, true_or, or_true, false_or, or_false, not_true_eq_false, not_false_eq_true, mgb, mga, mgr, mN, reduceCtorEq, ↓reduceIte, eq_self, ge_iff_le, gt_iff_lt, hk_si, hk_sj, hk_sr, hl_si, hl_sj, hl_sr, hn_si, hn_sj, hn_sr, hs_si, hs_sj, hs_sr, hi_sj, hi_sr, hj_si, hj_sr, hr_si, hr_sj, hi_si, hj_sj, hr_sr, mg_si, mg_sj, mg_sr, Nat.reduceAdd, Nat.reduceMul, Nat.reduceSub, Nat.reduceLT, Nat.reduceGT, Nat.reduceEqDiff, Nat.reduceLeDiff, Nat.left_eq_add, Nat.add_eq_left, Nat.reduceMod, Nat.reduceDiv, Nat.succ_ne_self, g0, r12, gc, i13, e1', g97, l97, z97, ez, n97, nn_mxT, nn_clamp]
theorem l_270 {FK : Nat → Nat} {cnt : Nat} {nm : Nat → Nat} {o : Int32} {x1 x2 : Option Value} (hcn : cnt ≤ 25000) : ∀ t k g c (h : mh_H), RF h → (∃ PQ, mh_r h 115 27 = some PQ ∧ PQ < mh_n h) → TB9 h FK g c → g ≤ mh_l h c → trR h nm t k o → k + ts t = cnt → g + tlc t ≤ 2000 → (∀ i, i < tlc t → FK (g + i) = poZ t k i) → ∃ h' c', fT9 c h h' ∧ (c' = c ∨ mh_n h ≤ c') ∧ TB9 h' FK (g + tlc t) c' ∧ g + tlc t ≤ mh_l h' c' ∧ RF h' ∧ ∀ Q, mw (d + 1) 270 Q 29 [some (.ref 115), x1, x2, some (.ref 97), some (.int (Int32.ofNat cnt)), some (.int (Int32.ofNat k))] [] h = Q none h' := by
  intro t
  induction t with
  | leaf u =>
    intro k g c h F P T hg _ hk _ _
    refine ⟨h, c, fT9_id, Or.inl rfl, T, hg, F, fun Q => ?_⟩
    have hk' : k + 0 = cnt := hk
    have le : (cnt ≤ k) = True := eq_true (by omega)
    clear F P T
    rw [s_270_29]
    simp (disch := omega) only [s_270_0, s_270_1, s_270_2, s_270_2n, s_270_5, s_270_6, s_270_7, s_270_7n, s_270_10, s_270_11, s_270_12, s_270_12n, s_270_15, s_270_16, s_270_18, s_270_21, s_270_22, s_270_23, s_270_26, s_270_27, s_270_31, s_270_33, s_270_36, s_270_37, s_270_38, s_270_41, s_270_42, s_270_45, s_270_46, s_270_49, s_270_50, s_270_53, s_270_56, s_270_59, s_270_60, s_270_63, s_270_63n, s_270_66, s_270_67, s_270_70, s_270_71, s_270_72, s_270_75, s_270_76, s_270_77, s_270_78, s_270_81, s_270_83, s_270_84, s_270_86, s_270_87, s_270_89, s_270_90, s_270_91, s_270_93, s_270_96, e_270, mv_i_1, mv_l_1, mv_a_1, mv_a_2, mv_a_3, mk2_n, mk2_i, mk2_l, mk2_a, mk2_u, mk2_x, mB_T, mB_F, mS_cons, mS_nil, mSB_T, mSB_F, mca_nil, mca_i, mca_l, mca_r, mca_u, mca_x, mcat_i, mcat_l, mcat_r, mcat_u, mcat_x, mK_some, mK_none, va_rf_s, va_rf_n, lgc_eq, lgc_lt, lgc_gt, lgc_ge, lgc_le, mrd_104, mrd_105, mrd_106, mrd_107, true_and, and_true, and_self, false_and, and_false, true_or, or_true, false_or, or_false, not_true_eq_false, not_false_eq_true, mgb, mga, mgr, mN, reduceCtorEq, ↓reduceIte, eq_self, ge_iff_le, gt_iff_lt, Nat.reduceAdd, Nat.reduceMul, Nat.reduceSub, Nat.reduceLT, Nat.reduceGT, Nat.reduceEqDiff, Nat.reduceLeDiff, Nat.left_eq_add, Nat.add_eq_left, Nat.reduceMod, Nat.reduceDiv, Nat.succ_ne_self, nn_le, le]
  | branch n cs r _ ih =>
    intro k g c h F P T hg tR hk h2 fk
    have et : tlc (.branch n cs r) = tlc r + 1 := rfl
    rw [et] at h2 fk ⊢
    rw [ts_B] at hk
    have n2 : 2643 < mh_n h := (F.g 2643 107 8 (by decide +kernel)).2
    obtain ⟨hA, c1, a1, a2, a3, a4, a5, a6⟩ := s_270a (d := d) (x1 := x1) (x2 := x2) (x3 := some (.ref 97)) (x4 := some (.int (Int32.ofNat cnt))) (x5 := some (.int (Int32.ofNat k))) F P T hg (by omega)
    have hcr := T.2.2.2.1
    have gcc := T.2.1.2
    have e9 : ∀ y j, y < 115 → mh_i hA y j = mh_i h y j := fun y j hy => a1.2.2.2.1 y j (by omega) (by omega) (by omega)
    obtain ⟨⟨-, -, -, -, -, t6⟩, -, t3⟩ := tR
    have ek : FK g = k := by
      have := fk 0 (by omega)
      rw [Nat.add_zero] at this
      exact this
    obtain ⟨b1, b2, b3⟩ := s_270b (d := d) (x1 := x1) (x2 := x2) (y4 := Int32.ofNat cnt) a5 a3 a4 (show k < 26000 by omega) ((e9 97 k (by omega)).trans t6) (by omega) ek
    have c1r := a3.2.2.2.1
    have f2 : fT9 c h (mh_si (mh_si hA 115 13 (Int32.ofNat (g + 1))) c1 g (Int32.ofNat k)) := fT9_t a1 b1 (by omega)
    have i2 : ∀ y j, y < 115 → mh_i (mh_si (mh_si hA 115 13 (Int32.ofNat (g + 1))) c1 g (Int32.ofNat k)) y j = mh_i h y j := fun y j hy => by
      rw [hi_si, if_neg (by omega), hi_si, if_neg (by omega)]
      exact e9 y j hy
    have l2 : g + 1 ≤ mh_l (mh_si (mh_si hA 115 13 (Int32.ofNat (g + 1))) c1 g (Int32.ofNat k)) c1 := a4
    generalize mh_si (mh_si hA 115 13 (Int32.ofNat (g + 1))) c1 g (Int32.ofNat k) = hB at b1 b2 b3 f2 i2 l2
    have FB : RF hB := RF_T f2 F ⟨c1, b2.1, b2.2.1.2⟩
    have PB : ∃ PQ, mh_r hB 115 27 = some PQ ∧ PQ < mh_n hB := by
      obtain ⟨PQ, p1, p2⟩ := P
      exact ⟨PQ, (f2.2.2.1 115 27 (by omega) (by omega)).trans p1, Nat.lt_of_lt_of_le p2 f2.1⟩
    obtain ⟨h', c', y1, y2, y3, y4, y5, y6⟩ := ih (k + 1 + ts cs) (g + 1) c1 hB FB PB b2 l2 (trR_c _ _ _ (fun y j u1 u2 => i2 y j (by omega)) t3) (by omega) (by omega) (fun i hi => by
      have := fk (i + 1) (by omega)
      rw [show g + (i + 1) = g + 1 + i from by omega] at this
      exact this)
    have fn := f2.1
    refine ⟨h', c', fT9_t f2 y1 (by omega), by omega, by rw [show g + (tlc r + 1) = g + 1 + tlc r from by omega]; exact y3, by omega, y5, fun Q => ?_⟩
    have y6' := y6 Q
    rw [show k + 1 + ts cs = k + (1 + ts cs) from by omega] at y6'
    have le : (cnt ≤ k) = False := eq_false (by omega)
    have st : mw (d + 1) 270 Q 29 [some (.ref 115), x1, x2, some (.ref 97), some (.int (Int32.ofNat cnt)), some (.int (Int32.ofNat k))] [] h = mw (d + 1) 270 Q 36 [some (.ref 115), x1, x2, some (.ref 97), some (.int (Int32.ofNat cnt)), some (.int (Int32.ofNat k))] [] h := by
      rw [s_270_29]
      clear F P T a1 a3 a5 a6 b1 b2 b3 f2 i2 FB PB y1 y3 y5 y6 y6' ih
      simp (disch := omega) only [s_270_0, s_270_1, s_270_2, s_270_2n, s_270_5, s_270_6, s_270_7, s_270_7n, s_270_10, s_270_11, s_270_12, s_270_12n, s_270_15, s_270_16, s_270_18, s_270_21, s_270_22, s_270_23, s_270_26, s_270_27, s_270_31, s_270_33, s_270_37, s_270_38, s_270_41, s_270_42, s_270_45, s_270_46, s_270_49, s_270_50, s_270_53, s_270_56, s_270_59, s_270_60, s_270_63, s_270_63n, s_270_66, s_270_67, s_270_70, s_270_71, s_270_72, s_270_75, s_270_76, s_270_77, s_270_78, s_270_81, s_270_83, s_270_84, s_270_86, s_270_87, s_270_89, s_270_90, s_270_91, s_270_93, s_270_96, e_270, mv_i_1, mv_l_1, mv_a_1, mv_a_2, mv_a_3, mk2_n, mk2_i, mk2_l, mk2_a, mk2_u, mk2_x, mB_T, mB_F, mS_cons, mS_nil, mSB_T, mSB_F, mca_nil, mca_i, mca_l, mca_r, mca_u, mca_x, mcat_i, mcat_l, mcat_r, mcat_u, mcat_x, mK_some, mK_none, va_rf_s, va_rf_n, lgc_eq, lgc_lt, lgc_gt, lgc_ge, lgc_le, mrd_104, mrd_105, mrd_106, mrd_107, true_and, and_true, and_self, false_and, and_false, true_or, or_true, false_or, or_false, not_true_eq_false, not_false_eq_true, mgb, mga, mgr, mN, reduceCtorEq, ↓reduceIte, eq_self, ge_iff_le, gt_iff_lt, Nat.reduceAdd, Nat.reduceMul, Nat.reduceSub, Nat.reduceLT, Nat.reduceGT, Nat.reduceEqDiff, Nat.reduceLeDiff, Nat.left_eq_add, Nat.add_eq_left, Nat.reduceMod, Nat.reduceDiv, Nat.succ_ne_self, nn_le, le]
    rw [st, a6 Q, b3 Q]
    exact y6'
end BGs
