set_option maxRecDepth 100000
/-! the class's ranges: a heap as far as they change it -/
def up {α : Type} (f : Nat → α) (k : Nat) (v : α) (j : Nat) : α := if j = k then v else f j
theorem up_s {α : Type} {f : Nat → α} {k : Nat} {v : α} : up f k v k = v := if_pos rfl
theorem up_n {α : Type} {f : Nat → α} {k j : Nat} {v : α} (h : ¬ j = k) : up f k v j = f j := if_neg h
theorem up_u {α : Type} {f : Nat → α} {k : Nat} {v w : α} : up (up f k v) k w = up f k w := by
  funext j; unfold up; split <;> rfl
def rS (h : mh_H) (o L G D P R : Nat) (al H : Int32) (lw hg : Nat → Int64) (nm : Nat → Int32) (pl ph : Nat → Int64) : mh_H := (mh_k h, mh_l h, (fun b k => if b = o ∧ k = 4 then al else if b = o ∧ k = 8 then H else if b = D then nm k else mh_i h b k), (fun b k => if b = L then lw k else if b = G then hg k else if b = P then pl k else if b = R then ph k else mh_j h b k), mh_r h, mh_n h, mh_s h)
section RS0
variable {h : mh_H} {o L G D P R b k : Nat} {al H x : Int32} {lw hg : Nat → Int64} {nm : Nat → Int32} {pl ph : Nat → Int64} {y : Int64}
theorem rS_k : mh_k (rS h o L G D P R al H lw hg nm pl ph) = mh_k h := nrfl rfl
theorem rS_l : mh_l (rS h o L G D P R al H lw hg nm pl ph) = mh_l h := nrfl rfl
theorem rS_r : mh_r (rS h o L G D P R al H lw hg nm pl ph) = mh_r h := nrfl rfl
theorem rS_n : mh_n (rS h o L G D P R al H lw hg nm pl ph) = mh_n h := nrfl rfl
theorem rS_g {ci : Nat} : mg (rS h o L G D P R al H lw hg nm pl ph) b ci = mg h b ci := nrfl rfl
theorem rS_i : mh_i (rS h o L G D P R al H lw hg nm pl ph) b k = if b = o ∧ k = 4 then al else if b = o ∧ k = 8 then H else if b = D then nm k else mh_i h b k := nrfl rfl
theorem rS_j : mh_j (rS h o L G D P R al H lw hg nm pl ph) b k = if b = L then lw k else if b = G then hg k else if b = P then pl k else if b = R then ph k else mh_j h b k := nrfl rfl
theorem rS_4 : mh_si (rS h o L G D P R al H lw hg nm pl ph) o 4 x = rS h o L G D P R x H lw hg nm pl ph := by
  have e : mh_u (fun b k => if b = o ∧ k = 4 then al else if b = o ∧ k = 8 then H else if b = D then nm k else mh_i h b k) o 4 x = fun b k => if b = o ∧ k = 4 then x else if b = o ∧ k = 8 then H else if b = D then nm k else mh_i h b k := by
    funext b k
    unfold mh_u
    dsimp only
    by_cases c : b = o ∧ k = 4
    · rw [if_pos c, if_pos c]
    · rw [if_neg c, if_neg c, if_neg c]
  show (mh_k h, mh_l h, mh_u (fun b k => if b = o ∧ k = 4 then al else if b = o ∧ k = 8 then H else if b = D then nm k else mh_i h b k) o 4 x, _, mh_r h, mh_n h, mh_s h) = _
  rw [e]; rfl
theorem rS_8 : mh_si (rS h o L G D P R al H lw hg nm pl ph) o 8 x = rS h o L G D P R al x lw hg nm pl ph := by
  have e : mh_u (fun b k => if b = o ∧ k = 4 then al else if b = o ∧ k = 8 then H else if b = D then nm k else mh_i h b k) o 8 x = fun b k => if b = o ∧ k = 4 then al else if b = o ∧ k = 8 then x else if b = D then nm k else mh_i h b k := by
    funext b k
    unfold mh_u
    dsimp only
    by_cases c : b = o ∧ k = 8
    · have c' : ¬ (b = o ∧ k = 4) := by omega
      rw [if_pos c, if_neg c', if_pos c]
    · rw [if_neg c]
      by_cases c' : b = o ∧ k = 4
      · rw [if_pos c', if_pos c']
      · rw [if_neg c', if_neg c', if_neg c, if_neg c]
  show (mh_k h, mh_l h, mh_u (fun b k => if b = o ∧ k = 4 then al else if b = o ∧ k = 8 then H else if b = D then nm k else mh_i h b k) o 8 x, _, mh_r h, mh_n h, mh_s h) = _
  rw [e]; rfl
theorem rS_D (hD : ¬ D = o) : mh_si (rS h o L G D P R al H lw hg nm pl ph) D k x = rS h o L G D P R al H lw hg (up nm k x) pl ph := by
  have e : mh_u (fun b k => if b = o ∧ k = 4 then al else if b = o ∧ k = 8 then H else if b = D then nm k else mh_i h b k) D k x = fun b j => if b = o ∧ j = 4 then al else if b = o ∧ j = 8 then H else if b = D then up nm k x j else mh_i h b j := by
    funext b j
    unfold mh_u up
    dsimp only
    by_cases c : b = D
    · have c1 : ¬ (b = o ∧ j = 4) := fun z => hD (c ▸ z.1)
      have c2 : ¬ (b = o ∧ j = 8) := fun z => hD (c ▸ z.1)
      rw [if_neg c1, if_neg c1, if_neg c2, if_neg c2, if_pos c, if_pos c]
      by_cases c3 : j = k
      · rw [if_pos ⟨c, c3⟩, if_pos c3]
      · rw [if_neg (fun z => c3 z.2), if_neg c3]
    · rw [if_neg (fun z => c z.1), if_neg c, if_neg c]
  show (mh_k h, mh_l h, mh_u (fun b k => if b = o ∧ k = 4 then al else if b = o ∧ k = 8 then H else if b = D then nm k else mh_i h b k) D k x, _, mh_r h, mh_n h, mh_s h) = _
  rw [e]; rfl
theorem rS_L : mh_sj (rS h o L G D P R al H lw hg nm pl ph) L k y = rS h o L G D P R al H (up lw k y) hg nm pl ph := by
  have e : mh_u (fun b k => if b = L then lw k else if b = G then hg k else if b = P then pl k else if b = R then ph k else mh_j h b k) L k y = fun b j => if b = L then up lw k y j else if b = G then hg j else if b = P then pl j else if b = R then ph j else mh_j h b j := by
    funext b j
    unfold mh_u up
    dsimp only
    by_cases c : b = L
    · rw [if_pos c, if_pos c]
      by_cases c3 : j = k
      · rw [if_pos ⟨c, c3⟩, if_pos c3]
      · rw [if_neg (fun z => c3 z.2), if_neg c3]
    · rw [if_neg (fun z => c z.1), if_neg c, if_neg c]
  show (mh_k h, mh_l h, _, mh_u (fun b k => if b = L then lw k else if b = G then hg k else if b = P then pl k else if b = R then ph k else mh_j h b k) L k y, mh_r h, mh_n h, mh_s h) = _
  rw [e]; rfl
theorem rS_G (h1 : ¬ G = L) : mh_sj (rS h o L G D P R al H lw hg nm pl ph) G k y = rS h o L G D P R al H lw (up hg k y) nm pl ph := by
  have e : mh_u (fun b k => if b = L then lw k else if b = G then hg k else if b = P then pl k else if b = R then ph k else mh_j h b k) G k y = fun b j => if b = L then lw j else if b = G then up hg k y j else if b = P then pl j else if b = R then ph j else mh_j h b j := by
    funext b j
    unfold mh_u up
    dsimp only
    by_cases c : b = G
    · have c1 : ¬ b = L := fun z => h1 (c ▸ z)
      rw [if_neg c1, if_neg c1, if_pos c, if_pos c]
      by_cases c3 : j = k
      · rw [if_pos ⟨c, c3⟩, if_pos c3]
      · rw [if_neg (fun z => c3 z.2), if_neg c3]
    · rw [if_neg (fun z => c z.1), if_neg c, if_neg c]
  show (mh_k h, mh_l h, _, mh_u (fun b k => if b = L then lw k else if b = G then hg k else if b = P then pl k else if b = R then ph k else mh_j h b k) G k y, mh_r h, mh_n h, mh_s h) = _
  rw [e]; rfl
theorem rS_P (h1 : ¬ P = L) (h2 : ¬ P = G) : mh_sj (rS h o L G D P R al H lw hg nm pl ph) P k y = rS h o L G D P R al H lw hg nm (up pl k y) ph := by
  have e : mh_u (fun b k => if b = L then lw k else if b = G then hg k else if b = P then pl k else if b = R then ph k else mh_j h b k) P k y = fun b j => if b = L then lw j else if b = G then hg j else if b = P then up pl k y j else if b = R then ph j else mh_j h b j := by
    funext b j
    unfold mh_u up
    dsimp only
    by_cases c : b = P
    · have c1 : ¬ b = L := fun z => h1 (c ▸ z)
      have c2 : ¬ b = G := fun z => h2 (c ▸ z)
      rw [if_neg c1, if_neg c1, if_neg c2, if_neg c2, if_pos c, if_pos c]
      by_cases c3 : j = k
      · rw [if_pos ⟨c, c3⟩, if_pos c3]
      · rw [if_neg (fun z => c3 z.2), if_neg c3]
    · rw [if_neg (fun z => c z.1), if_neg c, if_neg c]
  show (mh_k h, mh_l h, _, mh_u (fun b k => if b = L then lw k else if b = G then hg k else if b = P then pl k else if b = R then ph k else mh_j h b k) P k y, mh_r h, mh_n h, mh_s h) = _
  rw [e]; rfl
theorem rS_R (h1 : ¬ R = L) (h2 : ¬ R = G) (h3 : ¬ R = P) : mh_sj (rS h o L G D P R al H lw hg nm pl ph) R k y = rS h o L G D P R al H lw hg nm pl (up ph k y) := by
  have e : mh_u (fun b k => if b = L then lw k else if b = G then hg k else if b = P then pl k else if b = R then ph k else mh_j h b k) R k y = fun b j => if b = L then lw j else if b = G then hg j else if b = P then pl j else if b = R then up ph k y j else mh_j h b j := by
    funext b j
    unfold mh_u up
    dsimp only
    by_cases c : b = R
    · have c1 : ¬ b = L := fun z => h1 (c ▸ z)
      have c2 : ¬ b = G := fun z => h2 (c ▸ z)
      have c3' : ¬ b = P := fun z => h3 (c ▸ z)
      rw [if_neg c1, if_neg c1, if_neg c2, if_neg c2, if_neg c3', if_neg c3', if_pos c, if_pos c]
      by_cases c3 : j = k
      · rw [if_pos ⟨c, c3⟩, if_pos c3]
      · rw [if_neg (fun z => c3 z.2), if_neg c3]
    · rw [if_neg (fun z => c z.1), if_neg c, if_neg c]
  show (mh_k h, mh_l h, _, mh_u (fun b k => if b = L then lw k else if b = G then hg k else if b = P then pl k else if b = R then ph k else mh_j h b k) R k y, mh_r h, mh_n h, mh_s h) = _
  rw [e]; rfl
theorem rS_fq : fq (fun b => b = o ∨ b = L ∨ b = G ∨ b = D ∨ b = P ∨ b = R) h (rS h o L G D P R al H lw hg nm pl ph) := ⟨rfl, rfl, rfl, rfl, rfl, fun b hb => ⟨fun j => by
  rw [rS_i, if_neg (fun z => hb (Or.inl z.1)), if_neg (fun z => hb (Or.inl z.1)), if_neg (fun z => hb (Or.inr (Or.inr (Or.inr (Or.inl z)))))], fun j => by
  rw [rS_j, if_neg (fun z => hb (Or.inr (Or.inl z))), if_neg (fun z => hb (Or.inr (Or.inr (Or.inl z)))), if_neg (fun z => hb (Or.inr (Or.inr (Or.inr (Or.inr (Or.inl z)))))), if_neg (fun z => hb (Or.inr (Or.inr (Or.inr (Or.inr (Or.inr z))))))]⟩⟩
end RS0
/-- a Ranges and its rows -/
abbrev RB (h : mh_H) (o L G D P R X : Nat) : Prop := (mg h o 5) ∧ (mh_r h o 1 = some X) ∧ (mh_r h o 5 = some L) ∧ (mh_r h o 6 = some G) ∧ (mh_r h o 7 = some D) ∧ (mh_r h o 9 = some P) ∧ (mh_r h o 10 = some R) ∧ (mg h L 101) ∧ (mg h G 101) ∧ (mg h D 100) ∧ (mg h P 101) ∧ (mg h R 101) ∧ (mh_l h L = 124) ∧ (mh_l h G = 124) ∧ (mh_l h D = 124) ∧ (¬ G = L) ∧ (¬ P = L) ∧ (¬ P = G) ∧ (¬ R = L) ∧ (¬ R = G) ∧ (¬ R = P)
theorem RB.g {h : mh_H} {o L G D P R X : Nat} (q : RB h o L G D P R X) : mg h o 5 := q.1
theorem RB.r1 {h : mh_H} {o L G D P R X : Nat} (q : RB h o L G D P R X) : mh_r h o 1 = some X := q.2.1
theorem RB.r5 {h : mh_H} {o L G D P R X : Nat} (q : RB h o L G D P R X) : mh_r h o 5 = some L := q.2.2.1
theorem RB.r6 {h : mh_H} {o L G D P R X : Nat} (q : RB h o L G D P R X) : mh_r h o 6 = some G := q.2.2.2.1
theorem RB.r7 {h : mh_H} {o L G D P R X : Nat} (q : RB h o L G D P R X) : mh_r h o 7 = some D := q.2.2.2.2.1
theorem RB.r9 {h : mh_H} {o L G D P R X : Nat} (q : RB h o L G D P R X) : mh_r h o 9 = some P := q.2.2.2.2.2.1
theorem RB.r10 {h : mh_H} {o L G D P R X : Nat} (q : RB h o L G D P R X) : mh_r h o 10 = some R := q.2.2.2.2.2.2.1
theorem RB.gL {h : mh_H} {o L G D P R X : Nat} (q : RB h o L G D P R X) : mg h L 101 := q.2.2.2.2.2.2.2.1
theorem RB.gG {h : mh_H} {o L G D P R X : Nat} (q : RB h o L G D P R X) : mg h G 101 := q.2.2.2.2.2.2.2.2.1
theorem RB.gD {h : mh_H} {o L G D P R X : Nat} (q : RB h o L G D P R X) : mg h D 100 := q.2.2.2.2.2.2.2.2.2.1
theorem RB.gP {h : mh_H} {o L G D P R X : Nat} (q : RB h o L G D P R X) : mg h P 101 := q.2.2.2.2.2.2.2.2.2.2.1
theorem RB.gR {h : mh_H} {o L G D P R X : Nat} (q : RB h o L G D P R X) : mg h R 101 := q.2.2.2.2.2.2.2.2.2.2.2.1
theorem RB.lL {h : mh_H} {o L G D P R X : Nat} (q : RB h o L G D P R X) : mh_l h L = 124 := q.2.2.2.2.2.2.2.2.2.2.2.2.1
theorem RB.lG {h : mh_H} {o L G D P R X : Nat} (q : RB h o L G D P R X) : mh_l h G = 124 := q.2.2.2.2.2.2.2.2.2.2.2.2.2.1
theorem RB.lD {h : mh_H} {o L G D P R X : Nat} (q : RB h o L G D P R X) : mh_l h D = 124 := q.2.2.2.2.2.2.2.2.2.2.2.2.2.2.1
theorem RB.n1 {h : mh_H} {o L G D P R X : Nat} (q : RB h o L G D P R X) : ¬ G = L := q.2.2.2.2.2.2.2.2.2.2.2.2.2.2.2.1
theorem RB.n2 {h : mh_H} {o L G D P R X : Nat} (q : RB h o L G D P R X) : ¬ P = L := q.2.2.2.2.2.2.2.2.2.2.2.2.2.2.2.2.1
theorem RB.n3 {h : mh_H} {o L G D P R X : Nat} (q : RB h o L G D P R X) : ¬ P = G := q.2.2.2.2.2.2.2.2.2.2.2.2.2.2.2.2.2.1
theorem RB.n4 {h : mh_H} {o L G D P R X : Nat} (q : RB h o L G D P R X) : ¬ R = L := q.2.2.2.2.2.2.2.2.2.2.2.2.2.2.2.2.2.2.1
theorem RB.n5 {h : mh_H} {o L G D P R X : Nat} (q : RB h o L G D P R X) : ¬ R = G := q.2.2.2.2.2.2.2.2.2.2.2.2.2.2.2.2.2.2.2.1
theorem RB.n6 {h : mh_H} {o L G D P R X : Nat} (q : RB h o L G D P R X) : ¬ R = P := q.2.2.2.2.2.2.2.2.2.2.2.2.2.2.2.2.2.2.2.2
section RBS
variable {d : Nat} {Q : Option Value → mh_H → Prop} {h : mh_H} {o L G D P R X : Nat} {al : Int32} {H : Nat} {lw hg : Nat → Int64} {nm : Nat → Int32} {pl ph : Nat → Int64}
theorem RB.nD (B : RB h o L G D P R X) : ¬ D = o := fun z => by have := B.g.1; have := B.gD.1; rw [z] at *; omega
theorem c_101 (B : RB h o L G D P R X) {x y : Int64} {s : Int32} (hH : H < 124) : mcall d 101 [.ref o, .long x, .long y, .int s] (rS h o L G D P R al (Int32.ofNat H) lw hg nm pl ph) Q = Q none (rS h o L G D P R al (Int32.ofNat (H + 1)) (up lw H x) (up hg H y) (up nm H s) pl ph) := by
  obtain ⟨g, r1, r5, r6, r7, r9, r10, gL, gG, gD, gP, gR, lL, lG, lD, n1, n2, n3, n4, n5, n6⟩ := B
  have nD : ¬ D = o := fun z => by have := g.1; have := gD.1; rw [z] at *; omega
  have ei : ∀ k, Int32.ofNat k + 1 = Int32.ofNat (k + 1) := fun k => nn_add (a := k) (b := 1)
  simp (disch := omega) only [s_101_0, s_101_1, s_101_4, s_101_5, s_101_8, s_101_9, s_101_10, s_101_11, s_101_14, s_101_15, s_101_18, s_101_19, s_101_20, s_101_21, s_101_24, s_101_25, s_101_28, s_101_30, s_101_31, s_101_32, s_101_33, s_101_36, s_101_37, s_101_38, s_101_41, e_101, mv_i_1, mv_l_1, mv_a_1, mv_a_2, mv_a_3, mk2_n, mk2_i, mk2_l, mk2_a, mk2_u, mk2_x, mB_T, mB_F, mS_cons, mS_nil, mSB_T, mSB_F, mca_nil, mca_i, mca_l, mca_r, mca_u, mca_x, mcat_i, mcat_l, mcat_r, mcat_u, mcat_x, mK_some, mK_none, va_rf_s, va_rf_n, lgc_eq, lgc_lt, lgc_gt, lgc_ge, lgc_le, mrd_104, mrd_105, mrd_106, mrd_107, true_and, and_true, and_self, false_and, and_false, true_or, or_true, false_or, or_false, not_true_eq_false, not_false_eq_true, mgb, mga, mgr, mN, reduceCtorEq, ↓reduceIte, eq_self, ge_iff_le, gt_iff_lt, Nat.reduceAdd, Nat.reduceMul, Nat.reduceSub, Nat.reduceLT, Nat.reduceGT, Nat.reduceEqDiff, Nat.reduceLeDiff, Nat.left_eq_add, Nat.add_eq_left, Nat.reduceMod, Nat.reduceDiv, Nat.succ_ne_self, rS_g, rS_i, rS_j, rS_k, rS_n, rS_r, rS_l, rS_8, rS_L, rS_G n1, rS_D nD, g, r5, r6, r7, gL, gG, gD, lL, lG, lD, nn_mxT, nn_clamp, ei]
theorem c_105 (B : RB h o L G D P R X) (hH : H < 124) : mcall d 105 [.ref o] (rS h o L G D P R al (Int32.ofNat (H + 1)) lw hg nm pl ph) Q = Q none (rS h o L G D P R al (Int32.ofNat (H + 1)) (up lw H (-hg H)) (up hg H (-lw H)) (up nm H (-1)) pl ph) := by
  obtain ⟨g, r1, r5, r6, r7, r9, r10, gL, gG, gD, gP, gR, lL, lG, lD, n1, n2, n3, n4, n5, n6⟩ := B
  have nD : ¬ D = o := fun z => by have := g.1; have := gD.1; rw [z] at *; omega
  have es : Int32.ofNat (H + 1) - 1 = Int32.ofNat H := nn_sub (a := H + 1) (b := 1) (by omega)
  simp (disch := omega) only [s_105_0, s_105_1, s_105_4, s_105_5, s_105_6, s_105_7, s_105_8, s_105_11, s_105_12, s_105_13, s_105_14, s_105_15, s_105_16, s_105_19, s_105_20, s_105_21, s_105_24, s_105_25, s_105_26, s_105_27, s_105_28, s_105_29, s_105_32, s_105_33, s_105_34, s_105_35, s_105_36, s_105_39, s_105_40, s_105_41, s_105_42, e_105, mv_i_1, mv_l_1, mv_a_1, mv_a_2, mv_a_3, mk2_n, mk2_i, mk2_l, mk2_a, mk2_u, mk2_x, mB_T, mB_F, mS_cons, mS_nil, mSB_T, mSB_F, mca_nil, mca_i, mca_l, mca_r, mca_u, mca_x, mcat_i, mcat_l, mcat_r, mcat_u, mcat_x, mK_some, mK_none, va_rf_s, va_rf_n, lgc_eq, lgc_lt, lgc_gt, lgc_ge, lgc_le, mrd_104, mrd_105, mrd_106, mrd_107, true_and, and_true, and_self, false_and, and_false, true_or, or_true, false_or, or_false, not_true_eq_false, not_false_eq_true, mgb, mga, mgr, mN, reduceCtorEq, ↓reduceIte, eq_self, ge_iff_le, gt_iff_lt, Nat.reduceAdd, Nat.reduceMul, Nat.reduceSub, Nat.reduceLT, Nat.reduceGT, Nat.reduceEqDiff, Nat.reduceLeDiff, Nat.left_eq_add, Nat.add_eq_left, Nat.reduceMod, Nat.reduceDiv, Nat.succ_ne_self, rS_g, rS_i, rS_j, rS_k, rS_n, rS_r, rS_l, rS_8, rS_L, rS_G n1, rS_D nD, g, r5, r6, r7, gL, gG, gD, lL, lG, lD, n1, nn_mxT, nn_clamp, es, up_s]
end RBS
