set_option maxRecDepth 100000
/-- the rows that form reads -/
abbrev FB (h : mh_H) (o SG Y TT UU SP P R nE nS lP nb : Nat) : Prop := (mg h o 5) ∧ (mh_i h o 2 = Int32.ofNat nb) ∧ (mh_r h o 0 = some Y) ∧ (mh_r h o 9 = some P) ∧ (mh_r h o 10 = some R) ∧ (mh_r h o 11 = some SG) ∧ (mg h SG 100) ∧ (mh_l h SG = 12) ∧ (mg h Y 7) ∧ (mh_r h Y 3 = some TT) ∧ (mh_r h Y 4 = some UU) ∧ (mh_r h Y 7 = some SP) ∧ (mg h TT 100) ∧ (mg h UU 100) ∧ (mg h SP 100) ∧ (mh_l h TT = nE) ∧ (mh_l h UU = nE) ∧ (mh_l h SP = nS) ∧ (mg h P 101) ∧ (mg h R 101) ∧ (mh_l h P = lP) ∧ (mh_l h R = lP) ∧ (¬ TT = SG) ∧ (¬ UU = SG) ∧ (¬ SP = SG) ∧ (nE < 1000000) ∧ (nS < 1000000) ∧ (lP < 1000000)
theorem FB.g {h : mh_H} {o SG Y TT UU SP P R nE nS lP nb : Nat} (q : FB h o SG Y TT UU SP P R nE nS lP nb) : mg h o 5 := q.1
theorem FB.f2 {h : mh_H} {o SG Y TT UU SP P R nE nS lP nb : Nat} (q : FB h o SG Y TT UU SP P R nE nS lP nb) : mh_i h o 2 = Int32.ofNat nb := q.2.1
theorem FB.r0 {h : mh_H} {o SG Y TT UU SP P R nE nS lP nb : Nat} (q : FB h o SG Y TT UU SP P R nE nS lP nb) : mh_r h o 0 = some Y := q.2.2.1
theorem FB.r9 {h : mh_H} {o SG Y TT UU SP P R nE nS lP nb : Nat} (q : FB h o SG Y TT UU SP P R nE nS lP nb) : mh_r h o 9 = some P := q.2.2.2.1
theorem FB.r10 {h : mh_H} {o SG Y TT UU SP P R nE nS lP nb : Nat} (q : FB h o SG Y TT UU SP P R nE nS lP nb) : mh_r h o 10 = some R := q.2.2.2.2.1
theorem FB.r11 {h : mh_H} {o SG Y TT UU SP P R nE nS lP nb : Nat} (q : FB h o SG Y TT UU SP P R nE nS lP nb) : mh_r h o 11 = some SG := q.2.2.2.2.2.1
theorem FB.gS' {h : mh_H} {o SG Y TT UU SP P R nE nS lP nb : Nat} (q : FB h o SG Y TT UU SP P R nE nS lP nb) : mg h SG 100 := q.2.2.2.2.2.2.1
theorem FB.lS {h : mh_H} {o SG Y TT UU SP P R nE nS lP nb : Nat} (q : FB h o SG Y TT UU SP P R nE nS lP nb) : mh_l h SG = 12 := q.2.2.2.2.2.2.2.1
theorem FB.gY {h : mh_H} {o SG Y TT UU SP P R nE nS lP nb : Nat} (q : FB h o SG Y TT UU SP P R nE nS lP nb) : mg h Y 7 := q.2.2.2.2.2.2.2.2.1
theorem FB.rT {h : mh_H} {o SG Y TT UU SP P R nE nS lP nb : Nat} (q : FB h o SG Y TT UU SP P R nE nS lP nb) : mh_r h Y 3 = some TT := q.2.2.2.2.2.2.2.2.2.1
theorem FB.rU {h : mh_H} {o SG Y TT UU SP P R nE nS lP nb : Nat} (q : FB h o SG Y TT UU SP P R nE nS lP nb) : mh_r h Y 4 = some UU := q.2.2.2.2.2.2.2.2.2.2.1
theorem FB.r7 {h : mh_H} {o SG Y TT UU SP P R nE nS lP nb : Nat} (q : FB h o SG Y TT UU SP P R nE nS lP nb) : mh_r h Y 7 = some SP := q.2.2.2.2.2.2.2.2.2.2.2.1
theorem FB.gT {h : mh_H} {o SG Y TT UU SP P R nE nS lP nb : Nat} (q : FB h o SG Y TT UU SP P R nE nS lP nb) : mg h TT 100 := q.2.2.2.2.2.2.2.2.2.2.2.2.1
theorem FB.gU {h : mh_H} {o SG Y TT UU SP P R nE nS lP nb : Nat} (q : FB h o SG Y TT UU SP P R nE nS lP nb) : mg h UU 100 := q.2.2.2.2.2.2.2.2.2.2.2.2.2.1
theorem FB.g7 {h : mh_H} {o SG Y TT UU SP P R nE nS lP nb : Nat} (q : FB h o SG Y TT UU SP P R nE nS lP nb) : mg h SP 100 := q.2.2.2.2.2.2.2.2.2.2.2.2.2.2.1
theorem FB.lT {h : mh_H} {o SG Y TT UU SP P R nE nS lP nb : Nat} (q : FB h o SG Y TT UU SP P R nE nS lP nb) : mh_l h TT = nE := q.2.2.2.2.2.2.2.2.2.2.2.2.2.2.2.1
theorem FB.lU {h : mh_H} {o SG Y TT UU SP P R nE nS lP nb : Nat} (q : FB h o SG Y TT UU SP P R nE nS lP nb) : mh_l h UU = nE := q.2.2.2.2.2.2.2.2.2.2.2.2.2.2.2.2.1
theorem FB.l7 {h : mh_H} {o SG Y TT UU SP P R nE nS lP nb : Nat} (q : FB h o SG Y TT UU SP P R nE nS lP nb) : mh_l h SP = nS := q.2.2.2.2.2.2.2.2.2.2.2.2.2.2.2.2.2.1
theorem FB.gP {h : mh_H} {o SG Y TT UU SP P R nE nS lP nb : Nat} (q : FB h o SG Y TT UU SP P R nE nS lP nb) : mg h P 101 := q.2.2.2.2.2.2.2.2.2.2.2.2.2.2.2.2.2.2.1
theorem FB.gR {h : mh_H} {o SG Y TT UU SP P R nE nS lP nb : Nat} (q : FB h o SG Y TT UU SP P R nE nS lP nb) : mg h R 101 := q.2.2.2.2.2.2.2.2.2.2.2.2.2.2.2.2.2.2.2.1
theorem FB.lP1 {h : mh_H} {o SG Y TT UU SP P R nE nS lP nb : Nat} (q : FB h o SG Y TT UU SP P R nE nS lP nb) : mh_l h P = lP := q.2.2.2.2.2.2.2.2.2.2.2.2.2.2.2.2.2.2.2.2.1
theorem FB.lP2 {h : mh_H} {o SG Y TT UU SP P R nE nS lP nb : Nat} (q : FB h o SG Y TT UU SP P R nE nS lP nb) : mh_l h R = lP := q.2.2.2.2.2.2.2.2.2.2.2.2.2.2.2.2.2.2.2.2.2.1
theorem FB.dT {h : mh_H} {o SG Y TT UU SP P R nE nS lP nb : Nat} (q : FB h o SG Y TT UU SP P R nE nS lP nb) : ¬ TT = SG := q.2.2.2.2.2.2.2.2.2.2.2.2.2.2.2.2.2.2.2.2.2.2.1
theorem FB.dU {h : mh_H} {o SG Y TT UU SP P R nE nS lP nb : Nat} (q : FB h o SG Y TT UU SP P R nE nS lP nb) : ¬ UU = SG := q.2.2.2.2.2.2.2.2.2.2.2.2.2.2.2.2.2.2.2.2.2.2.2.1
theorem FB.d7 {h : mh_H} {o SG Y TT UU SP P R nE nS lP nb : Nat} (q : FB h o SG Y TT UU SP P R nE nS lP nb) : ¬ SP = SG := q.2.2.2.2.2.2.2.2.2.2.2.2.2.2.2.2.2.2.2.2.2.2.2.2.1
theorem FB.bE {h : mh_H} {o SG Y TT UU SP P R nE nS lP nb : Nat} (q : FB h o SG Y TT UU SP P R nE nS lP nb) : nE < 1000000 := q.2.2.2.2.2.2.2.2.2.2.2.2.2.2.2.2.2.2.2.2.2.2.2.2.2.1
theorem FB.bS {h : mh_H} {o SG Y TT UU SP P R nE nS lP nb : Nat} (q : FB h o SG Y TT UU SP P R nE nS lP nb) : nS < 1000000 := q.2.2.2.2.2.2.2.2.2.2.2.2.2.2.2.2.2.2.2.2.2.2.2.2.2.2.1
theorem FB.bP {h : mh_H} {o SG Y TT UU SP P R nE nS lP nb : Nat} (q : FB h o SG Y TT UU SP P R nE nS lP nb) : lP < 1000000 := q.2.2.2.2.2.2.2.2.2.2.2.2.2.2.2.2.2.2.2.2.2.2.2.2.2.2.2
def s64 (f : Nat → Int64) : Nat → Int64
  | 0 => 0
  | i + 1 => s64 f i + f i
def n64 (b : Nat → Bool) : Nat → Nat
  | 0 => 0
  | i + 1 => n64 b i + (if b i then 1 else 0)
/-- which slots are free parts: t whether a part is turned, u its slot -/
def sgN (nb : Nat) (t u z : Nat → Int32) : Nat → Nat → Int32
  | 0 => z
  | i + 1 => if u i < 0 then sgN nb t u z i else up (sgN nb t u z i) (nb + (u i).toNatClampNeg) (if sgN nb t u z i (nb + (u i).toNatClampNeg) = 0 then (if t i = 1 then -1 else 1) else 2)
theorem s64_1 {f : Nat → Int64} {i : Nat} : s64 f (i + 1) = s64 f i + f i := rfl
theorem n64_1 {b : Nat → Bool} {i : Nat} : n64 b (i + 1) = n64 b i + (if b i then 1 else 0) := rfl
theorem n64_le {b : Nat → Bool} : ∀ i, n64 b i ≤ i := by
  intro i
  induction i with
  | zero => exact Nat.le_refl _
  | succ i ih => rw [n64_1]; split <;> omega
section FRM2
variable {d : Nat} {h : mh_H} {o SG Y TT UU SP P R nE nS lP nb : Nat} {sg : Nat → Int32} {fl fh li ol oh : Int64}
theorem c_393 {Q : Option Value → mh_H → Prop} (B : FB h o SG Y TT UU SP P R nE nS lP nb) {fr mx : Int32} : mcall d 393 [.ref SG, .int 0] (gS h o SG fr mx sg fl fh li ol oh) Q = Q none (gS h o SG fr mx (fun j => if j < 12 then 0 else sg j) fl fh li ol oh) := by
  have g := B.g
  have gS' := B.gS'
  have lS := B.lS
  have k1 := gS'.1
  have k2 := gS'.2
  have nS' : ¬ SG = o := fun z => by have := g.1; have := gS'.1; rw [z] at *; omega
  have ei : ∀ k, Int32.ofNat k + 1 = Int32.ofNat (k + 1) := fun k => nn_add (a := k) (b := 1)
  have L1 := mw_loop (d := d) (y := 393) (pc := 5) (Q := Q) (st := []) (fun k => [some (.ref SG), some (.int 0), some (.int (Int32.ofNat k)), some (.int (Int32.ofNat 12))]) (fun k => gS h o SG fr mx (fun j => if j < k then 0 else sg j) fl fh li ol oh) (a := 0) (b := 12) (Nat.zero_le _) (fun k _ hk => by
    have hk2 : ¬ 12 ≤ k := by omega
    rw [s_393_5]
    simp (disch := omega) only [s_393_0, s_393_1, s_393_2, s_393_3, s_393_3x, s_393_4, s_393_6, s_393_7, s_393_10, s_393_11, s_393_12, s_393_13, s_393_14, s_393_17, s_393_20, e_393, mv_i_1, mv_l_1, mv_a_1, mv_a_2, mv_a_3, mk2_n, mk2_i, mk2_l, mk2_a, mk2_u, mk2_x, mB_T, mB_F, mS_cons, mS_nil, mSB_T, mSB_F, mca_nil, mca_i, mca_l, mca_r, mca_u, mca_x, mcat_i, mcat_l, mcat_r, mcat_u, mcat_x, mK_some, mK_none, va_rf_s, va_rf_n, lgc_eq, lgc_lt, lgc_gt, lgc_ge, lgc_le, mrd_104, mrd_105, mrd_106, mrd_107, true_and, and_true, and_self, false_and, and_false, true_or, or_true, false_or, or_false, not_true_eq_false, not_false_eq_true, mgb, mga, mgr, mN, reduceCtorEq, ↓reduceIte, eq_self, ge_iff_le, gt_iff_lt, Nat.reduceAdd, Nat.reduceMul, Nat.reduceSub, Nat.reduceLT, Nat.reduceGT, Nat.reduceEqDiff, Nat.reduceLeDiff, Nat.left_eq_add, Nat.add_eq_left, Nat.reduceMod, Nat.reduceDiv, Nat.succ_ne_self, gS_g, gS_k, gS_n, gS_l, gS', k1, k2, lS, nn_le, nn_mxT, nn_clamp, ei, hk2, gS_SG nS']
    have e : up (fun j => if j < k then 0 else sg j) k 0 = fun j => if j < k + 1 then 0 else sg j := by
      funext j
      unfold up
      dsimp only
      by_cases c : j = k
      · rw [if_pos c, if_pos (by omega)]
      · rw [if_neg c]
        by_cases c2 : j < k
        · rw [if_pos c2, if_pos (by omega)]
        · rw [if_neg c2, if_neg (by omega)]
    rw [e])
  have i0 : gS h o SG fr mx (fun j => if j < 0 then 0 else sg j) fl fh li ol oh = gS h o SG fr mx sg fl fh li ol oh := by
    have : (fun j => if j < 0 then (0 : Int32) else sg j) = sg := by funext j; rw [if_neg (by omega)]
    rw [this]
  rw [i0] at L1
  have E0 : mcall d 393 [.ref SG, .int 0] (gS h o SG fr mx sg fl fh li ol oh) Q = mw d 393 Q 5 [some (.ref SG), some (.int 0), some (.int (Int32.ofNat 0)), some (.int (Int32.ofNat 12))] [] (gS h o SG fr mx sg fl fh li ol oh) := by
    simp (disch := omega) only [s_393_0, s_393_1, s_393_2, s_393_3, s_393_3x, s_393_4, s_393_6, s_393_7, s_393_10, s_393_11, s_393_12, s_393_13, s_393_14, s_393_17, s_393_20, e_393, mv_i_1, mv_l_1, mv_a_1, mv_a_2, mv_a_3, mk2_n, mk2_i, mk2_l, mk2_a, mk2_u, mk2_x, mB_T, mB_F, mS_cons, mS_nil, mSB_T, mSB_F, mca_nil, mca_i, mca_l, mca_r, mca_u, mca_x, mcat_i, mcat_l, mcat_r, mcat_u, mcat_x, mK_some, mK_none, va_rf_s, va_rf_n, lgc_eq, lgc_lt, lgc_gt, lgc_ge, lgc_le, mrd_104, mrd_105, mrd_106, mrd_107, true_and, and_true, and_self, false_and, and_false, true_or, or_true, false_or, or_false, not_true_eq_false, not_false_eq_true, mgb, mga, mgr, mN, reduceCtorEq, ↓reduceIte, eq_self, ge_iff_le, gt_iff_lt, Nat.reduceAdd, Nat.reduceMul, Nat.reduceSub, Nat.reduceLT, Nat.reduceGT, Nat.reduceEqDiff, Nat.reduceLeDiff, Nat.left_eq_add, Nat.add_eq_left, Nat.reduceMod, Nat.reduceDiv, Nat.succ_ne_self, gS_g, gS_k, gS_n, gS_l, gS', k1, k2, lS]
    rfl
  refine E0.trans (L1.trans ?_)
  rw [s_393_5]
  simp (disch := omega) only [s_393_0, s_393_1, s_393_2, s_393_3, s_393_3x, s_393_4, s_393_6, s_393_7, s_393_10, s_393_11, s_393_12, s_393_13, s_393_14, s_393_17, s_393_20, e_393, mv_i_1, mv_l_1, mv_a_1, mv_a_2, mv_a_3, mk2_n, mk2_i, mk2_l, mk2_a, mk2_u, mk2_x, mB_T, mB_F, mS_cons, mS_nil, mSB_T, mSB_F, mca_nil, mca_i, mca_l, mca_r, mca_u, mca_x, mcat_i, mcat_l, mcat_r, mcat_u, mcat_x, mK_some, mK_none, va_rf_s, va_rf_n, lgc_eq, lgc_lt, lgc_gt, lgc_ge, lgc_le, mrd_104, mrd_105, mrd_106, mrd_107, true_and, and_true, and_self, false_and, and_false, true_or, or_true, false_or, or_false, not_true_eq_false, not_false_eq_true, mgb, mga, mgr, mN, reduceCtorEq, ↓reduceIte, eq_self, ge_iff_le, gt_iff_lt, Nat.reduceAdd, Nat.reduceMul, Nat.reduceSub, Nat.reduceLT, Nat.reduceGT, Nat.reduceEqDiff, Nat.reduceLeDiff, Nat.left_eq_add, Nat.add_eq_left, Nat.reduceMod, Nat.reduceDiv, Nat.succ_ne_self, nn_le]
end FRM2
