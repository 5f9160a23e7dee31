set_option maxRecDepth 100000
/-! the reference's parts: Analysis.all -/
abbrev GB (h : mh_H) (o K PQ PS PU PF PL PH X N lP : Nat) : Prop := (mg h o 12) ∧ (mh_r h o 0 = some K) ∧ (mg h K 102) ∧ (mh_l h K = 26000) ∧ (mh_r h o 23 = some X) ∧ (ko h X) ∧ (mh_r h o 27 = some PQ) ∧ (mh_r h o 28 = some PS) ∧ (mh_r h o 29 = some PU) ∧ (mh_r h o 30 = some PF) ∧ (mh_r h o 31 = some PL) ∧ (mh_r h o 32 = some PH) ∧ (mg h PQ 100) ∧ (mg h PS 100) ∧ (mg h PU 100) ∧ (mg h PF 103) ∧ (mg h PL 101) ∧ (mg h PH 101) ∧ (mh_l h PQ = lP) ∧ (mh_l h PS = lP) ∧ (mh_l h PU = lP) ∧ (mh_l h PF = lP) ∧ (mh_l h PL = lP) ∧ (mh_l h PH = lP) ∧ (mh_i h o 33 = Int32.ofNat N) ∧ (N ≤ lP) ∧ (lP < 1000000)
theorem GB.g {h : mh_H} {o K PQ PS PU PF PL PH X N lP : Nat} (q : GB h o K PQ PS PU PF PL PH X N lP) : mg h o 12 := q.1
theorem GB.r0 {h : mh_H} {o K PQ PS PU PF PL PH X N lP : Nat} (q : GB h o K PQ PS PU PF PL PH X N lP) : mh_r h o 0 = some K := q.2.1
theorem GB.gK {h : mh_H} {o K PQ PS PU PF PL PH X N lP : Nat} (q : GB h o K PQ PS PU PF PL PH X N lP) : mg h K 102 := q.2.2.1
theorem GB.lK {h : mh_H} {o K PQ PS PU PF PL PH X N lP : Nat} (q : GB h o K PQ PS PU PF PL PH X N lP) : mh_l h K = 26000 := q.2.2.2.1
theorem GB.r23 {h : mh_H} {o K PQ PS PU PF PL PH X N lP : Nat} (q : GB h o K PQ PS PU PF PL PH X N lP) : mh_r h o 23 = some X := q.2.2.2.2.1
theorem GB.kX {h : mh_H} {o K PQ PS PU PF PL PH X N lP : Nat} (q : GB h o K PQ PS PU PF PL PH X N lP) : ko h X := q.2.2.2.2.2.1
theorem GB.r27 {h : mh_H} {o K PQ PS PU PF PL PH X N lP : Nat} (q : GB h o K PQ PS PU PF PL PH X N lP) : mh_r h o 27 = some PQ := q.2.2.2.2.2.2.1
theorem GB.r28 {h : mh_H} {o K PQ PS PU PF PL PH X N lP : Nat} (q : GB h o K PQ PS PU PF PL PH X N lP) : mh_r h o 28 = some PS := q.2.2.2.2.2.2.2.1
theorem GB.r29 {h : mh_H} {o K PQ PS PU PF PL PH X N lP : Nat} (q : GB h o K PQ PS PU PF PL PH X N lP) : mh_r h o 29 = some PU := q.2.2.2.2.2.2.2.2.1
theorem GB.r30 {h : mh_H} {o K PQ PS PU PF PL PH X N lP : Nat} (q : GB h o K PQ PS PU PF PL PH X N lP) : mh_r h o 30 = some PF := q.2.2.2.2.2.2.2.2.2.1
theorem GB.r31 {h : mh_H} {o K PQ PS PU PF PL PH X N lP : Nat} (q : GB h o K PQ PS PU PF PL PH X N lP) : mh_r h o 31 = some PL := q.2.2.2.2.2.2.2.2.2.2.1
theorem GB.r32 {h : mh_H} {o K PQ PS PU PF PL PH X N lP : Nat} (q : GB h o K PQ PS PU PF PL PH X N lP) : mh_r h o 32 = some PH := q.2.2.2.2.2.2.2.2.2.2.2.1
theorem GB.g27 {h : mh_H} {o K PQ PS PU PF PL PH X N lP : Nat} (q : GB h o K PQ PS PU PF PL PH X N lP) : mg h PQ 100 := q.2.2.2.2.2.2.2.2.2.2.2.2.1
theorem GB.g28 {h : mh_H} {o K PQ PS PU PF PL PH X N lP : Nat} (q : GB h o K PQ PS PU PF PL PH X N lP) : mg h PS 100 := q.2.2.2.2.2.2.2.2.2.2.2.2.2.1
theorem GB.g29 {h : mh_H} {o K PQ PS PU PF PL PH X N lP : Nat} (q : GB h o K PQ PS PU PF PL PH X N lP) : mg h PU 100 := q.2.2.2.2.2.2.2.2.2.2.2.2.2.2.1
theorem GB.g30 {h : mh_H} {o K PQ PS PU PF PL PH X N lP : Nat} (q : GB h o K PQ PS PU PF PL PH X N lP) : mg h PF 103 := q.2.2.2.2.2.2.2.2.2.2.2.2.2.2.2.1
theorem GB.g31 {h : mh_H} {o K PQ PS PU PF PL PH X N lP : Nat} (q : GB h o K PQ PS PU PF PL PH X N lP) : mg h PL 101 := q.2.2.2.2.2.2.2.2.2.2.2.2.2.2.2.2.1
theorem GB.g32 {h : mh_H} {o K PQ PS PU PF PL PH X N lP : Nat} (q : GB h o K PQ PS PU PF PL PH X N lP) : mg h PH 101 := q.2.2.2.2.2.2.2.2.2.2.2.2.2.2.2.2.2.1
theorem GB.l27 {h : mh_H} {o K PQ PS PU PF PL PH X N lP : Nat} (q : GB h o K PQ PS PU PF PL PH X N lP) : mh_l h PQ = lP := q.2.2.2.2.2.2.2.2.2.2.2.2.2.2.2.2.2.2.1
theorem GB.l28 {h : mh_H} {o K PQ PS PU PF PL PH X N lP : Nat} (q : GB h o K PQ PS PU PF PL PH X N lP) : mh_l h PS = lP := q.2.2.2.2.2.2.2.2.2.2.2.2.2.2.2.2.2.2.2.1
theorem GB.l29 {h : mh_H} {o K PQ PS PU PF PL PH X N lP : Nat} (q : GB h o K PQ PS PU PF PL PH X N lP) : mh_l h PU = lP := q.2.2.2.2.2.2.2.2.2.2.2.2.2.2.2.2.2.2.2.2.1
theorem GB.l30 {h : mh_H} {o K PQ PS PU PF PL PH X N lP : Nat} (q : GB h o K PQ PS PU PF PL PH X N lP) : mh_l h PF = lP := q.2.2.2.2.2.2.2.2.2.2.2.2.2.2.2.2.2.2.2.2.2.1
theorem GB.l31 {h : mh_H} {o K PQ PS PU PF PL PH X N lP : Nat} (q : GB h o K PQ PS PU PF PL PH X N lP) : mh_l h PL = lP := q.2.2.2.2.2.2.2.2.2.2.2.2.2.2.2.2.2.2.2.2.2.2.1
theorem GB.l32 {h : mh_H} {o K PQ PS PU PF PL PH X N lP : Nat} (q : GB h o K PQ PS PU PF PL PH X N lP) : mh_l h PH = lP := q.2.2.2.2.2.2.2.2.2.2.2.2.2.2.2.2.2.2.2.2.2.2.2.1
theorem GB.c {h : mh_H} {o K PQ PS PU PF PL PH X N lP : Nat} (q : GB h o K PQ PS PU PF PL PH X N lP) : mh_i h o 33 = Int32.ofNat N := q.2.2.2.2.2.2.2.2.2.2.2.2.2.2.2.2.2.2.2.2.2.2.2.2.1
theorem GB.b {h : mh_H} {o K PQ PS PU PF PL PH X N lP : Nat} (q : GB h o K PQ PS PU PF PL PH X N lP) : N ≤ lP := q.2.2.2.2.2.2.2.2.2.2.2.2.2.2.2.2.2.2.2.2.2.2.2.2.2.1
theorem GB.bl {h : mh_H} {o K PQ PS PU PF PL PH X N lP : Nat} (q : GB h o K PQ PS PU PF PL PH X N lP) : lP < 1000000 := q.2.2.2.2.2.2.2.2.2.2.2.2.2.2.2.2.2.2.2.2.2.2.2.2.2.2
abbrev raT : Type := Int64 × Int64 × Int64 × Option Nat × Option Nat × Bool
def raN (lo hi : Nat → Int64) (num fre : Nat → Bool) (x y : Int32) (i : Nat) (s : raT) : raT :=
  if Int32.ofNat i = x ∨ Int32.ofNat i = y then s
  else if num i = true then (s.1 + lo i, s.2.1 + hi i, s.2.2.1 + lo i, s.2.2.2.1, s.2.2.2.2.1, s.2.2.2.2.2)
  else if fre i = true ∧ s.2.2.2.2.1 = none then (s.1 + lo i, s.2.1 + hi i, s.2.2.1, (if s.2.2.2.1 = none then some i else s.2.2.2.1), (if s.2.2.2.1 = none then none else some i), s.2.2.2.2.2)
  else (s.1 + lo i, s.2.1 + hi i, s.2.2.1, s.2.2.2.1, s.2.2.2.2.1, false)
def raS (lo hi : Nat → Int64) (num fre : Nat → Bool) (x y : Int32) : Nat → raT
  | 0 => (0, 0, 0, none, none, true)
  | i + 1 => raN lo hi num fre x y i (raS lo hi num fre x y i)
def raE (bd : Nat → Nat → Int64) (sd : Nat → Nat) (s : raT) : Int64 × Int64 := match s.2.2.2.1, s.2.2.2.2.1, s.2.2.2.2.2 with
  | some i, some j, true => (s.2.2.1 - bd (oc_b (sd i)) (oc_b (sd j)), s.2.2.1 + bd (sd i) (sd j))
  | _, _, _ => (s.1, s.2.1)
theorem raS_v {lo hi : Nat → Int64} {num fre : Nat → Bool} {x y : Int32} : ∀ n, (∀ i, (raS lo hi num fre x y n).2.2.2.1 = some i → i < n ∧ fre i = true) ∧ ∀ j, (raS lo hi num fre x y n).2.2.2.2.1 = some j → j < n ∧ fre j = true ∧ ∃ i, (raS lo hi num fre x y n).2.2.2.1 = some i := by
  intro n
  induction n with
  | zero => exact ⟨fun i hi => (by cases hi), fun i hi => (by cases hi)⟩
  | succ n ih =>
    obtain ⟨i1, i2⟩ := ih
    show (∀ i, (raN lo hi num fre x y n (raS lo hi num fre x y n)).2.2.2.1 = some i → i < n + 1 ∧ fre i = true) ∧ ∀ j, (raN lo hi num fre x y n (raS lo hi num fre x y n)).2.2.2.2.1 = some j → j < n + 1 ∧ fre j = true ∧ ∃ i, (raN lo hi num fre x y n (raS lo hi num fre x y n)).2.2.2.1 = some i
    have w1 : ∀ i, (raS lo hi num fre x y n).2.2.2.1 = some i → i < n + 1 ∧ fre i = true := fun i hi => ⟨by have := (i1 i hi).1; omega, (i1 i hi).2⟩
    have w2 : ∀ j, (raS lo hi num fre x y n).2.2.2.2.1 = some j → j < n + 1 ∧ fre j = true ∧ ∃ i, (raS lo hi num fre x y n).2.2.2.1 = some i := fun j hj => ⟨by have := (i2 j hj).1; omega, (i2 j hj).2⟩
    unfold raN
    split
    · exact ⟨w1, w2⟩
    · split
      · exact ⟨w1, w2⟩
      · split
        · next c =>
          dsimp only
          cases hf : (raS lo hi num fre x y n).2.2.2.1 with
          | none =>
            refine ⟨fun i hi => ?_, fun j hj => ?_⟩
            · rw [if_pos rfl] at hi
              cases hi
              exact ⟨Nat.lt_succ_self _, c.1⟩
            · rw [if_pos rfl] at hj
              cases hj
          | some q =>
            have ne : ¬ (some q : Option Nat) = none := fun z => by cases z
            refine ⟨fun i hi => ?_, fun j hj => ?_⟩
            · rw [if_neg ne] at hi
              exact w1 i (by rw [hf]; exact hi)
            · rw [if_neg ne] at hj
              cases hj
              exact ⟨Nat.lt_succ_self _, c.1, q, if_neg ne⟩
        · exact ⟨w1, w2⟩
section GA
variable {d : Nat} {h : mh_H} {o K PQ PS PU PF PL PH X N lP : Nat} {al : Int32} {lo hi : Int64}
def g_num (h : mh_H) (K PQ i : Nat) : Bool := decide (mh_i h K (mh_i h PQ i).toNatClampNeg = 12)
def g_fre (h : mh_H) (PF i : Nat) : Bool := !decide (mh_i h PF i = 0)
def g_sd (h : mh_H) (PS PU i : Nat) : Nat := if 0 < mh_i h PS i then 2 * (mh_i h PU i).toNatClampNeg else 2 * (mh_i h PU i).toNatClampNeg + 1
theorem c_245 {Q : Option Value → mh_H → Prop} (B : GB h o K PQ PS PU PF PL PH X N lP) {i : Nat} (hi' : i < N) (hs : ∃ s, mh_i h PU i = Int32.ofNat s ∧ s < 12) : mcall d 245 [.ref o, .int (Int32.ofNat i)] (aS h o al lo hi) Q = Q (some (.int (Int32.ofNat (g_sd h PS PU i)))) (aS h o al lo hi) := by
  obtain ⟨s, u, us⟩ := hs
  have g := B.g
  have b := B.b
  have bl := B.bl
  have r28 := B.r28
  have r29 := B.r29
  have g28 := B.g28
  have g29 := B.g29
  have l28 := B.l28
  have l29 := B.l29
  have n28 : ¬ PS = o := fun z => by have := g.1; have := g28.1; rw [z] at *; omega
  have n29 : ¬ PU = o := fun z => by have := g.1; have := g29.1; rw [z] at *; omega
  have ei : ∀ k, Int32.ofNat k + 1 = Int32.ofNat (k + 1) := fun k => nn_add (a := k) (b := 1)
  have e3 : ∀ k, (2 : Int32) * Int32.ofNat k = Int32.ofNat (2 * k) := fun k => nn_mul (a := 2) (b := k)
  have uc : (Int32.ofNat s).toNatClampNeg = s := nn_clamp (by omega)
  unfold g_sd
  by_cases c : 0 < mh_i h PS i
  all_goals simp (disch := omega) only [s_245_0, s_245_1, s_245_4, s_245_5, s_245_6, s_245_9, s_245_10, s_245_11, s_245_14, s_245_15, s_245_16, s_245_17, s_245_20, s_245_21, s_245_22, s_245_25, s_245_26, s_245_27, s_245_28, s_245_29, s_245_30, e_245, mv_i_1, mv_l_1, mv_a_1, mv_a_2, mv_a_3, mk2_n, mk2_i, mk2_l, mk2_a, mk2_u, mk2_x, mB_T, mB_F, mS_cons, mS_nil, mSB_T, mSB_F, mca_nil, mca_i, mca_l, mca_r, mca_u, mca_x, mcat_i, mcat_l, mcat_r, mcat_u, mcat_x, mK_some, mK_none, va_rf_s, va_rf_n, lgc_eq, lgc_lt, lgc_gt, lgc_ge, lgc_le, mrd_104, mrd_105, mrd_106, mrd_107, true_and, and_true, and_self, false_and, and_false, true_or, or_true, false_or, or_false, not_true_eq_false, not_false_eq_true, mgb, mga, mgr, mN, reduceCtorEq, ↓reduceIte, eq_self, ge_iff_le, gt_iff_lt, Nat.reduceAdd, Nat.reduceMul, Nat.reduceSub, Nat.reduceLT, Nat.reduceGT, Nat.reduceEqDiff, Nat.reduceLeDiff, Nat.left_eq_add, Nat.add_eq_left, Nat.reduceMod, Nat.reduceDiv, Nat.succ_ne_self, aS_g, aS_i, aS_r, aS_l, g, r28, r29, g28, g29, l28, l29, n28, n29, nn_mxT, nn_clamp, u, uc, e3, ei, le_nlt32, mB_not, c]
end GA
