set_option maxRecDepth 100000
/-- what stands where the reference looks: its rows of nodes, of names, and what is known now -/
abbrev AH (h : mh_H) (o K V Z M S N T : Nat) (A : ab) (sN : Int → Prop) (en : Int → Nat) : Prop := (mg h o 12) ∧ (mh_r h o 0 = some K) ∧ (mh_r h o 1 = some V) ∧ (mh_r h o 2 = some Z) ∧ (mh_r h o 15 = some M) ∧ (mh_r h o 16 = some S) ∧ (mh_r h o 23 = some N) ∧ (mg h K 102) ∧ (mg h V 100) ∧ (mg h Z 100) ∧ (mg h M 100) ∧ (mg h S 100) ∧ (mh_l h K = 26000) ∧ (mh_l h V = 26000) ∧ (mh_l h Z = 26000) ∧ (mh_l h M = 64) ∧ (mh_l h S = 64) ∧ (mh_i h o 18 = Int32.ofNat T) ∧ (T ≤ 64) ∧ (∀ v, sN v → ∃ i, i < T ∧ (mh_i h M i).toInt = v ∧ (∀ j, i < j → j < T → (mh_i h M j).toInt ≠ v) ∧ mh_i h S i = Int32.ofNat (en v)) ∧ (RK h N (some A)) ∧ (ab_T A)
theorem AH.g {h : mh_H} {o K V Z M S N T : Nat} {A : ab} {sN : Int → Prop} {en : Int → Nat} (q : AH h o K V Z M S N T A sN en) : mg h o 12 := q.1
theorem AH.r0 {h : mh_H} {o K V Z M S N T : Nat} {A : ab} {sN : Int → Prop} {en : Int → Nat} (q : AH h o K V Z M S N T A sN en) : mh_r h o 0 = some K := q.2.1
theorem AH.r1 {h : mh_H} {o K V Z M S N T : Nat} {A : ab} {sN : Int → Prop} {en : Int → Nat} (q : AH h o K V Z M S N T A sN en) : mh_r h o 1 = some V := q.2.2.1
theorem AH.r2 {h : mh_H} {o K V Z M S N T : Nat} {A : ab} {sN : Int → Prop} {en : Int → Nat} (q : AH h o K V Z M S N T A sN en) : mh_r h o 2 = some Z := q.2.2.2.1
theorem AH.r15 {h : mh_H} {o K V Z M S N T : Nat} {A : ab} {sN : Int → Prop} {en : Int → Nat} (q : AH h o K V Z M S N T A sN en) : mh_r h o 15 = some M := q.2.2.2.2.1
theorem AH.r16 {h : mh_H} {o K V Z M S N T : Nat} {A : ab} {sN : Int → Prop} {en : Int → Nat} (q : AH h o K V Z M S N T A sN en) : mh_r h o 16 = some S := q.2.2.2.2.2.1
theorem AH.r23 {h : mh_H} {o K V Z M S N T : Nat} {A : ab} {sN : Int → Prop} {en : Int → Nat} (q : AH h o K V Z M S N T A sN en) : mh_r h o 23 = some N := q.2.2.2.2.2.2.1
theorem AH.gK {h : mh_H} {o K V Z M S N T : Nat} {A : ab} {sN : Int → Prop} {en : Int → Nat} (q : AH h o K V Z M S N T A sN en) : mg h K 102 := q.2.2.2.2.2.2.2.1
theorem AH.gV {h : mh_H} {o K V Z M S N T : Nat} {A : ab} {sN : Int → Prop} {en : Int → Nat} (q : AH h o K V Z M S N T A sN en) : mg h V 100 := q.2.2.2.2.2.2.2.2.1
theorem AH.gZ {h : mh_H} {o K V Z M S N T : Nat} {A : ab} {sN : Int → Prop} {en : Int → Nat} (q : AH h o K V Z M S N T A sN en) : mg h Z 100 := q.2.2.2.2.2.2.2.2.2.1
theorem AH.gM {h : mh_H} {o K V Z M S N T : Nat} {A : ab} {sN : Int → Prop} {en : Int → Nat} (q : AH h o K V Z M S N T A sN en) : mg h M 100 := q.2.2.2.2.2.2.2.2.2.2.1
theorem AH.gS {h : mh_H} {o K V Z M S N T : Nat} {A : ab} {sN : Int → Prop} {en : Int → Nat} (q : AH h o K V Z M S N T A sN en) : mg h S 100 := q.2.2.2.2.2.2.2.2.2.2.2.1
theorem AH.lK {h : mh_H} {o K V Z M S N T : Nat} {A : ab} {sN : Int → Prop} {en : Int → Nat} (q : AH h o K V Z M S N T A sN en) : mh_l h K = 26000 := q.2.2.2.2.2.2.2.2.2.2.2.2.1
theorem AH.lV {h : mh_H} {o K V Z M S N T : Nat} {A : ab} {sN : Int → Prop} {en : Int → Nat} (q : AH h o K V Z M S N T A sN en) : mh_l h V = 26000 := q.2.2.2.2.2.2.2.2.2.2.2.2.2.1
theorem AH.lZ {h : mh_H} {o K V Z M S N T : Nat} {A : ab} {sN : Int → Prop} {en : Int → Nat} (q : AH h o K V Z M S N T A sN en) : mh_l h Z = 26000 := q.2.2.2.2.2.2.2.2.2.2.2.2.2.2.1
theorem AH.lM {h : mh_H} {o K V Z M S N T : Nat} {A : ab} {sN : Int → Prop} {en : Int → Nat} (q : AH h o K V Z M S N T A sN en) : mh_l h M = 64 := q.2.2.2.2.2.2.2.2.2.2.2.2.2.2.2.1
theorem AH.lS {h : mh_H} {o K V Z M S N T : Nat} {A : ab} {sN : Int → Prop} {en : Int → Nat} (q : AH h o K V Z M S N T A sN en) : mh_l h S = 64 := q.2.2.2.2.2.2.2.2.2.2.2.2.2.2.2.2.1
theorem AH.t {h : mh_H} {o K V Z M S N T : Nat} {A : ab} {sN : Int → Prop} {en : Int → Nat} (q : AH h o K V Z M S N T A sN en) : mh_i h o 18 = Int32.ofNat T := q.2.2.2.2.2.2.2.2.2.2.2.2.2.2.2.2.2.1
theorem AH.t64 {h : mh_H} {o K V Z M S N T : Nat} {A : ab} {sN : Int → Prop} {en : Int → Nat} (q : AH h o K V Z M S N T A sN en) : T ≤ 64 := q.2.2.2.2.2.2.2.2.2.2.2.2.2.2.2.2.2.2.1
theorem AH.e {h : mh_H} {o K V Z M S N T : Nat} {A : ab} {sN : Int → Prop} {en : Int → Nat} (q : AH h o K V Z M S N T A sN en) : ∀ v, sN v → ∃ i, i < T ∧ (mh_i h M i).toInt = v ∧ (∀ j, i < j → j < T → (mh_i h M j).toInt ≠ v) ∧ mh_i h S i = Int32.ofNat (en v) := q.2.2.2.2.2.2.2.2.2.2.2.2.2.2.2.2.2.2.2.1
theorem AH.k {h : mh_H} {o K V Z M S N T : Nat} {A : ab} {sN : Int → Prop} {en : Int → Nat} (q : AH h o K V Z M S N T A sN en) : RK h N (some A) := q.2.2.2.2.2.2.2.2.2.2.2.2.2.2.2.2.2.2.2.2.1
theorem AH.T {h : mh_H} {o K V Z M S N T : Nat} {A : ab} {sN : Int → Prop} {en : Int → Nat} (q : AH h o K V Z M S N T A sN en) : ab_T A := q.2.2.2.2.2.2.2.2.2.2.2.2.2.2.2.2.2.2.2.2.2
section AHS
variable {d : Nat} {h : mh_H} {o K V Z M S N T : Nat} {A : ab} {sN : Int → Prop} {en : Int → Nat} {al : Int32} {lo hi : Int64}
theorem AH_aS (a : AH h o K V Z M S N T A sN en) : AH (aS h o al lo hi) o K V Z M S N T A sN en := by
  have ne : ∀ x, mg h x 100 → ¬ x = o := fun x hx z => by have := hx.1; have := a.g.1; rw [z] at *; omega
  have nM := ne M a.gM
  have nS := ne S a.gS
  refine ⟨a.g, a.r0, a.r1, a.r2, a.r15, a.r16, a.r23, a.gK, a.gV, a.gZ, a.gM, a.gS, a.lK, a.lV, a.lZ, a.lM, a.lS, ?_, a.t64, fun v hv => ?_, RK_aS a.g a.k, a.T⟩
  · rw [aS_i, if_neg (by omega)]; exact a.t
  · obtain ⟨i, h1, h2, h3, h4⟩ := a.e v hv
    refine ⟨i, h1, ?_, fun j hj hj2 => ?_, ?_⟩
    · rw [aS_i, if_neg (fun z => nM z.1)]; exact h2
    · rw [aS_i, if_neg (fun z => nM z.1)]; exact h3 j hj hj2
    · rw [aS_i, if_neg (fun z => nS z.1)]; exact h4
/-- the node's NAME means a slot -/
theorem c_229 {Q : Option Value → mh_H → Prop} {k : Nat} {v : Int} (a : AH h o K V Z M S N T A sN en) (hk : k < 26000) (hv : (mh_i h V k).toInt = v) (hs : sN v) : mcall d 229 [.ref o, .int (Int32.ofNat k)] (aS h o al lo hi) Q = Q (some (.int (Int32.ofNat (en v)))) (aS h o al lo hi) := by
  obtain ⟨i, h1, h2, h3, h4⟩ := a.e v hs
  have t64 := a.t64
  have ne : ∀ x, mg h x 100 → ¬ x = o := fun x hx z => by have := hx.1; have := a.g.1; rw [z] at *; omega
  have nM := ne M a.gM
  have nS := ne S a.gS
  have nV := ne V a.gV
  have g := a.g
  have r1 := a.r1
  have r15 := a.r15
  have r16 := a.r16
  have gV := a.gV
  have gM := a.gM
  have gS := a.gS
  have lV := a.lV
  have lM := a.lM
  have lS := a.lS
  have ht := a.t
  have es : ∀ j, 1 ≤ j → Int32.ofNat j - 1 = Int32.ofNat (j - 1) := fun j hj => nn_sub (a := j) (b := 1) hj
  have ep : ∀ j, 1 ≤ j → Int32.ofNat j + -1 = Int32.ofNat (j - 1) := fun j hj => by rw [← es j hj, Int32.sub_eq_add_neg]
  have f1 : ¬ (o = o ∧ 18 = 24) := by omega
  have L := mw_loop (d := d) (y := 229) (pc := 7) (Q := Q) (st := []) (fun q => [some (.ref o), some (.int (Int32.ofNat k)), some (.int (Int32.ofNat (T - 1 - q)))]) (fun _ => aS h o al lo hi) (a := 0) (b := T - 1 - i) (Nat.zero_le _) (fun q _ hq => by
    have ne2 : ¬ mh_i h M (T - 1 - q) = mh_i h V k := fun z => h3 (T - 1 - q) (by omega) (by omega) (by rw [z]; exact hv)
    have e1 : T - 1 - q - 1 = T - 1 - (q + 1) := by omega
    rw [s_229_7]
    simp (disch := omega) only [s_229_0, s_229_1, s_229_4, s_229_5, s_229_6, s_229_8, s_229_11, s_229_12, s_229_13, s_229_14, s_229_17, s_229_18, s_229_19, s_229_22, s_229_25, s_229_28, s_229_29, s_229_32, s_229_33, s_229_34, e_229, mv_i_1, mv_l_1, mv_a_1, mv_a_2, mv_a_3, mk2_n, mk2_i, mk2_l, mk2_a, mk2_u, mk2_x, mB_T, mB_F, mS_cons, mS_nil, mSB_T, mSB_F, mca_nil, mca_i, mca_l, mca_r, mca_u, mca_x, mcat_i, mcat_l, mcat_r, mcat_u, mcat_x, mK_some, mK_none, va_rf_s, va_rf_n, lgc_eq, lgc_lt, lgc_gt, lgc_ge, lgc_le, mrd_104, mrd_105, mrd_106, mrd_107, true_and, and_true, and_self, false_and, and_false, true_or, or_true, false_or, or_false, not_true_eq_false, not_false_eq_true, mgb, mga, mgr, mN, reduceCtorEq, ↓reduceIte, eq_self, ge_iff_le, gt_iff_lt, Nat.reduceAdd, Nat.reduceMul, Nat.reduceSub, Nat.reduceLT, Nat.reduceGT, Nat.reduceEqDiff, Nat.reduceLeDiff, Nat.left_eq_add, Nat.add_eq_left, Nat.reduceMod, Nat.reduceDiv, Nat.succ_ne_self, aS_g, aS_i, aS_r, aS_l, g, r1, r15, gV, gM, lV, lM, nM, nV, nn_mxT, nn_clamp, ne2, ep, e1])
  have e0 : T - 1 - 0 = T - 1 := by omega
  have e9 : T - 1 - (T - 1 - i) = i := by omega
  rw [e0, e9] at L
  have eq : mh_i h M i = mh_i h V k := Int32.toInt_inj.mp (by rw [h2, hv])
  have E0 : mcall d 229 [.ref o, .int (Int32.ofNat k)] (aS h o al lo hi) Q = mw d 229 Q 7 [some (.ref o), some (.int (Int32.ofNat k)), some (.int (Int32.ofNat (T - 1)))] [] (aS h o al lo hi) := by
    simp (disch := omega) only [s_229_0, s_229_1, s_229_4, s_229_5, s_229_6, s_229_8, s_229_11, s_229_12, s_229_13, s_229_14, s_229_17, s_229_18, s_229_19, s_229_22, s_229_25, s_229_28, s_229_29, s_229_32, s_229_33, s_229_34, e_229, mv_i_1, mv_l_1, mv_a_1, mv_a_2, mv_a_3, mk2_n, mk2_i, mk2_l, mk2_a, mk2_u, mk2_x, mB_T, mB_F, mS_cons, mS_nil, mSB_T, mSB_F, mca_nil, mca_i, mca_l, mca_r, mca_u, mca_x, mcat_i, mcat_l, mcat_r, mcat_u, mcat_x, mK_some, mK_none, va_rf_s, va_rf_n, lgc_eq, lgc_lt, lgc_gt, lgc_ge, lgc_le, mrd_104, mrd_105, mrd_106, mrd_107, true_and, and_true, and_self, false_and, and_false, true_or, or_true, false_or, or_false, not_true_eq_false, not_false_eq_true, mgb, mga, mgr, mN, reduceCtorEq, ↓reduceIte, eq_self, ge_iff_le, gt_iff_lt, Nat.reduceAdd, Nat.reduceMul, Nat.reduceSub, Nat.reduceLT, Nat.reduceGT, Nat.reduceEqDiff, Nat.reduceLeDiff, Nat.left_eq_add, Nat.add_eq_left, Nat.reduceMod, Nat.reduceDiv, Nat.succ_ne_self, aS_g, aS_i, g, ht, es]
  refine E0.trans (L.trans ?_)
  rw [s_229_7]
  simp (disch := omega) only [s_229_0, s_229_1, s_229_4, s_229_5, s_229_6, s_229_8, s_229_11, s_229_12, s_229_13, s_229_14, s_229_17, s_229_18, s_229_19, s_229_22, s_229_25, s_229_28, s_229_29, s_229_32, s_229_33, s_229_34, e_229, mv_i_1, mv_l_1, mv_a_1, mv_a_2, mv_a_3, mk2_n, mk2_i, mk2_l, mk2_a, mk2_u, mk2_x, mB_T, mB_F, mS_cons, mS_nil, mSB_T, mSB_F, mca_nil, mca_i, mca_l, mca_r, mca_u, mca_x, mcat_i, mcat_l, mcat_r, mcat_u, mcat_x, mK_some, mK_none, va_rf_s, va_rf_n, lgc_eq, lgc_lt, lgc_gt, lgc_ge, lgc_le, mrd_104, mrd_105, mrd_106, mrd_107, true_and, and_true, and_self, false_and, and_false, true_or, or_true, false_or, or_false, not_true_eq_false, not_false_eq_true, mgb, mga, mgr, mN, reduceCtorEq, ↓reduceIte, eq_self, ge_iff_le, gt_iff_lt, Nat.reduceAdd, Nat.reduceMul, Nat.reduceSub, Nat.reduceLT, Nat.reduceGT, Nat.reduceEqDiff, Nat.reduceLeDiff, Nat.left_eq_add, Nat.add_eq_left, Nat.reduceMod, Nat.reduceDiv, Nat.succ_ne_self, aS_g, aS_i, aS_r, aS_l, g, r1, r15, r16, gV, gM, gS, lV, lM, lS, nM, nV, nS, nn_mxT, nn_clamp, eq, h4]
theorem c_228 {Q : Option Value → mh_H → Prop} {k z : Nat} (a : AH h o K V Z M S N T A sN en) (hk : k < 26000) (hz : mh_i h Z k = Int32.ofNat z) : mcall d 228 [.ref o, .int (Int32.ofNat k)] (aS h o al lo hi) Q = Q (some (.int (Int32.ofNat (k + z)))) (aS h o al lo hi) := by
  have ne : ∀ x, mg h x 100 → ¬ x = o := fun x hx z => by have := hx.1; have := a.g.1; rw [z] at *; omega
  have nZ := ne Z a.gZ
  have g := a.g
  have r2 := a.r2
  have gZ := a.gZ
  have lZ := a.lZ
  simp (disch := omega) only [s_228_0, s_228_1, s_228_2, s_228_5, s_228_6, s_228_7, s_228_8, e_228, mv_i_1, mv_l_1, mv_a_1, mv_a_2, mv_a_3, mk2_n, mk2_i, mk2_l, mk2_a, mk2_u, mk2_x, mB_T, mB_F, mS_cons, mS_nil, mSB_T, mSB_F, mca_nil, mca_i, mca_l, mca_r, mca_u, mca_x, mcat_i, mcat_l, mcat_r, mcat_u, mcat_x, mK_some, mK_none, va_rf_s, va_rf_n, lgc_eq, lgc_lt, lgc_gt, lgc_ge, lgc_le, mrd_104, mrd_105, mrd_106, mrd_107, true_and, and_true, and_self, false_and, and_false, true_or, or_true, false_or, or_false, not_true_eq_false, not_false_eq_true, mgb, mga, mgr, mN, reduceCtorEq, ↓reduceIte, eq_self, ge_iff_le, gt_iff_lt, Nat.reduceAdd, Nat.reduceMul, Nat.reduceSub, Nat.reduceLT, Nat.reduceGT, Nat.reduceEqDiff, Nat.reduceLeDiff, Nat.left_eq_add, Nat.add_eq_left, Nat.reduceMod, Nat.reduceDiv, Nat.succ_ne_self, aS_g, aS_i, aS_r, aS_l, g, r2, gZ, lZ, nZ, nn_mxT, nn_clamp, nn_add, hz]
end AHS
/-- a SUM that is in order: mode false its first node, true the operators that follow -/
def wS (sN : Int → Prop) (en : Int → Nat) (A : ab) : tr → Bool → Prop
  | .leaf _, false => False
  | .leaf _, true => True
  | .branch n cs _, false =>
    if tK n = 12 then iI (tV n)
    else if tK n = 13 then sN (tV n) ∧ en (tV n) < A.n
    else if tK n = 14 then (match cs with
      | .leaf _ => False
      | .branch m cs' r' => ts cs' = 0 ∧ sN (tV m) ∧ en (tV m) < A.a ∧ 1 ≤ A.rm (en (tV m)) ∧ A.rm (en (tV m)) ≤ 64 ∧ wS sN en A r' false)
    else if tK n = 15 then wS sN en A cs false
    else if tK n = 16 then (match cs with
      | .leaf _ => True
      | .branch l c1 (.branch g _ _) => ts c1 = 0 ∧ iI (tV l) ∧ iI (tV g) ∧ tV l ≤ tV g
      | .branch _ _ (.leaf _) => False)
    else (match cs with
      | .leaf _ => False
      | .branch m cs' r' => wS sN en A (.branch m cs' r') false ∧ wS sN en A r' true)
  | .branch n cs r, true => (tK n = 18 ∨ tK n = 19 ∨ tK n = 21 ∨ tK n = 22 ∨ tK n = 23) ∧ wS sN en A cs false ∧ wS sN en A r true
