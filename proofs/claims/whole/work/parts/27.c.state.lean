set_option maxRecDepth 100000
theorem J_comm {h : mh_H} {a b : Nat} {f g : Nat → Int64} (e : ¬ a = b) : mh_J (mh_J h a f) b g = mh_J (mh_J h b g) a f := by
  have : (fun c j => if c = b then g j else (if c = a then f j else mh_j h c j)) = fun c j => if c = a then f j else (if c = b then g j else mh_j h c j) := by
    funext c j
    by_cases c1 : c = a
    · subst c1; rw [if_neg e, if_pos rfl, if_pos rfl]
    · rw [if_neg c1, if_neg c1]
  show (_, _, _, (fun c j => if c = b then g j else (if c = a then f j else mh_j h c j)), _) = _
  rw [this]; rfl
/-- the flag, the bounds and the rows, while a State is tightened -/
abbrev tg_S : Type := Int32 × (Nat → Int64) × (Nat → Int64)
def tg_b (L : Int32) (s : Nat) : Bool := decide ((L >>> (Int32.ofNat s &&& 31)) &&& 1 = 1)
def tg_1 (L : Int32) (n s : Nat) (x : tg_S) : tg_S := if x.1 = 0 then (if tg_b L s then (if x.2.1 (sc (2 * s) (2 * s + 1)) + x.2.1 (sc (2 * s + 1) (2 * s)) < 0 then (1, x.2) else (gt_z x.2.1 s (2 * n), gt_M x.2.1 s (sc_n n), gt_R x.2.1 x.2.2 s (2 * n))) else x) else x
def tg (L : Int32) (n : Nat) : Nat → tg_S → tg_S
  | 0, x => x
  | k + 1, x => tg_1 L n k (tg L n k x)
def tg_2 (L : Int32) (n : Nat) (x : tg_S) : tg_S := if L = 0 then x else if x.1 = 0 then (rd_z (rd_M x.2.1 (2 * n)) n, rd_M x.2.1 (2 * n), x.2.2) else x
def tg_3 (L : Int32) (n : Nat) (x : tg_S) : tg_S := if L = 0 then x else if x.1 = 0 then (x.1, au_M x.2.1 (sc_n n), au_R x.2.1 x.2.2 (2 * n)) else x
def tg_H (h : mh_H) (o R : Nat) (x : tg_S) : mh_H := mh_si (mh_J (mh_J h R x.2.2) (o + 1) x.2.1) o 0 x.1
theorem tg_stop {L : Int32} {n : Nat} {x : tg_S} {k : Nat} (hz : ¬ (tg L n k x).1 = 0) : ∀ m, tg L n (k + m) x = tg L n k x := by
  intro m
  induction m with
  | zero => rfl
  | succ m ih =>
    show tg_1 L n (k + m) (tg L n (k + m) x) = _
    rw [ih]; unfold tg_1; rw [if_neg hz]
/-- what holds of the heap, whatever stands in the rows -/
theorem tg_so {h : mh_H} {o R : Nat} (hs : so h o) (x : tg_S) : so (tg_H h o R x) o := hs
section TG
variable {d : Nat} {Q : Option Value → mh_H → Prop} {h : mh_H} {o R n : Nat} {L : Int32}
theorem tg_get {x : tg_S} (hR1 : ¬ R = o + 1) : mh_j (tg_H h o R x) (o + 1) = x.2.1 ∧ mh_j (tg_H h o R x) R = x.2.2 ∧ mh_i (tg_H h o R x) o 0 = x.1 := by
  refine ⟨?_, ?_, ?_⟩
  · funext q; unfold tg_H; rw [hj_si, hj_J, if_pos rfl]
  · funext q; unfold tg_H; rw [hj_si, hj_J, if_neg hR1, hj_J, if_pos rfl]
  · unfold tg_H; rw [hi_si, if_pos ⟨rfl, rfl⟩]
theorem tg_put {x : tg_S} {z : Int32} {g r : Nat → Int64} (hR1 : ¬ R = o + 1) : mh_si (mh_J (mh_J (tg_H h o R x) R r) (o + 1) g) o 0 z = tg_H h o R (z, g, r) := by
  unfold tg_H
  rw [J_si2, J_si2, si_si, J_comm (fun q => hR1 q.symm), J_J, J_J]
theorem tg_loop (hs : so h o) (hn : mh_i h o 1 = Int32.ofNat n) (hn2 : n ≤ 12) (hL : mh_i h o 5 = L) (hR : mg h R 101) (hRl : mh_l h R = 48) (hR1 : ¬ R = o + 1) (x : tg_S) : ∀ m k, k + m = n → ∃ y, mw (d + 2) 159 Q 2 [some (.ref o), some (.ref R), some (.int (Int32.ofNat k))] [] (tg_H h o R (tg L n k x)) = mw (d + 2) 159 Q 41 [some (.ref o), some (.ref R), y] [] (tg_H h o R (tg L n n x)) := by
  intro m
  have s1 := hs.1
  have ei : ∀ k, Int32.ofNat k + 1 = Int32.ofNat (k + 1) := fun k => nn_add (a := k) (b := 1)
  have n1 : ¬ (o = o ∧ 1 = 0) := by omega
  have n5 : ¬ (o = o ∧ 5 = 0) := by omega
  have hi1 : ∀ x : tg_S, mh_i (tg_H h o R x) o 1 = Int32.ofNat n := fun x => by unfold tg_H; rw [hi_si, if_neg n1]; exact hn
  have hi5 : ∀ x : tg_S, mh_i (tg_H h o R x) o 5 = L := fun x => by unfold tg_H; rw [hi_si, if_neg n5]; exact hL
  have hg : ∀ x : tg_S, mg (tg_H h o R x) o 8 := fun x => s1
  induction m with
  | zero =>
    intro k hk
    have hk : k = n := by omega
    subst hk
    have hle : (k ≤ k) = True := eq_true (Nat.le_refl _)
    refine ⟨some (.int (Int32.ofNat k)), ?_⟩
    rw [s_159_2]
    simp (disch := omega) only [s_159_0, s_159_1, s_159_3, s_159_4, s_159_7, s_159_10, s_159_11, s_159_14, s_159_17, s_159_18, s_159_21, s_159_22, s_159_23, s_159_24, s_159_25, s_159_26, s_159_29, s_159_30, s_159_31, s_159_32, s_159_35, s_159_38, s_159_42, s_159_45, s_159_48, s_159_49, s_159_52, s_159_55, s_159_56, s_159_59, s_159_60, s_159_63, s_159_66, s_159_67, s_159_70, s_159_73, s_159_74, s_159_75, s_159_78, s_159_79, s_159_80, s_159_83, e_159, mv_i_1, mv_l_1, mv_a_1, mv_a_2, mv_a_3, mk2_n, mk2_i, mk2_l, mk2_a, mk2_u, mk2_x, mB_T, mB_F, mS_cons, mS_nil, mSB_T, mSB_F, mca_nil, mca_i, mca_l, mca_r, mca_u, mca_x, mcat_i, mcat_l, mcat_r, mcat_u, mcat_x, mK_some, mK_none, va_rf_s, va_rf_n, lgc_eq, lgc_lt, lgc_gt, lgc_ge, lgc_le, mrd_104, mrd_105, mrd_106, mrd_107, true_and, and_true, and_self, false_and, and_false, true_or, or_true, false_or, or_false, not_true_eq_false, not_false_eq_true, mgb, mga, mgr, mN, reduceCtorEq, ↓reduceIte, eq_self, ge_iff_le, gt_iff_lt, hg, hi1, nn_le, hle]
  | succ m ih =>
    intro k hk
    have hk2 : ¬ n ≤ k := by omega
    obtain ⟨q1, q2, q3⟩ := tg_get (h := h) (x := tg L n k x) hR1
    by_cases c : (tg L n k x).1 = 0
    · obtain ⟨y, e⟩ := ih (k + 1) (by omega)
      refine ⟨y, Eq.trans ?_ e⟩
      by_cases b : tg_b L k = true
      · have b' : (L >>> (Int32.ofNat k &&& 31)) &&& 1 = 1 := of_decide_eq_true b
        have cc := fun (Q' : Option Value → mh_H → Prop) => c_160 (d := d) (Q := Q') (h := tg_H h o R (tg L n k x)) (o := o) (R := R) (n := n) (s := k) (tg_so hs _) (hi1 _) hn2 (by omega) hR hRl hR1 (q3.trans c)
        have e1 : tg L n (k + 1) x = if (tg L n k x).2.1 (sc (2 * k) (2 * k + 1)) + (tg L n k x).2.1 (sc (2 * k + 1) (2 * k)) < 0 then (1, (tg L n k x).2) else (gt_z (tg L n k x).2.1 k (2 * n), gt_M (tg L n k x).2.1 k (sc_n n), gt_R (tg L n k x).2.1 (tg L n k x).2.2 k (2 * n)) := by
          show tg_1 L n k (tg L n k x) = _
          unfold tg_1; rw [if_pos c, if_pos b]
        rw [s_159_2]
        simp (disch := omega) only [s_159_0, s_159_1, s_159_3, s_159_4, s_159_7, s_159_10, s_159_11, s_159_14, s_159_17, s_159_18, s_159_21, s_159_22, s_159_23, s_159_24, s_159_25, s_159_26, s_159_29, s_159_30, s_159_31, s_159_32, s_159_35, s_159_38, s_159_41, s_159_42, s_159_45, s_159_48, s_159_49, s_159_52, s_159_55, s_159_56, s_159_59, s_159_60, s_159_63, s_159_66, s_159_67, s_159_70, s_159_73, s_159_74, s_159_75, s_159_78, s_159_79, s_159_80, s_159_83, e_159, mv_i_1, mv_l_1, mv_a_1, mv_a_2, mv_a_3, mk2_n, mk2_i, mk2_l, mk2_a, mk2_u, mk2_x, mB_T, mB_F, mS_cons, mS_nil, mSB_T, mSB_F, mca_nil, mca_i, mca_l, mca_r, mca_u, mca_x, mcat_i, mcat_l, mcat_r, mcat_u, mcat_x, mK_some, mK_none, va_rf_s, va_rf_n, lgc_eq, lgc_lt, lgc_gt, lgc_ge, lgc_le, mrd_104, mrd_105, mrd_106, mrd_107, true_and, and_true, and_self, false_and, and_false, true_or, or_true, false_or, or_false, not_true_eq_false, not_false_eq_true, mgb, mga, mgr, mN, reduceCtorEq, ↓reduceIte, eq_self, ge_iff_le, gt_iff_lt, hg, hi1, hi5, q3, c, b', nn_le, hk2, cc, ei]
        rw [q1, q2, e1]
        congr 1
        by_cases ng : (tg L n k x).2.1 (sc (2 * k) (2 * k + 1)) + (tg L n k x).2.1 (sc (2 * k + 1) (2 * k)) < 0
        · rw [if_pos ng, if_pos ng]
          unfold tg_H; rw [si_si]
        · rw [if_neg ng, if_neg ng, tg_put hR1]
      · have b' : ¬ ((L >>> (Int32.ofNat k &&& 31)) &&& 1 = 1) := fun z => b (decide_eq_true z)
        have e1 : tg L n (k + 1) x = tg L n k x := by
          show tg_1 L n k (tg L n k x) = _
          unfold tg_1; rw [if_pos c, if_neg b]
        rw [s_159_2, e1]
        simp (disch := omega) only [s_159_0, s_159_1, s_159_3, s_159_4, s_159_7, s_159_10, s_159_11, s_159_14, s_159_17, s_159_18, s_159_21, s_159_22, s_159_23, s_159_24, s_159_25, s_159_26, s_159_29, s_159_30, s_159_31, s_159_32, s_159_35, s_159_38, s_159_41, s_159_42, s_159_45, s_159_48, s_159_49, s_159_52, s_159_55, s_159_56, s_159_59, s_159_60, s_159_63, s_159_66, s_159_67, s_159_70, s_159_73, s_159_74, s_159_75, s_159_78, s_159_79, s_159_80, s_159_83, e_159, mv_i_1, mv_l_1, mv_a_1, mv_a_2, mv_a_3, mk2_n, mk2_i, mk2_l, mk2_a, mk2_u, mk2_x, mB_T, mB_F, mS_cons, mS_nil, mSB_T, mSB_F, mca_nil, mca_i, mca_l, mca_r, mca_u, mca_x, mcat_i, mcat_l, mcat_r, mcat_u, mcat_x, mK_some, mK_none, va_rf_s, va_rf_n, lgc_eq, lgc_lt, lgc_gt, lgc_ge, lgc_le, mrd_104, mrd_105, mrd_106, mrd_107, true_and, and_true, and_self, false_and, and_false, true_or, or_true, false_or, or_false, not_true_eq_false, not_false_eq_true, mgb, mga, mgr, mN, reduceCtorEq, ↓reduceIte, eq_self, ge_iff_le, gt_iff_lt, hg, hi1, hi5, q3, c, b', nn_le, hk2, ei]
    · have e1 : tg L n n x = tg L n k x := by
        have z := tg_stop (n := n) (x := x) c (m + 1)
        rw [hk] at z; exact z
      refine ⟨some (.int (Int32.ofNat k)), ?_⟩
      rw [s_159_2, e1]
      simp (disch := omega) only [s_159_0, s_159_1, s_159_3, s_159_4, s_159_7, s_159_10, s_159_11, s_159_14, s_159_17, s_159_18, s_159_21, s_159_22, s_159_23, s_159_24, s_159_25, s_159_26, s_159_29, s_159_30, s_159_31, s_159_32, s_159_35, s_159_38, s_159_42, s_159_45, s_159_48, s_159_49, s_159_52, s_159_55, s_159_56, s_159_59, s_159_60, s_159_63, s_159_66, s_159_67, s_159_70, s_159_73, s_159_74, s_159_75, s_159_78, s_159_79, s_159_80, s_159_83, e_159, mv_i_1, mv_l_1, mv_a_1, mv_a_2, mv_a_3, mk2_n, mk2_i, mk2_l, mk2_a, mk2_u, mk2_x, mB_T, mB_F, mS_cons, mS_nil, mSB_T, mSB_F, mca_nil, mca_i, mca_l, mca_r, mca_u, mca_x, mcat_i, mcat_l, mcat_r, mcat_u, mcat_x, mK_some, mK_none, va_rf_s, va_rf_n, lgc_eq, lgc_lt, lgc_gt, lgc_ge, lgc_le, mrd_104, mrd_105, mrd_106, mrd_107, true_and, and_true, and_self, false_and, and_false, true_or, or_true, false_or, or_false, not_true_eq_false, not_false_eq_true, mgb, mga, mgr, mN, reduceCtorEq, ↓reduceIte, eq_self, ge_iff_le, gt_iff_lt, hg, hi1, q3, c, nn_le, hk2]
/-- State.tighten -/
theorem c_159 (hs : so h o) (hn : mh_i h o 1 = Int32.ofNat n) (hn2 : n ≤ 12) (hL : mh_i h o 5 = L) (hR : mg h R 101) (hRl : mh_l h R = 48) (hR1 : ¬ R = o + 1) (hz : mh_i h o 0 = 0 ∨ mh_i h o 0 = 1) : mcall (d + 2) 159 [.ref o, .ref R] h Q = Q none (mh_si (tg_H h o R (tg_3 L n (tg_2 L n (tg L n n (mh_i h o 0, mh_j h (o + 1), mh_j h R))))) o 5 0) := by
  have s1 := hs.1
  have n1 : ¬ (o = o ∧ 1 = 0) := by omega
  have n5 : ¬ (o = o ∧ 5 = 0) := by omega
  have hi1 : ∀ x : tg_S, mh_i (tg_H h o R x) o 1 = Int32.ofNat n := fun x => by unfold tg_H; rw [hi_si, if_neg n1]; exact hn
  have hi5 : ∀ x : tg_S, mh_i (tg_H h o R x) o 5 = L := fun x => by unfold tg_H; rw [hi_si, if_neg n5]; exact hL
  have hg : ∀ x : tg_S, mg (tg_H h o R x) o 8 := fun x => s1
  have i0 : tg_H h o R (tg L n 0 (mh_i h o 0, mh_j h (o + 1), mh_j h R)) = h := by
    show mh_si (mh_J (mh_J h R (mh_j h R)) (o + 1) (mh_j h (o + 1))) o 0 (mh_i h o 0) = h
    rw [J_id, J_id, si_id]
  obtain ⟨y, e⟩ := tg_loop (d := d) (Q := Q) hs hn hn2 hL hR hRl hR1 (mh_i h o 0, mh_j h (o + 1), mh_j h R) n 0 (by omega)
  rw [i0] at e
  generalize tg L n n (mh_i h o 0, mh_j h (o + 1), mh_j h R) = x at e ⊢
  simp only [s_159_0, s_159_1, s_159_3, s_159_4, s_159_7, s_159_10, s_159_11, s_159_14, s_159_17, s_159_18, s_159_21, s_159_22, s_159_23, s_159_24, s_159_25, s_159_26, s_159_29, s_159_30, s_159_31, s_159_32, s_159_35, s_159_38, s_159_41, s_159_42, s_159_45, s_159_48, s_159_49, s_159_52, s_159_55, s_159_56, s_159_59, s_159_60, s_159_63, s_159_66, s_159_67, s_159_70, s_159_73, s_159_74, s_159_75, s_159_78, s_159_79, s_159_80, s_159_83, e_159, mv_i_1, mv_l_1, mv_a_1, mv_a_2, mv_a_3, mk2_n, mk2_i, mk2_l, mk2_a, mk2_u, mk2_x, mB_T, mB_F, mS_cons, mS_nil, mSB_T, mSB_F, mca_nil, mca_i, mca_l, mca_r, mca_u, mca_x, mcat_i, mcat_l, mcat_r, mcat_u, mcat_x, mK_some, mK_none, va_rf_s, va_rf_n, lgc_eq, lgc_lt, lgc_gt, lgc_ge, lgc_le, mrd_104, mrd_105, mrd_106, mrd_107, true_and, and_true, and_self, false_and, and_false, true_or, or_true, false_or, or_false, not_true_eq_false, not_false_eq_true, mgb, mga, mgr, mN, reduceCtorEq, ↓reduceIte, eq_self, ge_iff_le, gt_iff_lt]
  refine Eq.trans e ?_
  obtain ⟨q1, q2, q3⟩ := tg_get (h := h) (x := x) hR1
  -- to the end, from 59 on
  have E59 : ∀ x : tg_S, mw (d + 2) 159 Q 59 [some (.ref o), some (.ref R), y] [] (tg_H h o R x) = Q none (mh_si (tg_H h o R (tg_3 L n x)) o 5 0) := by
    intro x
    obtain ⟨q1, q2, q3⟩ := tg_get (h := h) (x := x) hR1
    unfold tg_3
    by_cases c : L = 0
    · simp only [s_159_0, s_159_1, s_159_2, s_159_3, s_159_4, s_159_7, s_159_10, s_159_11, s_159_14, s_159_17, s_159_18, s_159_21, s_159_22, s_159_23, s_159_24, s_159_25, s_159_26, s_159_29, s_159_30, s_159_31, s_159_32, s_159_35, s_159_38, s_159_41, s_159_42, s_159_45, s_159_48, s_159_49, s_159_52, s_159_55, s_159_56, s_159_59, s_159_60, s_159_63, s_159_66, s_159_67, s_159_70, s_159_73, s_159_74, s_159_75, s_159_78, s_159_79, s_159_80, s_159_83, e_159, mv_i_1, mv_l_1, mv_a_1, mv_a_2, mv_a_3, mk2_n, mk2_i, mk2_l, mk2_a, mk2_u, mk2_x, mB_T, mB_F, mS_cons, mS_nil, mSB_T, mSB_F, mca_nil, mca_i, mca_l, mca_r, mca_u, mca_x, mcat_i, mcat_l, mcat_r, mcat_u, mcat_x, mK_some, mK_none, va_rf_s, va_rf_n, lgc_eq, lgc_lt, lgc_gt, lgc_ge, lgc_le, mrd_104, mrd_105, mrd_106, mrd_107, true_and, and_true, and_self, false_and, and_false, true_or, or_true, false_or, or_false, not_true_eq_false, not_false_eq_true, mgb, mga, mgr, mN, reduceCtorEq, ↓reduceIte, eq_self, ge_iff_le, gt_iff_lt, hg, hi5, c]
    · by_cases c2 : x.1 = 0
      · have cc := fun (Q' : Option Value → mh_H → Prop) => c_162 (d := d) (Q := Q') (h := tg_H h o R x) (o := o) (R := R) (n := n) (tg_so hs _) (hi1 _) hn2 hR hRl hR1
        simp only [s_159_0, s_159_1, s_159_2, s_159_3, s_159_4, s_159_7, s_159_10, s_159_11, s_159_14, s_159_17, s_159_18, s_159_21, s_159_22, s_159_23, s_159_24, s_159_25, s_159_26, s_159_29, s_159_30, s_159_31, s_159_32, s_159_35, s_159_38, s_159_41, s_159_42, s_159_45, s_159_48, s_159_49, s_159_52, s_159_55, s_159_56, s_159_59, s_159_60, s_159_63, s_159_66, s_159_67, s_159_70, s_159_73, s_159_74, s_159_75, s_159_78, s_159_79, s_159_80, s_159_83, e_159, mv_i_1, mv_l_1, mv_a_1, mv_a_2, mv_a_3, mk2_n, mk2_i, mk2_l, mk2_a, mk2_u, mk2_x, mB_T, mB_F, mS_cons, mS_nil, mSB_T, mSB_F, mca_nil, mca_i, mca_l, mca_r, mca_u, mca_x, mcat_i, mcat_l, mcat_r, mcat_u, mcat_x, mK_some, mK_none, va_rf_s, va_rf_n, lgc_eq, lgc_lt, lgc_gt, lgc_ge, lgc_le, mrd_104, mrd_105, mrd_106, mrd_107, true_and, and_true, and_self, false_and, and_false, true_or, or_true, false_or, or_false, not_true_eq_false, not_false_eq_true, mgb, mga, mgr, mN, reduceCtorEq, ↓reduceIte, eq_self, ge_iff_le, gt_iff_lt, hg, hi5, q3, c, c2, cc]
        rw [q1, q2]
        have ez : mh_J (mh_J (tg_H h o R x) R (au_R x.2.1 x.2.2 (2 * n))) (o + 1) (au_M x.2.1 (sc_n n)) = tg_H h o R (0, au_M x.2.1 (sc_n n), au_R x.2.1 x.2.2 (2 * n)) := by
          have z := tg_put (h := h) (x := x) (z := x.1) (g := au_M x.2.1 (sc_n n)) (r := au_R x.2.1 x.2.2 (2 * n)) hR1
          rw [c2] at z
          refine Eq.trans ?_ z
          have : (0 : Int32) = mh_i (mh_J (mh_J (tg_H h o R x) R (au_R x.2.1 x.2.2 (2 * n))) (o + 1) (au_M x.2.1 (sc_n n))) o 0 := by rw [hi_J, hi_J, q3, c2]
          rw [this, si_id]
        rw [ez]
        have hgz : mg (tg_H h o R (0, au_M x.2.1 (sc_n n), au_R x.2.1 x.2.2 (2 * n))) o 8 := s1
        simp only [s_159_0, s_159_1, s_159_2, s_159_3, s_159_4, s_159_7, s_159_10, s_159_11, s_159_14, s_159_17, s_159_18, s_159_21, s_159_22, s_159_23, s_159_24, s_159_25, s_159_26, s_159_29, s_159_30, s_159_31, s_159_32, s_159_35, s_159_38, s_159_41, s_159_42, s_159_45, s_159_48, s_159_49, s_159_52, s_159_55, s_159_56, s_159_59, s_159_60, s_159_63, s_159_66, s_159_67, s_159_70, s_159_73, s_159_74, s_159_75, s_159_78, s_159_79, s_159_80, s_159_83, e_159, mv_i_1, mv_l_1, mv_a_1, mv_a_2, mv_a_3, mk2_n, mk2_i, mk2_l, mk2_a, mk2_u, mk2_x, mB_T, mB_F, mS_cons, mS_nil, mSB_T, mSB_F, mca_nil, mca_i, mca_l, mca_r, mca_u, mca_x, mcat_i, mcat_l, mcat_r, mcat_u, mcat_x, mK_some, mK_none, va_rf_s, va_rf_n, lgc_eq, lgc_lt, lgc_gt, lgc_ge, lgc_le, mrd_104, mrd_105, mrd_106, mrd_107, true_and, and_true, and_self, false_and, and_false, true_or, or_true, false_or, or_false, not_true_eq_false, not_false_eq_true, mgb, mga, mgr, mN, reduceCtorEq, ↓reduceIte, eq_self, ge_iff_le, gt_iff_lt, hgz]
      · simp only [s_159_0, s_159_1, s_159_2, s_159_3, s_159_4, s_159_7, s_159_10, s_159_11, s_159_14, s_159_17, s_159_18, s_159_21, s_159_22, s_159_23, s_159_24, s_159_25, s_159_26, s_159_29, s_159_30, s_159_31, s_159_32, s_159_35, s_159_38, s_159_41, s_159_42, s_159_45, s_159_48, s_159_49, s_159_52, s_159_55, s_159_56, s_159_59, s_159_60, s_159_63, s_159_66, s_159_67, s_159_70, s_159_73, s_159_74, s_159_75, s_159_78, s_159_79, s_159_80, s_159_83, e_159, mv_i_1, mv_l_1, mv_a_1, mv_a_2, mv_a_3, mk2_n, mk2_i, mk2_l, mk2_a, mk2_u, mk2_x, mB_T, mB_F, mS_cons, mS_nil, mSB_T, mSB_F, mca_nil, mca_i, mca_l, mca_r, mca_u, mca_x, mcat_i, mcat_l, mcat_r, mcat_u, mcat_x, mK_some, mK_none, va_rf_s, va_rf_n, lgc_eq, lgc_lt, lgc_gt, lgc_ge, lgc_le, mrd_104, mrd_105, mrd_106, mrd_107, true_and, and_true, and_self, false_and, and_false, true_or, or_true, false_or, or_false, not_true_eq_false, not_false_eq_true, mgb, mga, mgr, mN, reduceCtorEq, ↓reduceIte, eq_self, ge_iff_le, gt_iff_lt, hg, hi5, q3, c, c2]
  unfold tg_2
  by_cases c : L = 0
  · rw [if_pos c]
    refine Eq.trans ?_ (E59 x)
    simp only [s_159_0, s_159_1, s_159_2, s_159_3, s_159_4, s_159_7, s_159_10, s_159_11, s_159_14, s_159_17, s_159_18, s_159_21, s_159_22, s_159_23, s_159_24, s_159_25, s_159_26, s_159_29, s_159_30, s_159_31, s_159_32, s_159_35, s_159_38, s_159_41, s_159_42, s_159_45, s_159_48, s_159_49, s_159_52, s_159_55, s_159_56, s_159_60, s_159_63, s_159_66, s_159_67, s_159_70, s_159_73, s_159_74, s_159_75, s_159_78, s_159_79, s_159_80, s_159_83, e_159, mv_i_1, mv_l_1, mv_a_1, mv_a_2, mv_a_3, mk2_n, mk2_i, mk2_l, mk2_a, mk2_u, mk2_x, mB_T, mB_F, mS_cons, mS_nil, mSB_T, mSB_F, mca_nil, mca_i, mca_l, mca_r, mca_u, mca_x, mcat_i, mcat_l, mcat_r, mcat_u, mcat_x, mK_some, mK_none, va_rf_s, va_rf_n, lgc_eq, lgc_lt, lgc_gt, lgc_ge, lgc_le, mrd_104, mrd_105, mrd_106, mrd_107, true_and, and_true, and_self, false_and, and_false, true_or, or_true, false_or, or_false, not_true_eq_false, not_false_eq_true, mgb, mga, mgr, mN, reduceCtorEq, ↓reduceIte, eq_self, ge_iff_le, gt_iff_lt, hg, hi5, c]
  · rw [if_neg c]
    by_cases c2 : x.1 = 0
    · rw [if_pos c2]
      have cc := fun (Q' : Option Value → mh_H → Prop) => c_161 (d := d) (Q := Q') (h := tg_H h o R x) (o := o) (n := n) (tg_so hs _) (hi1 _) hn2 (q3.trans c2)
      refine Eq.trans ?_ (E59 _)
      simp only [s_159_0, s_159_1, s_159_2, s_159_3, s_159_4, s_159_7, s_159_10, s_159_11, s_159_14, s_159_17, s_159_18, s_159_21, s_159_22, s_159_23, s_159_24, s_159_25, s_159_26, s_159_29, s_159_30, s_159_31, s_159_32, s_159_35, s_159_38, s_159_41, s_159_42, s_159_45, s_159_48, s_159_49, s_159_52, s_159_55, s_159_56, s_159_60, s_159_63, s_159_66, s_159_67, s_159_70, s_159_73, s_159_74, s_159_75, s_159_78, s_159_79, s_159_80, s_159_83, e_159, mv_i_1, mv_l_1, mv_a_1, mv_a_2, mv_a_3, mk2_n, mk2_i, mk2_l, mk2_a, mk2_u, mk2_x, mB_T, mB_F, mS_cons, mS_nil, mSB_T, mSB_F, mca_nil, mca_i, mca_l, mca_r, mca_u, mca_x, mcat_i, mcat_l, mcat_r, mcat_u, mcat_x, mK_some, mK_none, va_rf_s, va_rf_n, lgc_eq, lgc_lt, lgc_gt, lgc_ge, lgc_le, mrd_104, mrd_105, mrd_106, mrd_107, true_and, and_true, and_self, false_and, and_false, true_or, or_true, false_or, or_false, not_true_eq_false, not_false_eq_true, mgb, mga, mgr, mN, reduceCtorEq, ↓reduceIte, eq_self, ge_iff_le, gt_iff_lt, hg, hi5, q3, c, c2, cc]
      rw [q1]
      congr 1
      unfold tg_H
      rw [J_si2, J_J, si_si]
    · rw [if_neg c2]
      refine Eq.trans ?_ (E59 x)
      simp only [s_159_0, s_159_1, s_159_2, s_159_3, s_159_4, s_159_7, s_159_10, s_159_11, s_159_14, s_159_17, s_159_18, s_159_21, s_159_22, s_159_23, s_159_24, s_159_25, s_159_26, s_159_29, s_159_30, s_159_31, s_159_32, s_159_35, s_159_38, s_159_41, s_159_42, s_159_45, s_159_48, s_159_49, s_159_52, s_159_55, s_159_56, s_159_60, s_159_63, s_159_66, s_159_67, s_159_70, s_159_73, s_159_74, s_159_75, s_159_78, s_159_79, s_159_80, s_159_83, e_159, mv_i_1, mv_l_1, mv_a_1, mv_a_2, mv_a_3, mk2_n, mk2_i, mk2_l, mk2_a, mk2_u, mk2_x, mB_T, mB_F, mS_cons, mS_nil, mSB_T, mSB_F, mca_nil, mca_i, mca_l, mca_r, mca_u, mca_x, mcat_i, mcat_l, mcat_r, mcat_u, mcat_x, mK_some, mK_none, va_rf_s, va_rf_n, lgc_eq, lgc_lt, lgc_gt, lgc_ge, lgc_le, mrd_104, mrd_105, mrd_106, mrd_107, true_and, and_true, and_self, false_and, and_false, true_or, or_true, false_or, or_false, not_true_eq_false, not_false_eq_true, mgb, mga, mgr, mN, reduceCtorEq, ↓reduceIte, eq_self, ge_iff_le, gt_iff_lt, hg, hi5, q3, c, c2]
end TG
/-! the class's closing, in whole numbers -/
theorem lmin_int {x w : Int64} : (lmin x w).toInt = min x.toInt w.toInt := by
  unfold lmin
  by_cases c : w < x
  · rw [if_pos c]
    have := Int64.lt_iff_toInt_lt.mp c
    omega
  · rw [if_neg c]
    have : ¬ w.toInt < x.toInt := fun z => c (Int64.lt_iff_toInt_lt.mpr z)
    omega
theorem ladd_int {x w : Int64} (h1 : -9223372036854775808 ≤ x.toInt + w.toInt) (h2 : x.toInt + w.toInt < 9223372036854775808) : (x + w).toInt = x.toInt + w.toInt := by
  rw [Int64.toInt_add]
  exact Int.bmod_eq_of_le (by omega) (by omega)
/-- all bounds of the first n slots lie between -B and C -/
def sbd (g : Nat → Int64) (n : Nat) (B C : Int) : Prop := ∀ i j, i < 2 * n → j < 2 * n → -B ≤ (g (sc i j)).toInt ∧ (g (sc i j)).toInt ≤ C
def smx (g : Nat → Int64) : oc_M := fun i j => (g (sc i j)).toInt
theorem gt_E_int {g : Nat → Int64} {n s j : Nat} {B C : Int} (hb : sbd g n B C) (hB0 : 0 ≤ B) (hB : B ≤ 1152921504606846976) (hC : C ≤ 1152921504606846976) (hs : s < n) (hj : j < 2 * n) : (gt_E g s j).toInt = oc_e s (smx g) j ∧ -(2 * B) ≤ (gt_E g s j).toInt ∧ (gt_E g s j).toInt ≤ C := by
  have b1 := hb (2 * s) j (by omega) hj
  have b2 := hb (2 * s) (2 * s + 1) (by omega) (by omega)
  have b3 := hb (2 * s + 1) j (by omega) hj
  unfold gt_E oc_e smx
  rw [lmin_int, ladd_int (by omega) (by omega)]
  omega
theorem gt_O_int {g : Nat → Int64} {n s j : Nat} {B C : Int} (hb : sbd g n B C) (hB0 : 0 ≤ B) (hB : B ≤ 1152921504606846976) (hC : C ≤ 1152921504606846976) (hs : s < n) (hj : j < 2 * n) : (gt_O g s j).toInt = oc_o s (smx g) j ∧ -(2 * B) ≤ (gt_O g s j).toInt ∧ (gt_O g s j).toInt ≤ C := by
  have b1 := hb (2 * s + 1) j (by omega) hj
  have b2 := hb (2 * s + 1) (2 * s) (by omega) (by omega)
  have b3 := hb (2 * s) j (by omega) hj
  unfold gt_O oc_o smx
  rw [lmin_int, ladd_int (by omega) (by omega)]
  omega
theorem gt_W_int {g : Nat → Int64} {n s i j : Nat} {B C : Int} (hb : sbd g n B C) (hB0 : 0 ≤ B) (hB : B ≤ 1152921504606846976) (hC : C ≤ 1152921504606846976) (hs : s < n) (hi : i < 2 * n) (hj : j < 2 * n) : (gt_W g s i j).toInt = min (oc_o s (smx g) (oc_b i) + oc_e s (smx g) j) (oc_e s (smx g) (oc_b i) + oc_o s (smx g) j) ∧ -(4 * B) ≤ (gt_W g s i j).toInt := by
  obtain ⟨a1, a2, a3⟩ := gt_O_int hb hB0 hB hC hs (oc_b_lt hi)
  obtain ⟨c1, c2, c3⟩ := gt_E_int hb hB0 hB hC hs (oc_b_lt hi)
  obtain ⟨d1, d2, d3⟩ := gt_E_int hb hB0 hB hC hs hj
  obtain ⟨f1, f2, f3⟩ := gt_O_int hb hB0 hB hC hs hj
  unfold gt_W
  rw [lmin_int, ladd_int (by omega) (by omega), ladd_int (by omega) (by omega), a1, c1, d1, f1]
  rw [a1] at a2 a3
  rw [c1] at c2 c3
  rw [d1] at d2 d3
  rw [f1] at f2 f3
  omega
/-- State.goThrough is the way through a slot -/
theorem gt_M_int {g : Nat → Int64} {n s i j : Nat} {B C : Int} (hb : sbd g n B C) (hB0 : 0 ≤ B) (hB : B ≤ 1152921504606846976) (hC : C ≤ 1152921504606846976) (hn : n ≤ 12) (hs : s < n) (hc : oc_C n (smx g)) (hi : i < 2 * n) (hj : j < 2 * n) : (gt_M g s (sc_n n) (sc i j)).toInt = oc_piv s (smx g) i j := by
  have hlt := sc_n_all n hn i (by omega) j (by omega) hi hj
  unfold gt_M
  rw [if_pos hlt, lmin_int]
  unfold oc_piv
  rcases sc_of (i := i) (j := j) (by omega) (by omega) with ⟨e1, e2⟩ | ⟨e1, e2, e3⟩
  · rw [e1, e2, (gt_W_int hb hB0 hB hC hs hi hj).1]; rfl
  · rw [e1, e2, (gt_W_int hb hB0 hB hC hs (oc_b_lt hj) (oc_b_lt hi)).1, oc_bb]
    show min (smx g i j) _ = _
    omega
theorem gt_M_bd {g : Nat → Int64} {n s : Nat} {B C : Int} (hb : sbd g n B C) (hB0 : 0 ≤ B) (hB : B ≤ 1152921504606846976) (hC : C ≤ 1152921504606846976) (hn : n ≤ 12) (hs : s < n) : sbd (gt_M g s (sc_n n)) n (4 * B) C := by
  intro i j hi hj
  have hlt := sc_n_all n hn i (by omega) j (by omega) hi hj
  have b0 := hb i j hi hj
  unfold gt_M
  rw [if_pos hlt, lmin_int]
  rcases sc_of (i := i) (j := j) (by omega) (by omega) with ⟨e1, e2⟩ | ⟨e1, e2, e3⟩
  · rw [e1, e2]
    have := (gt_W_int hb hB0 hB hC hs hi hj).2
    omega
  · rw [e1, e2]
    have := (gt_W_int hb hB0 hB hC hs (oc_b_lt hj) (oc_b_lt hi)).2
    omega

theorem any_cg {α : Type} {l : List α} {f g : α → Bool} (e : ∀ x, x ∈ l → f x = g x) : l.any f = l.any g := by
  induction l with
  | nil => rfl
  | cons x l ih => rw [List.any_cons, List.any_cons, e x List.mem_cons_self, ih (fun y hy => e y (List.mem_cons_of_mem x hy))]
/-- through all loose slots -/
theorem tg_fw {g r : Nat → Int64} {n : Nat} {L : Int32} {C E : Int} (hC0 : 0 ≤ C) (hC : C ≤ 34359738368) (hE : E ≤ 1125899906842624) (hn : n ≤ 12) (hb : sbd g n C E) (hc : oc_C n (smx g)) : ∀ k, k ≤ n → match oc_fw n (tg_b L) (smx g) k with
    | none => ¬ (tg L n k (0, g, r)).1 = 0
    | some m => (tg L n k (0, g, r)).1 = 0 ∧ sbd (tg L n k (0, g, r)).2.1 n (4 ^ k * C) E ∧ oc_C n m ∧ ∀ i j, i < 2 * n → j < 2 * n → smx (tg L n k (0, g, r)).2.1 i j = m i j := by
  intro k
  induction k with
  | zero =>
    intro _
    refine ⟨rfl, ?_, hc, fun i j _ _ => rfl⟩
    intro i j hi hj
    have := hb i j hi hj
    simpa [tg] using this
  | succ k ih =>
    intro hk
    have ih := ih (by omega)
    unfold oc_fw
    show match (match oc_fw n (tg_b L) (smx g) k with
      | none => none
      | some m1 => match tg_b L k with
        | false => some m1
        | true => if m1 (2 * k) (2 * k + 1) + m1 (2 * k + 1) (2 * k) < 0 then none else if oc_neg n (oc_piv k m1) then none else some (oc_piv k m1)) with
      | none => ¬ (tg_1 L n k (tg L n k (0, g, r))).1 = 0
      | some m => (tg_1 L n k (tg L n k (0, g, r))).1 = 0 ∧ sbd (tg_1 L n k (tg L n k (0, g, r))).2.1 n (4 ^ (k + 1) * C) E ∧ oc_C n m ∧ ∀ i j, i < 2 * n → j < 2 * n → smx (tg_1 L n k (tg L n k (0, g, r))).2.1 i j = m i j
    cases e1 : oc_fw n (tg_b L) (smx g) k with
    | none =>
      rw [e1] at ih
      show ¬ (tg_1 L n k (tg L n k (0, g, r))).1 = 0
      unfold tg_1
      rw [if_neg ih]; exact ih
    | some m1 =>
      rw [e1] at ih
      obtain ⟨z1, z2, z3, z4⟩ := ih
      have hp : (4 : Int) ^ k * C ≤ 4 ^ (k + 1) * C := by
        rw [Int.pow_succ, Int.mul_comm (4 ^ k) 4, Int.mul_assoc]
        have : 0 ≤ (4 : Int) ^ k * C := Int.mul_nonneg (Int.le_of_lt (Int.pow_pos (by decide))) hC0
        omega
      have hp0 : 0 ≤ (4 : Int) ^ k * C := Int.mul_nonneg (Int.le_of_lt (Int.pow_pos (by decide))) hC0
      have hp4 : (4 : Int) ^ k * C ≤ 1152921504606846976 := by
        have a1 : (4 : Int) ^ k ≤ 4 ^ 12 := by exact_mod_cast Nat.pow_le_pow_right (by decide : 0 < 4) (by omega : k ≤ 12)
        have a2 : (4 : Int) ^ k * C ≤ 4 ^ 12 * 34359738368 := Int.mul_le_mul a1 hC hC0 (by decide)
        have a3 : (4 : Int) ^ 12 * 34359738368 ≤ 1152921504606846976 := by decide
        omega
      generalize hx : tg L n k (0, g, r) = x at *
      -- what the machine reads is what the numbers say
      have cx : oc_C n (smx x.2.1) := by
        refine ⟨fun i hi => by rw [z4 i i hi hi]; exact z3.1 i hi, fun i j hi hj => ?_⟩
        rw [z4 i j hi hj, z4 _ _ (oc_bl hj) (oc_bl hi)]; exact z3.2 i j hi hj
      cases eL : tg_b L k with
      | false =>
        have e : tg_1 L n k x = x := by unfold tg_1; rw [if_pos z1, eL]; simp
        rw [e]
        refine ⟨z1, fun i j hi hj => ?_, z3, z4⟩
        have := z2 i j hi hj
        omega
      | true =>
        have hk2 : k < n := by omega
        have b1 := z2 (2 * k) (2 * k + 1) (by omega) (by omega)
        have b2 := z2 (2 * k + 1) (2 * k) (by omega) (by omega)
        have zz : (x.2.1 (sc (2 * k) (2 * k + 1)) + x.2.1 (sc (2 * k + 1) (2 * k)) < 0) = (m1 (2 * k) (2 * k + 1) + m1 (2 * k + 1) (2 * k) < 0) := by
          rw [Int64.lt_iff_toInt_lt, ladd_int (by omega) (by omega)]
          have a1 := z4 (2 * k) (2 * k + 1) (by omega) (by omega)
          have a2 := z4 (2 * k + 1) (2 * k) (by omega) (by omega)
          unfold smx at a1 a2
          rw [a1, a2]; rfl
        dsimp only
        by_cases c : m1 (2 * k) (2 * k + 1) + m1 (2 * k + 1) (2 * k) < 0
        · rw [if_pos c]
          have e : tg_1 L n k x = (1, x.2) := by unfold tg_1; rw [if_pos z1, eL, if_pos rfl, if_pos (zz ▸ c)]
          show ¬ (tg_1 L n k x).1 = 0
          rw [e]
          show ¬ (1 : Int32) = 0
          decide
        · rw [if_neg c]
          have e : tg_1 L n k x = (gt_z x.2.1 k (2 * n), gt_M x.2.1 k (sc_n n), gt_R x.2.1 x.2.2 k (2 * n)) := by unfold tg_1; rw [if_pos z1, eL, if_pos rfl, if_neg (fun q => c (zz ▸ q))]
          have pe : ∀ i j, i < 2 * n → j < 2 * n → oc_piv k (smx x.2.1) i j = oc_piv k m1 i j := by
            intro i j hi hj
            have hbi := oc_bl hi
            unfold oc_piv oc_e oc_o
            rw [z4 i j hi hj, z4 (2 * k + 1) (oc_b i) (by omega) hbi, z4 (2 * k + 1) (2 * k) (by omega) (by omega), z4 (2 * k) (oc_b i) (by omega) hbi, z4 (2 * k) j (by omega) hj, z4 (2 * k) (2 * k + 1) (by omega) (by omega), z4 (2 * k + 1) j (by omega) hj]
          have gm : ∀ i j, i < 2 * n → j < 2 * n → smx (gt_M x.2.1 k (sc_n n)) i j = oc_piv k m1 i j := fun i j hi hj => (gt_M_int z2 hp0 hp4 (by omega) hn hk2 cx hi hj).trans (pe i j hi hj)
          -- the flag
          have gz : gt_N x.2.1 k (2 * n) = oc_neg n (oc_piv k m1) := by
            unfold gt_N oc_neg
            refine any_cg (fun i hi => ?_)
            have hi := List.mem_range.mp hi
            have h1 := oc_1_eq i
            have hsc : sc_r i + i = sc i i := by unfold sc; rw [if_neg (by omega)]
            have h312 := sc_lt (i := i) (j := i) (by omega) (by omega)
            have hlt := sc_n_all n hn i (by omega) i (by omega) hi hi
            have e5 : gt_M x.2.1 k 312 (sc i i) = gt_M x.2.1 k (sc_n n) (sc i i) := by unfold gt_M; rw [if_pos h312, if_pos hlt]
            have := gm i i hi hi
            unfold smx at this
            rw [hsc, e5]
            have q : (gt_M x.2.1 k (sc_n n) (sc i i) < 0) = (oc_piv k m1 i i < 0) := by rw [Int64.lt_iff_toInt_lt, this]; rfl
            exact decide_eq_decide.mpr (by rw [q])
          cases eN : oc_neg n (oc_piv k m1) with
          | true =>
            rw [if_pos rfl]
            show ¬ (tg_1 L n k x).1 = 0
            rw [e]
            show ¬ gt_z x.2.1 k (2 * n) = 0
            unfold gt_z; rw [gz, eN]; decide
          | false =>
            rw [if_neg (by decide), e]
            refine ⟨?_, ?_, oc_piv_C z3 (oc_neg_f eN), gm⟩
            · show gt_z x.2.1 k (2 * n) = 0
              unfold gt_z; rw [gz, eN]; rfl
            · have := gt_M_bd z2 hp0 hp4 (by omega) hn hk2
              rw [show (4 : Int) ^ (k + 1) * C = 4 * (4 ^ k * C) by rw [Int.pow_succ, Int.mul_comm (4 ^ k) 4, Int.mul_assoc]]
              exact this
theorem even_nat {n : Nat} (h : n < 18446744073709551616) : n &&& 18446744073709551614 = n / 2 * 2 := by
  apply Nat.eq_of_testBit_eq
  intro k
  rw [Nat.testBit_and]
  cases k with
  | zero =>
    have : Nat.testBit (n / 2 * 2) 0 = false := by rw [Nat.testBit_zero]; simp
    rw [this]; simp
  | succ k =>
    have e1 : Nat.testBit (n / 2 * 2) (k + 1) = Nat.testBit n (k + 1) := by
      rw [Nat.testBit_succ, Nat.mul_div_cancel _ (by decide : 0 < 2), ← Nat.testBit_succ]
    rw [e1]
    by_cases c : k + 1 < 64
    · have e2 : Nat.testBit 18446744073709551614 (k + 1) = true := by
        have : ∀ k, k < 63 → Nat.testBit 18446744073709551614 (k + 1) = true := by decide +kernel
        exact this k (by omega)
      rw [e2, Bool.and_true]
    · have e3 : Nat.testBit n (k + 1) = false := Nat.testBit_lt_two_pow (Nat.lt_of_lt_of_le h (by
        have : 2 ^ 64 ≤ 2 ^ (k + 1) := Nat.pow_le_pow_right (by decide) (by omega)
        exact this))
      rw [e3, Bool.false_and]
theorem even_int {x : Int64} : (x &&& (-2)).toInt = 2 * (x.toInt / 2) := by
  have e1 : (x &&& (-2)).toBitVec.toNat = x.toBitVec.toNat / 2 * 2 := by
    rw [Int64.toBitVec_and, BitVec.toNat_and]
    exact even_nat x.toBitVec.isLt
  have hlt := x.toBitVec.isLt
  have e2 : (x &&& (-2)).toInt = (x &&& (-2)).toBitVec.toInt := rfl
  have e3 : x.toInt = x.toBitVec.toInt := rfl
  rw [e2, e3, BitVec.toInt_eq_toNat_cond, BitVec.toInt_eq_toNat_cond, e1]
  generalize x.toBitVec.toNat = n at hlt ⊢
  split <;> split <;> omega
theorem rd_U_iff {n i j : Nat} (hn : n ≤ 12) (hi : i < 2 * n) (hj : j < 2 * n) : rd_U (2 * n) (sc i j) = decide (j = oc_b i) := by
  unfold rd_U
  by_cases c : j = oc_b i
  · rw [decide_eq_true c, List.any_eq_true]
    exact ⟨i, List.mem_range.mpr hi, by rw [c]; simp⟩
  · rw [decide_eq_false c, List.any_eq_false]
    intro k hk
    have hk := List.mem_range.mp hk
    simp only [beq_iff_eq]
    intro z
    rcases sc_inj (by omega) (by omega) (by omega) (oc_b24 (by omega)) z with q | q
    · exact c (by rw [q.2, q.1])
    · rw [sc_bb] at q; exact c (by rw [q.2, q.1])
theorem rd_M_int {g : Nat → Int64} {n i j : Nat} (hn : n ≤ 12) (hi : i < 2 * n) (hj : j < 2 * n) : smx (rd_M g (2 * n)) i j = oc_rd (smx g) i j := by
  unfold smx rd_M oc_rd
  rw [rd_U_iff hn hi hj]
  by_cases c : j = oc_b i
  · rw [if_pos (decide_eq_true c), if_pos c, even_int]
  · rw [if_neg (by simpa using c), if_neg c]
theorem half_int {x : Int64} (h : x.toInt % 2 = 0) : (x / 2).toInt = x.toInt / 2 := by
  have e : (2 : Int64).toInt = 2 := by decide
  rw [Int64.toInt_div_of_ne_right _ _ (by decide), e]
  obtain ⟨k, hk⟩ := Int.dvd_of_emod_eq_zero h
  rw [hk, Int.mul_tdiv_cancel_left _ (by decide), Int.mul_ediv_cancel_left _ (by decide)]
theorem au_M_int {g : Nat → Int64} {n i j : Nat} {B C : Int} (hb : sbd g n B C) (hB : B ≤ 4611686018427387904) (hC : C ≤ 4611686018427387904) (hn : n ≤ 12) (he : ∀ i, i < 2 * n → smx g i (oc_b i) % 2 = 0) (hi : i < 2 * n) (hj : j < 2 * n) : smx (au_M g (sc_n n)) i j = oc_up (smx g) i j := by
  have hlt := sc_n_all n hn i (by omega) j (by omega) hi hj
  have hv : ∀ k, k < 2 * n → (au_h g k).toInt = smx g (oc_b k) k / 2 ∧ -4611686018427387904 ≤ 2 * (au_h g k).toInt ∧ 2 * (au_h g k).toInt ≤ 4611686018427387904 := by
    intro k hk
    have e := he (oc_b k) (oc_bl hk)
    rw [oc_bb] at e
    have b := hb (oc_b k) k (oc_bl hk) hk
    have e2 : (au_h g k).toInt = smx g (oc_b k) k / 2 := half_int e
    rw [e2]
    unfold smx
    omega
  have e0 : smx (au_M g (sc_n n)) i j = min (smx g i j) (smx g i (oc_b i) / 2 + smx g (oc_b j) j / 2) := by
    show (au_M g (sc_n n) (sc i j)).toInt = _
    unfold au_M
    rw [if_pos hlt, lmin_int]
    have v1 := hv (oc_b i) (oc_bl hi)
    have v2 := hv j hj
    rw [oc_bb] at v1
    rcases sc_of (i := i) (j := j) (by omega) (by omega) with ⟨e1, e2⟩ | ⟨e1, e2, e3⟩
    · rw [e1, e2, ladd_int (by omega) (by omega), v1.1, v2.1]; rfl
    · rw [e1, e2, oc_bb, ladd_int (by omega) (by omega), v1.1, v2.1, Int.add_comm]; rfl
  rw [e0]; rfl
/-- State.tighten is the tight closure -/
theorem tg_cl {g r : Nat → Int64} {n : Nat} {L : Int32} {C E : Int} (hC0 : 0 ≤ C) (hC : C ≤ 34359738368) (hE : E ≤ 1125899906842624) (hn : n ≤ 12) (hb : sbd g n C E) (hc : oc_C n (smx g)) (hL : L = 0 ↔ (List.range n).any (tg_b L) = false) : match oc_cl n (tg_b L) (smx g) with
    | none => ¬ (tg_3 L n (tg_2 L n (tg L n n (0, g, r)))).1 = 0
    | some t => (tg_3 L n (tg_2 L n (tg L n n (0, g, r)))).1 = 0 ∧ ∀ i j, i < 2 * n → j < 2 * n → smx (tg_3 L n (tg_2 L n (tg L n n (0, g, r)))).2.1 i j = t i j := by
  have ih := tg_fw (r := r) (L := L) hC0 hC hE hn hb hc n (Nat.le_refl n)
  generalize tg L n n (0, g, r) = x at ih ⊢
  unfold oc_cl
  cases e1 : oc_fw n (tg_b L) (smx g) n with
  | none =>
    rw [e1] at ih
    show ¬ (tg_3 L n (tg_2 L n x)).1 = 0
    have e2 : tg_2 L n x = x := by
      unfold tg_2
      by_cases c : L = 0
      · rw [if_pos c]
      · rw [if_neg c, if_neg ih]
    have e3 : tg_3 L n x = x := by
      unfold tg_3
      by_cases c : L = 0
      · rw [if_pos c]
      · rw [if_neg c, if_neg ih]
    rw [e2, e3]; exact ih
  | some m =>
    rw [e1] at ih
    obtain ⟨z1, z2, z3, z4⟩ := ih
    dsimp only
    cases eA : (List.range n).any (tg_b L) with
    | false =>
      have hL0 := hL.mpr eA
      rw [if_neg (by decide)]
      have e2 : tg_2 L n x = x := by unfold tg_2; rw [if_pos hL0]
      have e3 : tg_3 L n x = x := by unfold tg_3; rw [if_pos hL0]
      rw [e2, e3]
      exact ⟨z1, z4⟩
    | true =>
      have hL0 : ¬ L = 0 := fun z => by rw [hL.mp z] at eA; cases eA
      rw [if_pos rfl]
      have e2 : tg_2 L n x = (rd_z (rd_M x.2.1 (2 * n)) n, rd_M x.2.1 (2 * n), x.2.2) := by unfold tg_2; rw [if_neg hL0, if_pos z1]
      rw [e2]
      have hp4 : (4 : Int) ^ n * C ≤ 576460752303423488 := by
        have a1 : (4 : Int) ^ n ≤ 4 ^ 12 := by exact_mod_cast Nat.pow_le_pow_right (by decide : 0 < 4) hn
        have a2 : (4 : Int) ^ n * C ≤ 4 ^ 12 * 34359738368 := Int.mul_le_mul a1 hC hC0 (by decide)
        have a3 : (4 : Int) ^ 12 * 34359738368 ≤ 576460752303423488 := by decide
        omega
      have hm : ∀ i j, i < 2 * n → j < 2 * n → smx (rd_M x.2.1 (2 * n)) i j = oc_rd m i j := by
        intro i j hi hj
        rw [rd_M_int hn hi hj]
        unfold oc_rd
        rw [z4 i j hi hj]
      have hb2 : sbd (rd_M x.2.1 (2 * n)) n (4 ^ n * C + 1) E := by
        intro i j hi hj
        have b : -(4 ^ n * C) ≤ smx x.2.1 i j ∧ smx x.2.1 i j ≤ E := z2 i j hi hj
        have q : (rd_M x.2.1 (2 * n) (sc i j)).toInt = oc_rd (smx x.2.1) i j := rd_M_int (g := x.2.1) hn hi hj
        rw [q]
        unfold oc_rd
        split <;> omega
      have gb : rd_N (rd_M x.2.1 (2 * n)) n = oc_bad n (oc_rd m) := by
        unfold rd_N oc_bad
        refine any_cg (fun k hk => ?_)
        have hk := List.mem_range.mp hk
        have a1 := hm (2 * k) (2 * k + 1) (by omega) (by omega)
        have a2 := hm (2 * k + 1) (2 * k) (by omega) (by omega)
        have b1 := hb2 (2 * k) (2 * k + 1) (by omega) (by omega)
        have b2 := hb2 (2 * k + 1) (2 * k) (by omega) (by omega)
        unfold smx at a1 a2
        refine decide_eq_decide.mpr ?_
        rw [Int64.lt_iff_toInt_lt, ladd_int (by omega) (by omega), a1, a2]; exact Iff.rfl
      cases eB : oc_bad n (oc_rd m) with
      | true =>
        rw [if_pos rfl]
        have zz : ¬ rd_z (rd_M x.2.1 (2 * n)) n = 0 := by unfold rd_z; rw [gb, eB]; decide
        have e3 : tg_3 L n (rd_z (rd_M x.2.1 (2 * n)) n, rd_M x.2.1 (2 * n), x.2.2) = (rd_z (rd_M x.2.1 (2 * n)) n, rd_M x.2.1 (2 * n), x.2.2) := by unfold tg_3; rw [if_neg hL0]; exact if_neg zz
        rw [e3]; exact zz
      | false =>
        rw [if_neg (by decide)]
        have zz : rd_z (rd_M x.2.1 (2 * n)) n = 0 := by unfold rd_z; rw [gb, eB]; rfl
        have e3 : tg_3 L n (rd_z (rd_M x.2.1 (2 * n)) n, rd_M x.2.1 (2 * n), x.2.2) = (rd_z (rd_M x.2.1 (2 * n)) n, au_M (rd_M x.2.1 (2 * n)) (sc_n n), au_R (rd_M x.2.1 (2 * n)) x.2.2 (2 * n)) := by unfold tg_3; rw [if_neg hL0]; exact if_pos zz
        rw [e3]
        refine ⟨zz, fun i j hi hj => ?_⟩
        have he : ∀ i, i < 2 * n → smx (rd_M x.2.1 (2 * n)) i (oc_b i) % 2 = 0 := fun i hi => by
          rw [hm i _ hi (oc_bl hi)]; unfold oc_rd; rw [if_pos rfl]; omega
        rw [au_M_int hb2 (by omega) (by omega) hn he hi hj]
        unfold oc_up
        rw [hm i j hi hj, hm i _ hi (oc_bl hi), hm _ j (oc_bl hj) hj]
