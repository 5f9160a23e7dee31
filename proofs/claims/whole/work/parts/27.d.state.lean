set_option maxRecDepth 100000
/-! rows that are written place by place: U says which were -/
def sw (U : Nat → Bool) (f g : Nat → Int64) (q : Nat) : Int64 := if U q then f q else g q
theorem sw_put {U V : Nat → Bool} {f g : Nat → Int64} {c : Nat} {v : Int64} (hv : v = f c) (hV : ∀ q, V q = (U q || q == c)) (q : Nat) : (if q = c then v else sw U f g q) = sw V f g q := by
  unfold sw
  rw [hV q, hv]
  by_cases e : q = c
  · subst e; simp
  · have : (q == c) = false := by simp [e]
    rw [if_neg e, this, Bool.or_false]
theorem sw_un {U : Nat → Bool} {f g : Nat → Int64} {c : Nat} (h : U c = false) : sw U f g c = g c := by unfold sw; rw [h]; rfl
/-- by how much a bound moves when a slot moves by least .. greatest -/
def sh_a (s : Nat) (l u : Int64) (i : Nat) : Int64 := if i = 2 * s then -l else if i = 2 * s + 1 then u else 0
def sh_d (s : Nat) (l u : Int64) (i j : Nat) : Int64 := if i = j then 0 else sh_a s l u i + sh_a s l u (oc_b j)
def sh_f (s : Nat) (l u : Int64) (g : Nat → Int64) (q : Nat) : Int64 := g q + sh_d s l u (sc_i q) (sc_j q)
theorem sh_f_at {s : Nat} {l u : Int64} {g : Nat → Int64} {i j : Nat} (hi : i < 24) (hj : j < 24) : sh_f s l u g (sc i j) = g (sc i j) + sh_d s l u i j := by
  unfold sh_f
  rcases sc_of hi hj with ⟨e1, e2⟩ | ⟨e1, e2, e3⟩
  · rw [e1, e2]
  · rw [e1, e2]
    have h1 := oc_1_eq i
    have ne : ¬ i = j := by omega
    have ne2 : ¬ oc_b j = oc_b i := fun z => ne (by have := congrArg oc_b z; rw [sc_bb, sc_bb] at this; exact this.symm)
    unfold sh_d
    rw [if_neg ne, if_neg ne2, sc_bb, Int64.add_comm (sh_a s l u i)]
def sh_U (s k q : Nat) : Bool := (List.range k).any fun j => decide (¬ j / 2 = s) && (q == sc (2 * s) j || q == sc (2 * s + 1) j)
def sh_V (s n q : Nat) : Bool := (sh_U s (2 * n) q || q == sc (2 * s) (2 * s + 1)) || q == sc (2 * s + 1) (2 * s)
theorem sh_U_next {s k q : Nat} : sh_U s (k + 1) q = (sh_U s k q || (decide (¬ k / 2 = s) && (q == sc (2 * s) k || q == sc (2 * s + 1) k))) := by unfold sh_U; rw [List.range_succ, List.any_append]; simp
theorem sh_U_f {s k i j : Nat} (hk : k ≤ 24) (hs : s < 12) (hi : i < 24) (hj : j < 24) (h : ∀ j', j' < k → ¬ j' / 2 = s → (¬ (i = 2 * s ∧ j = j') ∧ ¬ (i = oc_b j' ∧ j = 2 * s + 1)) ∧ (¬ (i = 2 * s + 1 ∧ j = j') ∧ ¬ (i = oc_b j' ∧ j = 2 * s))) : sh_U s k (sc i j) = false := by
  unfold sh_U
  rw [List.any_eq_false]
  intro j' hj'
  have hj' := List.mem_range.mp hj'
  simp only [Bool.and_eq_true, Bool.or_eq_true, beq_iff_eq, decide_eq_true_eq, not_and, not_or]
  intro hne
  obtain ⟨⟨a1, a2⟩, a3, a4⟩ := h j' hj' hne
  constructor
  · intro z
    rcases sc_inj hi hj (by omega) (by omega) z with q | q
    · exact a1 q
    · rw [oc_be] at q; exact a2 q
  · intro z
    rcases sc_inj hi hj (by omega) (by omega) z with q | q
    · exact a3 q
    · rw [oc_bo] at q; exact a4 q
theorem div2_all : ∀ v, v < 64 → Int32.ofNat v / 2 = Int32.ofNat (v / 2) := by decide +kernel
theorem nn_div2 {v : Nat} (h : v < 64) : Int32.ofNat v / 2 = Int32.ofNat (v / 2) := div2_all v h
/-- State.shift -/
theorem c_158 {d : Nat} {Q : Option Value → mh_H → Prop} {h : mh_H} {o n s : Nat} {l u : Int64} (hs : so h o) (hn : mh_i h o 1 = Int32.ofNat n) (hn2 : n ≤ 12) (hs2 : s < n) : mcall (d + 1) 158 [.ref o, .int (Int32.ofNat s), .long l, .long u] h Q = Q none (mh_J h (o + 1) (sw (sh_V s n) (sh_f s l u (mh_j h (o + 1))) (mh_j h (o + 1)))) := by
  obtain ⟨s1, s2, s3, s4, s5, s6, s7⟩ := hs
  have ei : ∀ k, Int32.ofNat k + 1 = Int32.ofNat (k + 1) := fun k => nn_add (a := k) (b := 1)
  have e3 : ∀ k, (2 : Int32) * Int32.ofNat k = Int32.ofNat (2 * k) := fun k => nn_mul (a := 2) (b := k)
  have e20 : ((2 : Int32) = 0) = False := by decide
  have L1 := mw_loop (d := d + 1) (y := 158) (pc := 8) (Q := Q) (st := []) (fun k => [some (.ref o), some (.int (Int32.ofNat s)), some (.long l), none, some (.long u), none, some (.int (Int32.ofNat (2 * s))), some (.int (Int32.ofNat k))]) (fun k => mh_J h (o + 1) (sw (sh_U s k) (sh_f s l u (mh_j h (o + 1))) (mh_j h (o + 1)))) (a := 0) (b := 2 * n) (Nat.zero_le _) (fun k _ hk => by
    have hk2 : ¬ 2 * n ≤ k := by omega
    have h1 := sc_lt (i := 2 * s) (j := k) (by omega) (by omega)
    have h2 := sc_lt (i := 2 * s + 1) (j := k) (by omega) (by omega)
    by_cases c : k / 2 = s
    · rw [s_158_8]
      simp (disch := omega) only [s_158_0, s_158_1, s_158_2, s_158_3, s_158_5, s_158_6, s_158_10, s_158_11, s_158_12, s_158_15, s_158_16, s_158_19, s_158_21, s_158_22, s_158_23, s_158_24, s_158_27, s_158_28, s_158_31, s_158_33, s_158_35, s_158_38, s_158_38l, s_158_39, s_158_40, s_158_41, s_158_42, s_158_43, s_158_44, s_158_47, s_158_49, s_158_50, s_158_51, s_158_53, s_158_56, s_158_56l, s_158_57, s_158_58, s_158_60, s_158_61, s_158_62, s_158_65, s_158_68, s_158_69, s_158_72, s_158_74, s_158_76, s_158_77, s_158_78, s_158_81, s_158_81l, s_158_82, s_158_83, s_158_86, s_158_87, s_158_88, s_158_89, s_158_90, s_158_91, s_158_94, s_158_96, s_158_97, s_158_98, s_158_100, s_158_103, s_158_103l, s_158_104, s_158_105, s_158_108, s_158_110, s_158_111, s_158_112, s_158_113, e_158, mv_i_1, mv_l_1, mv_a_1, mv_a_2, mv_a_3, mk2_n, mk2_i, mk2_l, mk2_a, mk2_u, mk2_x, mB_T, mB_F, mS_cons, mS_nil, mSB_T, mSB_F, mca_nil, mca_i, mca_l, mca_r, mca_u, mca_x, mcat_i, mcat_l, mcat_r, mcat_u, mcat_x, mK_some, mK_none, va_rf_s, va_rf_n, lgc_eq, lgc_lt, lgc_gt, lgc_ge, lgc_le, mrd_104, mrd_105, mrd_106, mrd_107, true_and, and_true, and_self, false_and, and_false, true_or, or_true, false_or, or_false, not_true_eq_false, not_false_eq_true, mgb, mga, mgr, mN, reduceCtorEq, ↓reduceIte, eq_self, ge_iff_le, gt_iff_lt, hk_J, hl_J, hn_J, hr_J, hi_J, hj_J, mg_J, s1, s2, s3, s4, hn, e3, ei, e20, nn_div2, nn_le, nn_eq, hk2, c]
      refine mw_J (fun q => ?_)
      unfold sw
      rw [sh_U_next]
      simp [c]
    · have u1 : sh_U s k (sc (2 * s) k) = false := sh_U_f (by omega) (by omega) (by omega) (by omega) (fun j' hj' hne => ⟨⟨fun z => by omega, fun z => by have := oc_b_h j'; omega⟩, fun z => by omega, fun z => by omega⟩)
      have u2 : sh_U s k (sc (2 * s + 1) k) = false := sh_U_f (by omega) (by omega) (by omega) (by omega) (fun j' hj' hne => ⟨⟨fun z => by omega, fun z => by omega⟩, fun z => by omega, fun z => by have := oc_b_h j'; omega⟩)
      have u3 : ¬ sc (2 * s + 1) k = sc (2 * s) k := fun z => by
        rcases sc_inj (by omega) (by omega) (by omega) (by omega) z with q | q
        · omega
        · have := oc_b_h k; omega
      have v1 := sw_un (f := sh_f s l u (mh_j h (o + 1))) (g := mh_j h (o + 1)) u1
      have v2 := sw_un (f := sh_f s l u (mh_j h (o + 1))) (g := mh_j h (o + 1)) u2
      have f1 : mh_j h (o + 1) (sc (2 * s) k) - l = sh_f s l u (mh_j h (o + 1)) (sc (2 * s) k) := by
        rw [sh_f_at (by omega) (by omega)]
        have b1 := oc_b_h k
        unfold sh_d sh_a
        rw [if_neg (by omega), if_pos rfl, if_neg (by omega), if_neg (by omega), Int64.add_zero, Int64.sub_eq_add_neg]
      have f2 : mh_j h (o + 1) (sc (2 * s + 1) k) + u = sh_f s l u (mh_j h (o + 1)) (sc (2 * s + 1) k) := by
        rw [sh_f_at (by omega) (by omega)]
        have b1 := oc_b_h k
        unfold sh_d sh_a
        rw [if_neg (by omega), if_neg (by omega), if_pos rfl, if_neg (by omega), if_neg (by omega), Int64.add_zero]
      rw [s_158_8]
      simp (disch := omega) only [s_158_0, s_158_1, s_158_2, s_158_3, s_158_5, s_158_6, s_158_10, s_158_11, s_158_12, s_158_15, s_158_16, s_158_19, s_158_21, s_158_22, s_158_23, s_158_24, s_158_27, s_158_28, s_158_31, s_158_33, s_158_35, s_158_38, s_158_38l, s_158_39, s_158_40, s_158_41, s_158_42, s_158_43, s_158_44, s_158_47, s_158_49, s_158_50, s_158_51, s_158_53, s_158_56, s_158_56l, s_158_57, s_158_58, s_158_60, s_158_61, s_158_62, s_158_65, s_158_68, s_158_69, s_158_72, s_158_74, s_158_76, s_158_77, s_158_78, s_158_81, s_158_81l, s_158_82, s_158_83, s_158_86, s_158_87, s_158_88, s_158_89, s_158_90, s_158_91, s_158_94, s_158_96, s_158_97, s_158_98, s_158_100, s_158_103, s_158_103l, s_158_104, s_158_105, s_158_108, s_158_110, s_158_111, s_158_112, s_158_113, e_158, mv_i_1, mv_l_1, mv_a_1, mv_a_2, mv_a_3, mk2_n, mk2_i, mk2_l, mk2_a, mk2_u, mk2_x, mB_T, mB_F, mS_cons, mS_nil, mSB_T, mSB_F, mca_nil, mca_i, mca_l, mca_r, mca_u, mca_x, mcat_i, mcat_l, mcat_r, mcat_u, mcat_x, mK_some, mK_none, va_rf_s, va_rf_n, lgc_eq, lgc_lt, lgc_gt, lgc_ge, lgc_le, mrd_104, mrd_105, mrd_106, mrd_107, true_and, and_true, and_self, false_and, and_false, true_or, or_true, false_or, or_false, not_true_eq_false, not_false_eq_true, mgb, mga, mgr, mN, reduceCtorEq, ↓reduceIte, eq_self, ge_iff_le, gt_iff_lt, hk_J, hl_J, hn_J, hr_J, hi_J, hj_J, mg_J, s1, s2, s3, s4, hn, e3, ei, e20, c_140, nn_div2, nn_le, nn_eq, nn_mxT, nn_clamp, hk2, c, v1, v2, u3, J_sj]
      refine mw_J (fun q => ?_)
      have p1 : ∀ q, (if q = sc (2 * s) k then mh_j h (o + 1) (sc (2 * s) k) - l else sw (sh_U s k) (sh_f s l u (mh_j h (o + 1))) (mh_j h (o + 1)) q) = sw (fun q => sh_U s k q || q == sc (2 * s) k) (sh_f s l u (mh_j h (o + 1))) (mh_j h (o + 1)) q := sw_put f1 (fun q => rfl)
      rw [p1 q]
      refine sw_put (V := sh_U s (k + 1)) f2 (fun q => ?_) q
      rw [sh_U_next]; simp [c, Bool.or_assoc])
  have i1 : mh_J h (o + 1) (sw (sh_U s 0) (sh_f s l u (mh_j h (o + 1))) (mh_j h (o + 1))) = h := (J_ext (fun q => rfl)).trans J_id
  rw [i1] at L1
  have hle : (2 * n ≤ 2 * n) = True := eq_true (Nat.le_refl _)
  have h1 := sc_lt (i := 2 * s) (j := 2 * s + 1) (by omega) (by omega)
  have h2 := sc_lt (i := 2 * s + 1) (j := 2 * s) (by omega) (by omega)
  have u1 : sh_U s (2 * n) (sc (2 * s) (2 * s + 1)) = false := sh_U_f (by omega) (by omega) (by omega) (by omega) (fun j' hj' hne => ⟨⟨fun z => by omega, fun z => by have := oc_b_h j'; omega⟩, fun z => by omega, fun z => by omega⟩)
  have u2 : sh_U s (2 * n) (sc (2 * s + 1) (2 * s)) = false := sh_U_f (by omega) (by omega) (by omega) (by omega) (fun j' hj' hne => ⟨⟨fun z => by omega, fun z => by omega⟩, fun z => by omega, fun z => by have := oc_b_h j'; omega⟩)
  have u3 : ¬ sc (2 * s + 1) (2 * s) = sc (2 * s) (2 * s + 1) := fun z => by
    rcases sc_inj (by omega) (by omega) (by omega) (by omega) z with q | q
    · omega
    · rw [oc_bo] at q; omega
  have v1 := sw_un (f := sh_f s l u (mh_j h (o + 1))) (g := mh_j h (o + 1)) u1
  have v2 := sw_un (f := sh_f s l u (mh_j h (o + 1))) (g := mh_j h (o + 1)) u2
  have f1 : mh_j h (o + 1) (sc (2 * s) (2 * s + 1)) - 2 * l = sh_f s l u (mh_j h (o + 1)) (sc (2 * s) (2 * s + 1)) := by
    rw [sh_f_at (by omega) (by omega)]
    unfold sh_d sh_a
    rw [if_neg (by omega), if_pos rfl, oc_bo, if_pos rfl, Int64.sub_eq_add_neg, show -(2 * l) = -l + -l by rw [Int64.two_mul, Int64.neg_add, Int64.sub_eq_add_neg]]
  have f2 : mh_j h (o + 1) (sc (2 * s + 1) (2 * s)) + 2 * u = sh_f s l u (mh_j h (o + 1)) (sc (2 * s + 1) (2 * s)) := by
    rw [sh_f_at (by omega) (by omega)]
    unfold sh_d sh_a
    rw [if_neg (by omega), if_neg (by omega), if_pos rfl, oc_be, if_neg (by omega), if_pos rfl, ← Int64.two_mul]
  simp (disch := omega) only [s_158_0, s_158_1, s_158_2, s_158_3, s_158_5, s_158_6, s_158_10, s_158_11, s_158_12, s_158_15, s_158_16, s_158_19, s_158_21, s_158_22, s_158_23, s_158_24, s_158_27, s_158_28, s_158_31, s_158_33, s_158_35, s_158_38, s_158_38l, s_158_39, s_158_40, s_158_41, s_158_42, s_158_43, s_158_44, s_158_47, s_158_49, s_158_50, s_158_51, s_158_53, s_158_56, s_158_56l, s_158_57, s_158_58, s_158_60, s_158_61, s_158_62, s_158_65, s_158_68, s_158_69, s_158_72, s_158_74, s_158_76, s_158_77, s_158_78, s_158_81, s_158_81l, s_158_82, s_158_83, s_158_86, s_158_87, s_158_88, s_158_89, s_158_90, s_158_91, s_158_94, s_158_96, s_158_97, s_158_98, s_158_100, s_158_103, s_158_103l, s_158_104, s_158_105, s_158_108, s_158_110, s_158_111, s_158_112, s_158_113, e_158, mv_i_1, mv_l_1, mv_a_1, mv_a_2, mv_a_3, mk2_n, mk2_i, mk2_l, mk2_a, mk2_u, mk2_x, mB_T, mB_F, mS_cons, mS_nil, mSB_T, mSB_F, mca_nil, mca_i, mca_l, mca_r, mca_u, mca_x, mcat_i, mcat_l, mcat_r, mcat_u, mcat_x, mK_some, mK_none, va_rf_s, va_rf_n, lgc_eq, lgc_lt, lgc_gt, lgc_ge, lgc_le, mrd_104, mrd_105, mrd_106, mrd_107, true_and, and_true, and_self, false_and, and_false, true_or, or_true, false_or, or_false, not_true_eq_false, not_false_eq_true, mgb, mga, mgr, mN, reduceCtorEq, ↓reduceIte, eq_self, ge_iff_le, gt_iff_lt, e3]
  refine Eq.trans L1 ?_
  rw [s_158_8]
  simp (disch := omega) only [s_158_0, s_158_1, s_158_2, s_158_3, s_158_5, s_158_6, s_158_8, s_158_10, s_158_11, s_158_12, s_158_15, s_158_16, s_158_19, s_158_21, s_158_22, s_158_23, s_158_24, s_158_27, s_158_28, s_158_31, s_158_33, s_158_35, s_158_38, s_158_38l, s_158_39, s_158_40, s_158_41, s_158_42, s_158_43, s_158_44, s_158_47, s_158_49, s_158_50, s_158_51, s_158_53, s_158_56, s_158_56l, s_158_57, s_158_58, s_158_60, s_158_61, s_158_62, s_158_65, s_158_68, s_158_69, s_158_72, s_158_74, s_158_76, s_158_77, s_158_78, s_158_81, s_158_81l, s_158_82, s_158_83, s_158_86, s_158_87, s_158_88, s_158_89, s_158_90, s_158_91, s_158_94, s_158_96, s_158_97, s_158_98, s_158_100, s_158_103, s_158_103l, s_158_104, s_158_105, s_158_108, s_158_110, s_158_111, s_158_112, s_158_113, e_158, mv_i_1, mv_l_1, mv_a_1, mv_a_2, mv_a_3, mk2_n, mk2_i, mk2_l, mk2_a, mk2_u, mk2_x, mB_T, mB_F, mS_cons, mS_nil, mSB_T, mSB_F, mca_nil, mca_i, mca_l, mca_r, mca_u, mca_x, mcat_i, mcat_l, mcat_r, mcat_u, mcat_x, mK_some, mK_none, va_rf_s, va_rf_n, lgc_eq, lgc_lt, lgc_gt, lgc_ge, lgc_le, mrd_104, mrd_105, mrd_106, mrd_107, true_and, and_true, and_self, false_and, and_false, true_or, or_true, false_or, or_false, not_true_eq_false, not_false_eq_true, mgb, mga, mgr, mN, reduceCtorEq, ↓reduceIte, eq_self, ge_iff_le, gt_iff_lt, hk_J, hl_J, hn_J, hr_J, hi_J, hj_J, mg_J, s1, s2, s3, s4, hn, e3, ei, c_140, nn_le, nn_mxT, nn_clamp, hle, v1, v2, u3, J_sj]
  congr 1
  refine J_ext (fun q => ?_)
  have p1 : ∀ q, (if q = sc (2 * s) (2 * s + 1) then mh_j h (o + 1) (sc (2 * s) (2 * s + 1)) - 2 * l else sw (sh_U s (2 * n)) (sh_f s l u (mh_j h (o + 1))) (mh_j h (o + 1)) q) = sw (fun q => sh_U s (2 * n) q || q == sc (2 * s) (2 * s + 1)) (sh_f s l u (mh_j h (o + 1))) (mh_j h (o + 1)) q := sw_put f1 (fun q => rfl)
  rw [p1 q]
  exact sw_put (V := sh_V s n) f2 (fun q => rfl) q
/-- a slot's two signs changed -/
def ng_t (s i : Nat) : Nat := if i / 2 = s then oc_b i else i
theorem ng_tb (s i : Nat) : ng_t s (oc_b i) = oc_b (ng_t s i) := by unfold ng_t; rw [oc_b_h]; split <;> rfl
theorem ng_th (s i : Nat) : ng_t s i / 2 = i / 2 := by unfold ng_t; split; exact oc_b_h i; rfl
def ng_f (s : Nat) (g : Nat → Int64) (q : Nat) : Int64 := g (sc (ng_t s (sc_i q)) (ng_t s (sc_j q)))
theorem ng_f_at {s : Nat} {g : Nat → Int64} {i j : Nat} (hi : i < 24) (hj : j < 24) : ng_f s g (sc i j) = g (sc (ng_t s i) (ng_t s j)) := by
  unfold ng_f
  rcases sc_of hi hj with ⟨e1, e2⟩ | ⟨e1, e2, e3⟩
  · rw [e1, e2]
  · rw [e1, e2, ng_tb, ng_tb]
    have h1 := oc_1_eq i
    rw [sc_turn]
    rw [ng_th, ng_th]; omega
/-- State.negate -/
theorem c_156 {d : Nat} {Q : Option Value → mh_H → Prop} {h : mh_H} {o n s : Nat} (hs : so h o) (hn : mh_i h o 1 = Int32.ofNat n) (hn2 : n ≤ 12) (hs2 : s < n) : mcall (d + 1) 156 [.ref o, .int (Int32.ofNat s)] h Q = Q none (mh_J h (o + 1) (sw (sh_V s n) (ng_f s (mh_j h (o + 1))) (mh_j h (o + 1)))) := by
  have hs' := hs
  obtain ⟨s1, s2, s3, s4, s5, s6, s7⟩ := hs
  have ei : ∀ k, Int32.ofNat k + 1 = Int32.ofNat (k + 1) := fun k => nn_add (a := k) (b := 1)
  have e3 : ∀ k, (2 : Int32) * Int32.ofNat k = Int32.ofNat (2 * k) := fun k => nn_mul (a := 2) (b := k)
  have e20 : ((2 : Int32) = 0) = False := by decide
  have tE : ng_t s (2 * s) = 2 * s + 1 := by unfold ng_t; rw [if_pos (by omega), oc_be]
  have tO : ng_t s (2 * s + 1) = 2 * s := by unfold ng_t; rw [if_pos (by omega), oc_bo]
  have cs := fun (f : Nat → Int64) (a b : Nat) (ha : a < 312) (hb : b < 312) (Q' : Option Value → mh_H → Prop) => c_157 (d := d) (Q := Q') (h := mh_J h (o + 1) f) (o := o) (a := a) (b := b) hs' ha hb
  have L1 := mw_loop (d := d + 1) (y := 156) (pc := 6) (Q := Q) (st := []) (fun k => [some (.ref o), some (.int (Int32.ofNat s)), some (.int (Int32.ofNat (2 * s))), some (.int (Int32.ofNat k))]) (fun k => mh_J h (o + 1) (sw (sh_U s k) (ng_f s (mh_j h (o + 1))) (mh_j h (o + 1)))) (a := 0) (b := 2 * n) (Nat.zero_le _) (fun k _ hk => by
    have hk2 : ¬ 2 * n ≤ k := by omega
    have h1 := sc_lt (i := 2 * s) (j := k) (by omega) (by omega)
    have h2 := sc_lt (i := 2 * s + 1) (j := k) (by omega) (by omega)
    by_cases c : k / 2 = s
    · rw [s_156_6]
      simp (disch := omega) only [s_156_0, s_156_1, s_156_2, s_156_3, s_156_4, s_156_5, s_156_7, s_156_8, s_156_9, s_156_12, s_156_13, s_156_16, s_156_17, s_156_18, s_156_19, s_156_20, s_156_23, s_156_24, s_156_25, s_156_26, s_156_29, s_156_30, s_156_31, s_156_32, s_156_33, s_156_36, s_156_39, s_156_42, s_156_45, s_156_46, s_156_47, s_156_48, s_156_49, s_156_50, s_156_53, s_156_54, s_156_55, s_156_56, s_156_57, s_156_60, s_156_63, e_156, mv_i_1, mv_l_1, mv_a_1, mv_a_2, mv_a_3, mk2_n, mk2_i, mk2_l, mk2_a, mk2_u, mk2_x, mB_T, mB_F, mS_cons, mS_nil, mSB_T, mSB_F, mca_nil, mca_i, mca_l, mca_r, mca_u, mca_x, mcat_i, mcat_l, mcat_r, mcat_u, mcat_x, mK_some, mK_none, va_rf_s, va_rf_n, lgc_eq, lgc_lt, lgc_gt, lgc_ge, lgc_le, mrd_104, mrd_105, mrd_106, mrd_107, true_and, and_true, and_self, false_and, and_false, true_or, or_true, false_or, or_false, not_true_eq_false, not_false_eq_true, mgb, mga, mgr, mN, reduceCtorEq, ↓reduceIte, eq_self, ge_iff_le, gt_iff_lt, hi_J, mg_J, s1, hn, e3, ei, e20, nn_div2, nn_le, nn_eq, hk2, c]
      refine mw_J (fun q => ?_)
      unfold sw
      rw [sh_U_next]
      simp [c]
    · have tk : ng_t s k = k := by unfold ng_t; rw [if_neg c]
      have u1 : sh_U s k (sc (2 * s) k) = false := sh_U_f (by omega) (by omega) (by omega) (by omega) (fun j' hj' hne => ⟨⟨fun z => by omega, fun z => by have := oc_b_h j'; omega⟩, fun z => by omega, fun z => by omega⟩)
      have u2 : sh_U s k (sc (2 * s + 1) k) = false := sh_U_f (by omega) (by omega) (by omega) (by omega) (fun j' hj' hne => ⟨⟨fun z => by omega, fun z => by omega⟩, fun z => by omega, fun z => by have := oc_b_h j'; omega⟩)
      have v1 := sw_un (f := ng_f s (mh_j h (o + 1))) (g := mh_j h (o + 1)) u1
      have v2 := sw_un (f := ng_f s (mh_j h (o + 1))) (g := mh_j h (o + 1)) u2
      have f1 : mh_j h (o + 1) (sc (2 * s + 1) k) = ng_f s (mh_j h (o + 1)) (sc (2 * s) k) := by rw [ng_f_at (by omega) (by omega), tE, tk]
      have f2 : mh_j h (o + 1) (sc (2 * s) k) = ng_f s (mh_j h (o + 1)) (sc (2 * s + 1) k) := by rw [ng_f_at (by omega) (by omega), tO, tk]
      rw [s_156_6]
      simp (disch := omega) only [s_156_0, s_156_1, s_156_2, s_156_3, s_156_4, s_156_5, s_156_7, s_156_8, s_156_9, s_156_12, s_156_13, s_156_16, s_156_17, s_156_18, s_156_19, s_156_20, s_156_23, s_156_24, s_156_25, s_156_26, s_156_29, s_156_30, s_156_31, s_156_32, s_156_33, s_156_36, s_156_39, s_156_42, s_156_45, s_156_46, s_156_47, s_156_48, s_156_49, s_156_50, s_156_53, s_156_54, s_156_55, s_156_56, s_156_57, s_156_60, s_156_63, e_156, mv_i_1, mv_l_1, mv_a_1, mv_a_2, mv_a_3, mk2_n, mk2_i, mk2_l, mk2_a, mk2_u, mk2_x, mB_T, mB_F, mS_cons, mS_nil, mSB_T, mSB_F, mca_nil, mca_i, mca_l, mca_r, mca_u, mca_x, mcat_i, mcat_l, mcat_r, mcat_u, mcat_x, mK_some, mK_none, va_rf_s, va_rf_n, lgc_eq, lgc_lt, lgc_gt, lgc_ge, lgc_le, mrd_104, mrd_105, mrd_106, mrd_107, true_and, and_true, and_self, false_and, and_false, true_or, or_true, false_or, or_false, not_true_eq_false, not_false_eq_true, mgb, mga, mgr, mN, reduceCtorEq, ↓reduceIte, eq_self, ge_iff_le, gt_iff_lt, hi_J, hj_J, mg_J, s1, hn, e3, ei, e20, c_140, cs, nn_div2, nn_le, nn_eq, hk2, c, v1, v2, J_J]
      refine mw_J (fun q => ?_)
      have p1 : ∀ q, (if q = sc (2 * s) k then mh_j h (o + 1) (sc (2 * s + 1) k) else sw (sh_U s k) (ng_f s (mh_j h (o + 1))) (mh_j h (o + 1)) q) = sw (fun q => sh_U s k q || q == sc (2 * s) k) (ng_f s (mh_j h (o + 1))) (mh_j h (o + 1)) q := sw_put f1 (fun q => rfl)
      rw [p1 q]
      refine sw_put (V := sh_U s (k + 1)) f2 (fun q => ?_) q
      rw [sh_U_next]; simp [c, Bool.or_assoc])
  have i1 : mh_J h (o + 1) (sw (sh_U s 0) (ng_f s (mh_j h (o + 1))) (mh_j h (o + 1))) = h := (J_ext (fun q => rfl)).trans J_id
  rw [i1] at L1
  have hle : (2 * n ≤ 2 * n) = True := eq_true (Nat.le_refl _)
  have h1 := sc_lt (i := 2 * s) (j := 2 * s + 1) (by omega) (by omega)
  have h2 := sc_lt (i := 2 * s + 1) (j := 2 * s) (by omega) (by omega)
  have u1 : sh_U s (2 * n) (sc (2 * s) (2 * s + 1)) = false := sh_U_f (by omega) (by omega) (by omega) (by omega) (fun j' hj' hne => ⟨⟨fun z => by omega, fun z => by have := oc_b_h j'; omega⟩, fun z => by omega, fun z => by omega⟩)
  have u2 : sh_U s (2 * n) (sc (2 * s + 1) (2 * s)) = false := sh_U_f (by omega) (by omega) (by omega) (by omega) (fun j' hj' hne => ⟨⟨fun z => by omega, fun z => by omega⟩, fun z => by omega, fun z => by have := oc_b_h j'; omega⟩)
  have v1 := sw_un (f := ng_f s (mh_j h (o + 1))) (g := mh_j h (o + 1)) u1
  have v2 := sw_un (f := ng_f s (mh_j h (o + 1))) (g := mh_j h (o + 1)) u2
  have f1 : mh_j h (o + 1) (sc (2 * s + 1) (2 * s)) = ng_f s (mh_j h (o + 1)) (sc (2 * s) (2 * s + 1)) := by rw [ng_f_at (by omega) (by omega), tE, tO]
  have f2 : mh_j h (o + 1) (sc (2 * s) (2 * s + 1)) = ng_f s (mh_j h (o + 1)) (sc (2 * s + 1) (2 * s)) := by rw [ng_f_at (by omega) (by omega), tO, tE]
  simp (disch := omega) only [s_156_0, s_156_1, s_156_2, s_156_3, s_156_4, s_156_5, s_156_7, s_156_8, s_156_9, s_156_12, s_156_13, s_156_16, s_156_17, s_156_18, s_156_19, s_156_20, s_156_23, s_156_24, s_156_25, s_156_26, s_156_29, s_156_30, s_156_31, s_156_32, s_156_33, s_156_36, s_156_39, s_156_42, s_156_45, s_156_46, s_156_47, s_156_48, s_156_49, s_156_50, s_156_53, s_156_54, s_156_55, s_156_56, s_156_57, s_156_60, s_156_63, e_156, mv_i_1, mv_l_1, mv_a_1, mv_a_2, mv_a_3, mk2_n, mk2_i, mk2_l, mk2_a, mk2_u, mk2_x, mB_T, mB_F, mS_cons, mS_nil, mSB_T, mSB_F, mca_nil, mca_i, mca_l, mca_r, mca_u, mca_x, mcat_i, mcat_l, mcat_r, mcat_u, mcat_x, mK_some, mK_none, va_rf_s, va_rf_n, lgc_eq, lgc_lt, lgc_gt, lgc_ge, lgc_le, mrd_104, mrd_105, mrd_106, mrd_107, true_and, and_true, and_self, false_and, and_false, true_or, or_true, false_or, or_false, not_true_eq_false, not_false_eq_true, mgb, mga, mgr, mN, reduceCtorEq, ↓reduceIte, eq_self, ge_iff_le, gt_iff_lt, e3]
  refine Eq.trans L1 ?_
  rw [s_156_6]
  simp (disch := omega) only [s_156_0, s_156_1, s_156_2, s_156_3, s_156_4, s_156_5, s_156_6, s_156_7, s_156_8, s_156_9, s_156_12, s_156_13, s_156_16, s_156_17, s_156_18, s_156_19, s_156_20, s_156_23, s_156_24, s_156_25, s_156_26, s_156_29, s_156_30, s_156_31, s_156_32, s_156_33, s_156_36, s_156_39, s_156_42, s_156_45, s_156_46, s_156_47, s_156_48, s_156_49, s_156_50, s_156_53, s_156_54, s_156_55, s_156_56, s_156_57, s_156_60, s_156_63, e_156, mv_i_1, mv_l_1, mv_a_1, mv_a_2, mv_a_3, mk2_n, mk2_i, mk2_l, mk2_a, mk2_u, mk2_x, mB_T, mB_F, mS_cons, mS_nil, mSB_T, mSB_F, mca_nil, mca_i, mca_l, mca_r, mca_u, mca_x, mcat_i, mcat_l, mcat_r, mcat_u, mcat_x, mK_some, mK_none, va_rf_s, va_rf_n, lgc_eq, lgc_lt, lgc_gt, lgc_ge, lgc_le, mrd_104, mrd_105, mrd_106, mrd_107, true_and, and_true, and_self, false_and, and_false, true_or, or_true, false_or, or_false, not_true_eq_false, not_false_eq_true, mgb, mga, mgr, mN, reduceCtorEq, ↓reduceIte, eq_self, ge_iff_le, gt_iff_lt, hi_J, hj_J, mg_J, s1, hn, e3, ei, c_140, cs, nn_le, hle, v1, v2, J_J]
  congr 1
  refine J_ext (fun q => ?_)
  have p1 : ∀ q, (if q = sc (2 * s) (2 * s + 1) then mh_j h (o + 1) (sc (2 * s + 1) (2 * s)) else sw (sh_U s (2 * n)) (ng_f s (mh_j h (o + 1))) (mh_j h (o + 1)) q) = sw (fun q => sh_U s (2 * n) q || q == sc (2 * s) (2 * s + 1)) (ng_f s (mh_j h (o + 1))) (mh_j h (o + 1)) q := sw_put f1 (fun q => rfl)
  rw [p1 q]
  exact sw_put (V := sh_V s n) f2 (fun q => rfl) q
theorem sw_cg {U V : Nat → Bool} {f g : Nat → Int64} (e : ∀ q, U q = V q) (q : Nat) : sw U f g q = sw V f g q := by unfold sw; rw [e q]
/-- what stands of a slot's bounds when it is unbound -/
def ub_m (s : Nat) (g : Nat → Int64) (i j : Nat) : Int64 := if i = j then 0 else if i / 2 = j / 2 then 2 * sg (oc_b i) else if i / 2 = s then sg (oc_b i) + au_h g j else sg j + au_h g (oc_b i)
def ub_f (s : Nat) (g : Nat → Int64) (q : Nat) : Int64 := ub_m s g (sc_i q) (sc_j q)
theorem ub_f_at {s : Nat} {g : Nat → Int64} {i j : Nat} (hi : i < 24) (hj : j < 24) (hs : i / 2 = s ∨ j / 2 = s) : ub_f s g (sc i j) = ub_m s g i j := by
  unfold ub_f
  rcases sc_of hi hj with ⟨e1, e2⟩ | ⟨e1, e2, e3⟩
  · rw [e1, e2]
  · rw [e1, e2]
    have h1 := oc_1_eq i
    have ne : ¬ i / 2 = j / 2 := by omega
    have b1 := oc_b_h i
    have b2 := oc_b_h j
    unfold ub_m
    rw [if_neg (show ¬ oc_b j = oc_b i by omega), if_neg (show ¬ oc_b j / 2 = oc_b i / 2 by omega), if_neg (show ¬ i = j by omega), if_neg ne, sc_bb, b2]
    by_cases c : i / 2 = s
    · rw [if_pos c, if_neg (show ¬ j / 2 = s by omega)]
    · rw [if_neg c, if_pos (show j / 2 = s by omega)]
def ub_U (s i k q : Nat) : Bool := (q == sc i i || q == sc i (oc_b i)) || (List.range k).any fun j => decide (¬ j / 2 = s) && q == sc i j
theorem ub_U_next {s i k q : Nat} : ub_U s i (k + 1) q = (ub_U s i k q || (decide (¬ k / 2 = s) && q == sc i k)) := by unfold ub_U; rw [List.range_succ, List.any_append]; simp [Bool.or_assoc]
/-- bounds of other slots are not touched -/
theorem ub_U_f {s i k a b : Nat} (hi : i < 24) (hk : k ≤ 24) (his : i / 2 = s) (ha : a < 24) (hb : b < 24) (ha2 : ¬ a / 2 = s) (hb2 : ¬ b / 2 = s) : ub_U s i k (sc a b) = false := by
  have no : ∀ j, j < 24 → ¬ sc a b = sc i j := fun j hj z => by
    rcases sc_inj ha hb hi hj z with q | q
    · omega
    · have := oc_b_h i; omega
  unfold ub_U
  rw [show (sc a b == sc i i) = false by simpa using no i hi, show (sc a b == sc i (oc_b i)) = false by simpa using no _ (oc_b24 hi), Bool.or_self, Bool.false_or, List.any_eq_false]
  intro j hj
  have hj := List.mem_range.mp hj
  simp only [Bool.and_eq_true, beq_iff_eq, not_and]
  intro _; exact no j (by omega)
section UB
variable {d : Nat} {Q : Option Value → mh_H → Prop} {h : mh_H} {o n s : Nat}
theorem ub_in (hs : so h o) (hn : mh_i h o 1 = Int32.ofNat n) (hn2 : n ≤ 12) (hs2 : s < n) {i : Nat} (hi : i = 2 * s ∨ i = 2 * s + 1) (W : Nat → Bool) (hW : ∀ j, j < 2 * n → ¬ j / 2 = s → W (sc (oc_b j) j) = false) : mw (d + 1) 155 Q 48 [some (.ref o), some (.int (Int32.ofNat s)), some (.int (Int32.ofNat i)), some (.int (Int32.ofNat 0))] [] (mh_J h (o + 1) (sw (fun q => W q || ub_U s i 0 q) (ub_f s (mh_j h (o + 1))) (mh_j h (o + 1)))) = mw (d + 1) 155 Q 48 [some (.ref o), some (.int (Int32.ofNat s)), some (.int (Int32.ofNat i)), some (.int (Int32.ofNat (2 * n)))] [] (mh_J h (o + 1) (sw (fun q => W q || ub_U s i (2 * n) q) (ub_f s (mh_j h (o + 1))) (mh_j h (o + 1)))) := by
  have hs' := hs
  obtain ⟨s1, s2, s3, s4, s5, s6, s7⟩ := hs
  have ei : ∀ k, Int32.ofNat k + 1 = Int32.ofNat (k + 1) := fun k => nn_add (a := k) (b := 1)
  have e3 : ∀ k, (2 : Int32) * Int32.ofNat k = Int32.ofNat (2 * k) := fun k => nn_mul (a := 2) (b := k)
  have e20 : ((2 : Int32) = 0) = False := by decide
  have his : i / 2 = s := by omega
  have hb := oc_b24 (a := i) (by omega)
  have cg := fun (f : Nat → Int64) (v : Nat) (hv : v < 24) (Q' : Option Value → mh_H → Prop) => c_146 (d := d) (Q := Q') (h := mh_J h (o + 1) f) (o := o) (v := v) (w := v) hs' hv hv
  exact mw_loop (d := d + 1) (y := 155) (pc := 48) (Q := Q) (st := []) (fun k => [some (.ref o), some (.int (Int32.ofNat s)), some (.int (Int32.ofNat i)), some (.int (Int32.ofNat k))]) (fun k => mh_J h (o + 1) (sw (fun q => W q || ub_U s i k q) (ub_f s (mh_j h (o + 1))) (mh_j h (o + 1)))) (a := 0) (b := 2 * n) (Nat.zero_le _) (fun k _ hk => by
    have hk2 : ¬ 2 * n ≤ k := by omega
    have h1 := sc_lt (i := i) (j := k) (by omega) (by omega)
    by_cases c : k / 2 = s
    · rw [s_155_48]
      simp (disch := omega) only [s_155_0, s_155_1, s_155_2, s_155_3, s_155_4, s_155_5, s_155_6, s_155_7, s_155_8, s_155_9, s_155_10, s_155_13, s_155_14, s_155_17, s_155_18, s_155_19, s_155_22, s_155_23, s_155_24, s_155_25, s_155_28, s_155_29, s_155_30, s_155_31, s_155_32, s_155_35, s_155_38, s_155_39, s_155_40, s_155_41, s_155_44, s_155_45, s_155_46, s_155_47, s_155_49, s_155_50, s_155_51, s_155_54, s_155_55, s_155_58, s_155_59, s_155_60, s_155_61, s_155_62, s_155_65, s_155_66, s_155_69, s_155_70, s_155_71, s_155_74, s_155_75, s_155_76, s_155_77, s_155_80, s_155_81, s_155_82, s_155_83, s_155_86, s_155_87, s_155_88, s_155_91, s_155_94, s_155_97, s_155_100, e_155, mv_i_1, mv_l_1, mv_a_1, mv_a_2, mv_a_3, mk2_n, mk2_i, mk2_l, mk2_a, mk2_u, mk2_x, mB_T, mB_F, mS_cons, mS_nil, mSB_T, mSB_F, mca_nil, mca_i, mca_l, mca_r, mca_u, mca_x, mcat_i, mcat_l, mcat_r, mcat_u, mcat_x, mK_some, mK_none, va_rf_s, va_rf_n, lgc_eq, lgc_lt, lgc_gt, lgc_ge, lgc_le, mrd_104, mrd_105, mrd_106, mrd_107, true_and, and_true, and_self, false_and, and_false, true_or, or_true, false_or, or_false, not_true_eq_false, not_false_eq_true, mgb, mga, mgr, mN, reduceCtorEq, ↓reduceIte, eq_self, ge_iff_le, gt_iff_lt, hi_J, mg_J, s1, hn, e3, ei, e20, nn_div2, nn_le, nn_eq, hk2, c]
      exact mw_J (fun q => sw_cg (fun q => by rw [ub_U_next]; simp [c]) q)
    · have bk := oc_b_h k
      have u1 : (W (sc (oc_b k) k) || ub_U s i k (sc (oc_b k) k)) = false := by
        rw [hW k hk c, ub_U_f (by omega) (by omega) his (oc_b24 (by omega)) (by omega) (by omega) c]; rfl
      have v1 := sw_un (U := fun q => W q || ub_U s i k q) (f := ub_f s (mh_j h (o + 1))) (g := mh_j h (o + 1)) u1
      have f1 : sg (oc_b i) + mh_j h (o + 1) (sc (oc_b k) k) / 2 = ub_f s (mh_j h (o + 1)) (sc i k) := by
        rw [ub_f_at (by omega) (by omega) (Or.inl his)]
        unfold ub_m
        rw [if_neg (by omega), if_neg (by omega), if_pos his]; rfl
      rw [s_155_48]
      simp (disch := omega) only [s_155_0, s_155_1, s_155_2, s_155_3, s_155_4, s_155_5, s_155_6, s_155_7, s_155_8, s_155_9, s_155_10, s_155_13, s_155_14, s_155_17, s_155_18, s_155_19, s_155_22, s_155_23, s_155_24, s_155_25, s_155_28, s_155_29, s_155_30, s_155_31, s_155_32, s_155_35, s_155_38, s_155_39, s_155_40, s_155_41, s_155_44, s_155_45, s_155_46, s_155_47, s_155_49, s_155_50, s_155_51, s_155_54, s_155_55, s_155_58, s_155_59, s_155_60, s_155_61, s_155_62, s_155_65, s_155_66, s_155_69, s_155_70, s_155_71, s_155_74, s_155_75, s_155_76, s_155_77, s_155_80, s_155_81, s_155_82, s_155_83, s_155_86, s_155_87, s_155_88, s_155_91, s_155_94, s_155_97, s_155_100, e_155, mv_i_1, mv_l_1, mv_a_1, mv_a_2, mv_a_3, mk2_n, mk2_i, mk2_l, mk2_a, mk2_u, mk2_x, mB_T, mB_F, mS_cons, mS_nil, mSB_T, mSB_F, mca_nil, mca_i, mca_l, mca_r, mca_u, mca_x, mcat_i, mcat_l, mcat_r, mcat_u, mcat_x, mK_some, mK_none, va_rf_s, va_rf_n, lgc_eq, lgc_lt, lgc_gt, lgc_ge, lgc_le, mrd_104, mrd_105, mrd_106, mrd_107, true_and, and_true, and_self, false_and, and_false, true_or, or_true, false_or, or_false, not_true_eq_false, not_false_eq_true, mgb, mga, mgr, mN, reduceCtorEq, ↓reduceIte, eq_self, ge_iff_le, gt_iff_lt, hk_J, hl_J, hn_J, hr_J, hi_J, hj_J, mg_J, s1, s2, s3, s4, hn, e3, ei, e20, c_140, c_141, cg, sb, nn_xor1, nn_div2, nn_le, nn_eq, nn_mxT, nn_clamp, hk2, c, v1, J_sj]
      refine mw_J (fun q => ?_)
      refine sw_put (V := fun q => W q || ub_U s i (k + 1) q) f1 (fun q => ?_) q
      rw [ub_U_next]; simp [c, Bool.or_assoc])
/-- State.unbind -/
def ub_V (s n q : Nat) : Bool := ub_U s (2 * s) (2 * n) q || ub_U s (2 * s + 1) (2 * n) q
theorem c_155 (hs : so h o) (hn : mh_i h o 1 = Int32.ofNat n) (hn2 : n ≤ 12) (hs2 : s < n) : mcall (d + 1) 155 [.ref o, .int (Int32.ofNat s)] h Q = Q none (mh_J h (o + 1) (sw (ub_V s n) (ub_f s (mh_j h (o + 1))) (mh_j h (o + 1)))) := by
  have hs' := hs
  obtain ⟨s1, s2, s3, s4, s5, s6, s7⟩ := hs
  have ei : ∀ k, Int32.ofNat k + 1 = Int32.ofNat (k + 1) := fun k => nn_add (a := k) (b := 1)
  have e3 : ∀ k, (2 : Int32) * Int32.ofNat k = Int32.ofNat (2 * k) := fun k => nn_mul (a := 2) (b := k)
  have hle : (2 * n ≤ 2 * n) = True := eq_true (Nat.le_refl _)
  have L1 := ub_in (d := d) (Q := Q) hs' hn hn2 hs2 (i := 2 * s) (Or.inl rfl) (fun _ => false) (fun _ _ _ => rfl)
  have L2 := ub_in (d := d) (Q := Q) hs' hn hn2 hs2 (i := 2 * s + 1) (Or.inr rfl) (ub_U s (2 * s) (2 * n)) (fun j hj hne => ub_U_f (by omega) (by omega) (by omega) (oc_b24 (by omega)) (by omega) (by have := oc_b_h j; omega) hne)
  -- the first two places of a sign
  have F : ∀ (i : Nat) (W : Nat → Bool), (i = 2 * s ∨ i = 2 * s + 1) → ∀ q, (if q = sc i (oc_b i) then 2 * sg (oc_b i) else if q = sc i i then 0 else sw W (ub_f s (mh_j h (o + 1))) (mh_j h (o + 1)) q) = sw (fun q => W q || ub_U s i 0 q) (ub_f s (mh_j h (o + 1))) (mh_j h (o + 1)) q := by
    intro i W hi q
    have his : i / 2 = s := by omega
    have hb := oc_b24 (a := i) (by omega)
    have f1 : (0 : Int64) = ub_f s (mh_j h (o + 1)) (sc i i) := by rw [ub_f_at (by omega) (by omega) (Or.inl his)]; unfold ub_m; rw [if_pos rfl]
    have f2 : 2 * sg (oc_b i) = ub_f s (mh_j h (o + 1)) (sc i (oc_b i)) := by
      rw [ub_f_at (by omega) hb (Or.inl his)]; unfold ub_m
      rw [if_neg (fun z => oc_bn i z.symm), if_pos (oc_b_h i).symm]
    have p1 : ∀ q, (if q = sc i i then (0 : Int64) else sw W (ub_f s (mh_j h (o + 1))) (mh_j h (o + 1)) q) = sw (fun q => W q || q == sc i i) (ub_f s (mh_j h (o + 1))) (mh_j h (o + 1)) q := sw_put f1 (fun q => rfl)
    rw [p1 q]
    refine sw_put (V := fun q => W q || ub_U s i 0 q) f2 (fun q => ?_) q
    unfold ub_U; simp [Bool.or_assoc]
  have hb1 := oc_b24 (a := 2 * s) (by omega)
  have hb2 := oc_b24 (a := 2 * s + 1) (by omega)
  have a1 := sc_lt (i := 2 * s) (j := 2 * s) (by omega) (by omega)
  have a2 := sc_lt (i := 2 * s) (j := oc_b (2 * s)) (by omega) hb1
  have a3 := sc_lt (i := 2 * s + 1) (j := 2 * s + 1) (by omega) (by omega)
  have a4 := sc_lt (i := 2 * s + 1) (j := oc_b (2 * s + 1)) (by omega) hb2
  have i0 : mh_J h (o + 1) (sw (fun _ => false) (ub_f s (mh_j h (o + 1))) (mh_j h (o + 1))) = h := (J_ext (fun q => rfl)).trans J_id
  have c1 : ¬ 2 * s + 1 < 2 * s := by omega
  have c2 : ¬ 2 * s + 1 < 2 * s + 1 := by omega
  have c3 : 2 * s + 1 < 2 * s + 2 := by omega
  have E1 : mcall (d + 1) 155 [.ref o, .int (Int32.ofNat s)] h Q = mw (d + 1) 155 Q 48 [some (.ref o), some (.int (Int32.ofNat s)), some (.int (Int32.ofNat (2 * s))), some (.int (Int32.ofNat 0))] [] (mh_J h (o + 1) (sw (fun q => false || ub_U s (2 * s) 0 q) (ub_f s (mh_j h (o + 1))) (mh_j h (o + 1)))) := by
    conv => lhs; rw [← i0]
    simp (disch := omega) only [s_155_0, s_155_1, s_155_2, s_155_3, s_155_4, s_155_5, s_155_6, s_155_7, s_155_8, s_155_9, s_155_10, s_155_13, s_155_14, s_155_17, s_155_18, s_155_19, s_155_22, s_155_23, s_155_24, s_155_25, s_155_28, s_155_29, s_155_30, s_155_31, s_155_32, s_155_35, s_155_38, s_155_39, s_155_40, s_155_41, s_155_44, s_155_45, s_155_46, s_155_47, s_155_49, s_155_50, s_155_51, s_155_54, s_155_55, s_155_58, s_155_59, s_155_60, s_155_61, s_155_62, s_155_65, s_155_66, s_155_69, s_155_70, s_155_71, s_155_74, s_155_75, s_155_76, s_155_77, s_155_80, s_155_81, s_155_82, s_155_83, s_155_86, s_155_87, s_155_88, s_155_91, s_155_94, s_155_97, s_155_100, e_155, mv_i_1, mv_l_1, mv_a_1, mv_a_2, mv_a_3, mk2_n, mk2_i, mk2_l, mk2_a, mk2_u, mk2_x, mB_T, mB_F, mS_cons, mS_nil, mSB_T, mSB_F, mca_nil, mca_i, mca_l, mca_r, mca_u, mca_x, mcat_i, mcat_l, mcat_r, mcat_u, mcat_x, mK_some, mK_none, va_rf_s, va_rf_n, lgc_eq, lgc_lt, lgc_gt, lgc_ge, lgc_le, mrd_104, mrd_105, mrd_106, mrd_107, true_and, and_true, and_self, false_and, and_false, true_or, or_true, false_or, or_false, not_true_eq_false, not_false_eq_true, mgb, mga, mgr, mN, reduceCtorEq, ↓reduceIte, eq_self, ge_iff_le, gt_iff_lt, hk_J, hl_J, hn_J, hr_J, hi_J, hj_J, mg_J, s1, s2, s3, s4, e3, ei, c_140, c_141, nn_xor1, nn_lt, nn_mxT, nn_clamp, c1, J_sj]
    exact mw_J (F (2 * s) (fun _ => false) (Or.inl rfl))
  refine E1.trans (L1.trans ?_)
  have E2 : mw (d + 1) 155 Q 48 [some (.ref o), some (.int (Int32.ofNat s)), some (.int (Int32.ofNat (2 * s))), some (.int (Int32.ofNat (2 * n)))] [] (mh_J h (o + 1) (sw (fun q => false || ub_U s (2 * s) (2 * n) q) (ub_f s (mh_j h (o + 1))) (mh_j h (o + 1)))) = mw (d + 1) 155 Q 48 [some (.ref o), some (.int (Int32.ofNat s)), some (.int (Int32.ofNat (2 * s + 1))), some (.int (Int32.ofNat 0))] [] (mh_J h (o + 1) (sw (fun q => ub_U s (2 * s) (2 * n) q || ub_U s (2 * s + 1) 0 q) (ub_f s (mh_j h (o + 1))) (mh_j h (o + 1)))) := by
    simp only [Bool.false_or]
    rw [s_155_48]
    simp (disch := omega) only [s_155_0, s_155_1, s_155_2, s_155_3, s_155_4, s_155_5, s_155_6, s_155_7, s_155_8, s_155_9, s_155_10, s_155_13, s_155_14, s_155_17, s_155_18, s_155_19, s_155_22, s_155_23, s_155_24, s_155_25, s_155_28, s_155_29, s_155_30, s_155_31, s_155_32, s_155_35, s_155_38, s_155_39, s_155_40, s_155_41, s_155_44, s_155_45, s_155_46, s_155_47, s_155_49, s_155_50, s_155_51, s_155_54, s_155_55, s_155_58, s_155_59, s_155_60, s_155_61, s_155_62, s_155_65, s_155_66, s_155_69, s_155_70, s_155_71, s_155_74, s_155_75, s_155_76, s_155_77, s_155_80, s_155_81, s_155_82, s_155_83, s_155_86, s_155_87, s_155_88, s_155_91, s_155_94, s_155_97, s_155_100, e_155, mv_i_1, mv_l_1, mv_a_1, mv_a_2, mv_a_3, mk2_n, mk2_i, mk2_l, mk2_a, mk2_u, mk2_x, mB_T, mB_F, mS_cons, mS_nil, mSB_T, mSB_F, mca_nil, mca_i, mca_l, mca_r, mca_u, mca_x, mcat_i, mcat_l, mcat_r, mcat_u, mcat_x, mK_some, mK_none, va_rf_s, va_rf_n, lgc_eq, lgc_lt, lgc_gt, lgc_ge, lgc_le, mrd_104, mrd_105, mrd_106, mrd_107, true_and, and_true, and_self, false_and, and_false, true_or, or_true, false_or, or_false, not_true_eq_false, not_false_eq_true, mgb, mga, mgr, mN, reduceCtorEq, ↓reduceIte, eq_self, ge_iff_le, gt_iff_lt, hk_J, hl_J, hn_J, hr_J, hi_J, hj_J, mg_J, s1, s2, s3, s4, hn, e3, ei, c_140, c_141, nn_xor1, nn_le, nn_lt, nn_mxT, nn_clamp, hle, c2, J_sj]
    exact mw_J (F (2 * s + 1) (ub_U s (2 * s) (2 * n)) (Or.inr rfl))
  refine E2.trans (L2.trans ?_)
  rw [s_155_48]
  simp (disch := omega) only [s_155_0, s_155_1, s_155_2, s_155_3, s_155_4, s_155_5, s_155_6, s_155_7, s_155_8, s_155_9, s_155_10, s_155_13, s_155_14, s_155_17, s_155_18, s_155_19, s_155_22, s_155_23, s_155_24, s_155_25, s_155_28, s_155_29, s_155_30, s_155_31, s_155_32, s_155_35, s_155_38, s_155_39, s_155_40, s_155_41, s_155_44, s_155_45, s_155_46, s_155_47, s_155_48, s_155_49, s_155_50, s_155_51, s_155_54, s_155_55, s_155_58, s_155_59, s_155_60, s_155_61, s_155_62, s_155_65, s_155_66, s_155_69, s_155_70, s_155_71, s_155_74, s_155_75, s_155_76, s_155_77, s_155_80, s_155_81, s_155_82, s_155_83, s_155_86, s_155_87, s_155_88, s_155_91, s_155_94, s_155_97, s_155_100, e_155, mv_i_1, mv_l_1, mv_a_1, mv_a_2, mv_a_3, mk2_n, mk2_i, mk2_l, mk2_a, mk2_u, mk2_x, mB_T, mB_F, mS_cons, mS_nil, mSB_T, mSB_F, mca_nil, mca_i, mca_l, mca_r, mca_u, mca_x, mcat_i, mcat_l, mcat_r, mcat_u, mcat_x, mK_some, mK_none, va_rf_s, va_rf_n, lgc_eq, lgc_lt, lgc_gt, lgc_ge, lgc_le, mrd_104, mrd_105, mrd_106, mrd_107, true_and, and_true, and_self, false_and, and_false, true_or, or_true, false_or, or_false, not_true_eq_false, not_false_eq_true, mgb, mga, mgr, mN, reduceCtorEq, ↓reduceIte, eq_self, ge_iff_le, gt_iff_lt, hi_J, mg_J, s1, hn, e3, ei, nn_le, nn_lt, hle, c3]
  rfl
end UB
