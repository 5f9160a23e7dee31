set_option maxRecDepth 100000
/-! show of the class, whole -/
section LFs2
variable {d : Nat} {h0 h h1 : mh_H} {s0 TK X n p N A' : Nat} {Bt : Nat → Int32} {np ap : Nat → Nat} {L : List Int32} {A : ab} {o : Nat}
/-- something stands there where there is a slot -/
theorem shT_len {nm am : Nat → List Int32} (T : ab_T A) (n30 : ∀ x, x < A.n → (nm x).length ≤ 30) (a30 : ∀ x, x < A.a → (am x).length ≤ 30) : ((shT nm am A).length = 0 ↔ A.n + A.a = 0) ∧ (shN nm A).length ≤ 720 ∧ (shP nm A (shN nm A)).length ≤ 22104 := by
  have t1 := T.1
  have t2 := T.2.1
  have hN := itr_len (g := gNm nm (fun x => -a_gr A (2 * x + 1) (2 * x + 1)) (fun x => a_gr A (2 * x) (2 * x))) (c := 60) (N := A.n) (fun x L hx => by
    have b1 := gr_b T (v := 2 * x + 1) (w := 2 * x + 1) (by omega) (by omega)
    have b2 := gr_b T (v := 2 * x) (w := 2 * x) (by omega) (by omega)
    have := gNm_len (nm := nm) (lo := fun x => -a_gr A (2 * x + 1) (2 * x + 1)) (hi := fun x => a_gr A (2 * x) (2 * x)) (x := x) (L := L) (n30 x hx) (by show -4294967296 ≤ -a_gr A (2 * x + 1) (2 * x + 1) ∧ -a_gr A (2 * x + 1) (2 * x + 1) ≤ 4294967296; omega) b2
    omega)
  have h1 := hN A.n 0 [] (by omega)
  have e1 : (shN nm A).length ≤ 0 + 60 * A.n := h1.2
  have gl : ∀ i j (L : List Int32), i < 2 * A.n → j < 2 * A.n → L.length ≤ (gPr nm A i j L).length ∧ (gPr nm A i j L).length ≤ L.length + 81 := fun i j L hi hj => by
    have q1 := n30 (i / 2) (by omega)
    have q2 := n30 (j / 2) (by omega)
    have l1 := gr_b T (v := i) (w := j) (by omega) (by omega)
    have a1 := nbT_len l1.1 l1.2
    have a3 := wCm_len L
    unfold gPr
    split
    · have c1 : (if i % 2 = 1 then [(45 : Int32)] else []).length ≤ 1 := by split <;> decide
      have c2 : (if j % 2 = 1 then [(32 : Int32), 45, 32] else [32, 43, 32]).length = 3 := by split <;> rfl
      simp only [List.length_append, List.length_cons, List.length_nil, c2]
      omega
    · omega
  have hP4 : ∀ x, x < A.n → ∀ y (L : List Int32), y < A.n → L.length ≤ (gP4 nm A x y L).length ∧ (gP4 nm A x y L).length ≤ L.length + 324 := fun x hx y L hy => by
    have v0 := gl (2 * x) (2 * y) L (by omega) (by omega)
    have v1 := gl (2 * x) (2 * y + 1) (gPr nm A (2 * x) (2 * y) L) (by omega) (by omega)
    have v2 := gl (2 * x + 1) (2 * y) (gPr nm A (2 * x) (2 * y + 1) (gPr nm A (2 * x) (2 * y) L)) (by omega) (by omega)
    have v3 := gl (2 * x + 1) (2 * y + 1) (gPr nm A (2 * x + 1) (2 * y) (gPr nm A (2 * x) (2 * y + 1) (gPr nm A (2 * x) (2 * y) L))) (by omega) (by omega)
    unfold gP4
    omega
  have hP : ∀ k x (L : List Int32), x + k = A.n → L.length ≤ (itr (fun x L => itr (gP4 nm A x) (A.n - (x + 1)) (x + 1) L) k x L).length ∧ (itr (fun x L => itr (gP4 nm A x) (A.n - (x + 1)) (x + 1) L) k x L).length ≤ L.length + 324 * tri k := by
    intro k
    induction k with
    | zero => exact fun x L _ => ⟨Nat.le_refl _, Nat.le_refl _⟩
    | succ k ih =>
      intro x L hx
      have a := itr_len (g := gP4 nm A x) (c := 324) (N := A.n) (fun y L hy => hP4 x (by omega) y L hy) (A.n - (x + 1)) (x + 1) L (by omega)
      have b := ih (x + 1) (itr (gP4 nm A x) (A.n - (x + 1)) (x + 1) L) (by omega)
      have et : tri (k + 1) = k + tri k := rfl
      have ek : A.n - (x + 1) = k := by omega
      rw [ek] at a b
      show L.length ≤ (itr (fun x L => itr (gP4 nm A x) (A.n - (x + 1)) (x + 1) L) k (x + 1) (itr (gP4 nm A x) (A.n - (x + 1)) (x + 1) L)).length ∧ (itr (fun x L => itr (gP4 nm A x) (A.n - (x + 1)) (x + 1) L) k (x + 1) (itr (gP4 nm A x) (A.n - (x + 1)) (x + 1) L)).length ≤ L.length + 324 * tri (k + 1)
      rw [ek]
      omega
  have t12 : ∀ N, N ≤ 12 → tri N ≤ 66 := by decide
  have := t12 A.n t1
  have h2 := hP A.n 0 (shN nm A) (by omega)
  have e2 : (shN nm A).length ≤ (shP nm A (shN nm A)).length ∧ (shP nm A (shN nm A)).length ≤ (shN nm A).length + 324 * tri A.n := h2
  have hA := itr_len (g := gAr am A) (c := 62) (N := A.a) (fun x L hx => by
    have bb := T.2.2.2.2 x (by omega)
    have := gAr_len (am := am) (A := A) (x := x) (L := L) (a30 x hx) (by omega) (by omega)
    omega)
  have h3 := hA A.a 0 (shP nm A (shN nm A)) (by omega)
  have e3 : (shP nm A (shN nm A)).length ≤ (shT nm am A).length := h3.1
  refine ⟨⟨fun z => ?_, fun z => ?_⟩, by omega, by omega⟩
  · have n0 : A.n = 0 := by
      cases en : A.n with
      | zero => rfl
      | succ m =>
        exfalso
        have s0 : shN nm A = itr (gNm nm (fun x => -a_gr A (2 * x + 1) (2 * x + 1)) (fun x => a_gr A (2 * x) (2 * x))) m 1 (gNm nm (fun x => -a_gr A (2 * x + 1) (2 * x + 1)) (fun x => a_gr A (2 * x) (2 * x)) 0 []) := by
          unfold shN
          rw [en]
          rfl
        have q := hN m 1 (gNm nm (fun x => -a_gr A (2 * x + 1) (2 * x + 1)) (fun x => a_gr A (2 * x) (2 * x)) 0 []) (by omega)
        rw [← s0] at q
        have b1 := gr_b T (v := 2 * 0 + 1) (w := 2 * 0 + 1) (by omega) (by omega)
        have b2 := gr_b T (v := 2 * 0) (w := 2 * 0) (by omega) (by omega)
        have := gNm_len (nm := nm) (lo := fun x => -a_gr A (2 * x + 1) (2 * x + 1)) (hi := fun x => a_gr A (2 * x) (2 * x)) (x := 0) (L := []) (n30 0 (by omega)) (by show -4294967296 ≤ -a_gr A (2 * 0 + 1) (2 * 0 + 1) ∧ -a_gr A (2 * 0 + 1) (2 * 0 + 1) ≤ 4294967296; omega) b2
        omega
    have a0 : A.a = 0 := by
      cases ea : A.a with
      | zero => rfl
      | succ m =>
        exfalso
        have s0 : shT nm am A = itr (gAr am A) m 1 (gAr am A 0 (shP nm A (shN nm A))) := by
          unfold shT shA
          rw [ea]
          rfl
        have q := hA m 1 (gAr am A 0 (shP nm A (shN nm A))) (by omega)
        rw [← s0] at q
        have bb := T.2.2.2.2 0 (by omega)
        have := gAr_len (am := am) (A := A) (x := 0) (L := shP nm A (shN nm A)) (a30 0 (by omega)) (by omega) (by omega)
        omega
    omega
  · have n0 : A.n = 0 := by omega
    have a0 : A.a = 0 := by omega
    have s1 : shN nm A = [] := by unfold shN; rw [n0]; rfl
    have s2 : shP nm A [] = [] := by unfold shP; rw [n0]; rfl
    have s3 : shA am A [] = [] := by unfold shA; rw [a0]; rfl
    unfold shT
    rw [s1, s2, s3]
    rfl
theorem v_213 {st : Option ab} {b : Int32} {l : Nat} (e0 : h0 = mh_si h 0 14 0) (M : NMc h0 s0 TK X n Bt p np ap N A') (r13 : mh_r h 0 13 = some s0) (gs : mg h s0 102) (ls : mh_l h s0 = l) (l1 : 64 ≤ l) (l2 : l ≤ 48000) (mb : mbf h) (a192 : ∀ Q, mcall (d + 7) 192 [.ref 0, .int (Int32.ofNat p)] h Q = Q (some (.int 1)) h) (a197 : ∀ Q, mcall (d + 7) 197 [.ref 0, .int b, .int (Int32.ofNat p)] h Q = Q (some (.ref o)) h) (R : RS h0 o st) (T : ∀ A, st = some A → ab_T A ∧ A.n = N ∧ A.a = A') (ho : ∀ y, y ≤ 2 → o + y ≠ 0 ∧ o + y ≠ s0) : ∃ h', LNc h0 h' s0 (shO (fun x => nmX Bt n (np x)) (fun x => nmX Bt n (ap x)) st) ∧ mbf h' ∧ ∀ Q, mcall (d + 8) 213 [.ref 0, .int b, .int (Int32.ofNat p)] h Q = Q (some (.int (Int32.ofNat (shO (fun x => nmX Bt n (np x)) (fun x => nmX Bt n (ap x)) st).length))) h' := by
  have g0h : mg h 0 11 := by
    have := M.g0
    rw [e0] at this
    exact this
  have mb0 : mbf h0 := by
    rw [e0]
    exact mbf_si (by rw [g0h.1]; omega) mb
  have H0 : LNc h0 h0 s0 [] := LNc.of ⟨fz_id, by rw [e0, hi_si, if_pos ⟨rfl, rfl⟩]; rfl, s0, l, by rw [e0]; exact r13, by rw [e0]; exact gs, by rw [e0]; exact ls, Nat.zero_le _, l1, l2, Or.inl rfl, fun i v hv => (by cases hv), by rw [show mh_l h0 s0 = l from by rw [e0]; exact ls], by rw [show mh_l h0 s0 = l from by rw [e0]; exact ls]; exact Nat.le_refl _⟩
  have one : ((1 : Int32) = 0) = False := by decide
  have zer : ((0 : Int32) = 0) = True := by decide
  have nn := M.n
  cases st with
  | none =>
    have s1 := R.1.1.1
    have s2 := R.1.2.1
    have l0 : xL 0 = 7 := by decide +kernel
    obtain ⟨h1, H1, m1, r1⟩ := w_222 (d := d + 3) M.g0 (j := 0) (by decide) H0 mb0 (by show 0 + xL 0 ≤ 24000; omega)
    have H1' : LNc h0 h1 s0 [110, 111, 116, 104, 105, 110, 103] := by
      rw [xW_all.1] at H1
      exact H1
    refine ⟨h1, H1', m1, fun Q => ?_⟩
    have r1' : ∀ Q, mcall (d + 7) 222 [.ref 0, .retAddr 3] h0 Q = Q none h1 := r1
    have z1 := fz_mg H1.f M.g0
    have e14 := H1'.n
    have z0 := M.g0
    show _ = Q (some (.int (Int32.ofNat [110, 111, 116, 104, 105, 110, 103].length))) h1
    rw [e0] at r1' s1 s2 z0
    clear H0 H1 H1' m1 mb mb0 M R T r1
    simp (disch := omega) only [s_213_0, s_213_1, s_213_2, s_213_5, s_213_8, s_213_9, s_213_10, s_213_11, s_213_12, s_213_13, s_213_16, s_213_16n, s_213_16x, s_213_17, s_213_18, s_213_19, s_213_22, s_213_23, s_213_26, s_213_29, s_213_30, s_213_33, s_213_36, s_213_39, s_213_40, s_213_43, s_213_44, s_213_47, s_213_48, s_213_51, s_213_52, s_213_55, s_213_58, s_213_61, s_213_62, s_213_63, s_213_64, s_213_67, s_213_68, s_213_69, s_213_70, s_213_73, s_213_74, s_213_75, s_213_76, s_213_79, s_213_80, s_213_83, e_213, mv_i_1, mv_l_1, mv_a_1, mv_a_2, mv_a_3, mk2_n, mk2_i, mk2_l, mk2_a, mk2_u, mk2_x, mB_T, mB_F, mS_cons, mS_nil, mSB_T, mSB_F, mca_nil, mca_i, mca_l, mca_r, mca_u, mca_x, mcat_i, mcat_l, mcat_r, mcat_u, mcat_x, mK_some, mK_none, va_rf_s, va_rf_n, lgc_eq, lgc_lt, lgc_gt, lgc_ge, lgc_le, mrd_104, mrd_105, mrd_106, mrd_107, true_and, and_true, and_self, false_and, and_false, true_or, or_true, false_or, or_false, not_true_eq_false, not_false_eq_true, mgb, mga, mgr, mN, reduceCtorEq, ↓reduceIte, eq_self, ge_iff_le, gt_iff_lt, hk_si, hk_sj, hk_sr, hl_si, hl_sj, hl_sr, hn_si, hn_sj, hn_sr, hs_si, hs_sj, hs_sr, hi_sj, hi_sr, hj_si, hj_sr, hr_si, hr_sj, hi_si, hj_sj, hr_sr, mg_si, mg_sj, mg_sr, Nat.reduceAdd, Nat.reduceMul, Nat.reduceSub, Nat.reduceLT, Nat.reduceGT, Nat.reduceEqDiff, Nat.reduceLeDiff, Nat.left_eq_add, Nat.add_eq_left, Nat.reduceMod, Nat.reduceDiv, Nat.succ_ne_self, a192, a197, one, zer, g0h, s1, s2, r1', z1, e14]
  | some A =>
    obtain ⟨tT, tn, ta⟩ := T A rfl
    have S : StL h0 s0 o A := ⟨R, tT, ho⟩
    obtain ⟨c0, c1, c2⟩ := shT_len (A := A) (nm := fun x => nmX Bt n (np x)) (am := fun x => nmX Bt n (ap x)) tT (fun x hx => (M.np x (by omega)).2.2) (fun x hx => (M.ap x (by omega)).2.2)
    have s1 := R.1.1.1
    have s2 := R.1.2.1
    have s3 := R.1.2.2.1
    have s4 := R.1.2.2.2.2.1
    have z0 := M.g0
    by_cases c : A.n + A.a = 0
    · have e : shO (fun x => nmX Bt n (np x)) (fun x => nmX Bt n (ap x)) (some A) = [97, 108, 108] := if_pos (c0.mpr c)
      rw [e]
      have l0 : xL 1 = 3 := by decide +kernel
      obtain ⟨h1, H1, m1, r1⟩ := w_222 (d := d + 3) M.g0 (j := 1) (by decide) H0 mb0 (by show 0 + xL 1 ≤ 24000; omega)
      have H1' : LNc h0 h1 s0 [97, 108, 108] := by
        rw [xW_all.2.1] at H1
        exact H1
      refine ⟨h1, H1', m1, fun Q => ?_⟩
      have r1' : ∀ Q, mcall (d + 7) 222 [.ref 0, .retAddr 6] h0 Q = Q none h1 := r1
      have z1 := fz_mg H1.f M.g0
      have e14 := H1'.n
      have sum : Int32.ofNat A.n + Int32.ofNat A.a = 0 := by rw [nn_add, c]; rfl
      rw [e0] at r1' s1 s2 s3 s4 z0
      clear H0 H1 H1' m1 mb mb0 M R T r1 S
      simp (disch := omega) only [s_213_0, s_213_1, s_213_2, s_213_5, s_213_8, s_213_9, s_213_10, s_213_11, s_213_12, s_213_13, s_213_16, s_213_16n, s_213_16x, s_213_17, s_213_18, s_213_19, s_213_22, s_213_23, s_213_26, s_213_29, s_213_30, s_213_33, s_213_36, s_213_39, s_213_40, s_213_43, s_213_44, s_213_47, s_213_48, s_213_51, s_213_52, s_213_55, s_213_58, s_213_61, s_213_62, s_213_63, s_213_64, s_213_67, s_213_68, s_213_69, s_213_70, s_213_73, s_213_74, s_213_75, s_213_76, s_213_79, s_213_80, s_213_83, e_213, mv_i_1, mv_l_1, mv_a_1, mv_a_2, mv_a_3, mk2_n, mk2_i, mk2_l, mk2_a, mk2_u, mk2_x, mB_T, mB_F, mS_cons, mS_nil, mSB_T, mSB_F, mca_nil, mca_i, mca_l, mca_r, mca_u, mca_x, mcat_i, mcat_l, mcat_r, mcat_u, mcat_x, mK_some, mK_none, va_rf_s, va_rf_n, lgc_eq, lgc_lt, lgc_gt, lgc_ge, lgc_le, mrd_104, mrd_105, mrd_106, mrd_107, true_and, and_true, and_self, false_and, and_false, true_or, or_true, false_or, or_false, not_true_eq_false, not_false_eq_true, mgb, mga, mgr, mN, reduceCtorEq, ↓reduceIte, eq_self, ge_iff_le, gt_iff_lt, hk_si, hk_sj, hk_sr, hl_si, hl_sj, hl_sr, hn_si, hn_sj, hn_sr, hs_si, hs_sj, hs_sr, hi_sj, hi_sr, hj_si, hj_sr, hr_si, hr_sj, hi_si, hj_sj, hr_sr, mg_si, mg_sj, mg_sr, Nat.reduceAdd, Nat.reduceMul, Nat.reduceSub, Nat.reduceLT, Nat.reduceGT, Nat.reduceEqDiff, Nat.reduceLeDiff, Nat.left_eq_add, Nat.add_eq_left, Nat.reduceMod, Nat.reduceDiv, Nat.succ_ne_self, a192, a197, one, zer, g0h, s1, s2, s3, s4, sum, r1', z1, e14]
    · have e : shO (fun x => nmX Bt n (np x)) (fun x => nmX Bt n (ap x)) (some A) = shT (fun x => nmX Bt n (np x)) (fun x => nmX Bt n (ap x)) A := if_neg (fun z => c (c0.mp z))
      rw [e]
      obtain ⟨h1, H1, m1, r1⟩ := w_215 (d := d + 1) M S tn H0 mb0
      obtain ⟨h2, H2, m2, r2⟩ := w_216 (d := d) M S tn H1 m1 (by omega)
      obtain ⟨h3, H3, m3, r3⟩ := w_218 (d := d + 1) M S ta H2 m2 (by omega)
      refine ⟨h3, H3, m3, fun Q => ?_⟩
      have z1 := fz_mg H1.f M.g0
      have z2 := fz_mg H2.f M.g0
      have z3 := fz_mg H3.f M.g0
      have e14 : mh_i h3 0 14 = Int32.ofNat (shT (fun x => nmX Bt n (np x)) (fun x => nmX Bt n (ap x)) A).length := H3.n
      have sum : (Int32.ofNat A.n + Int32.ofNat A.a = 0) = False := by
        rw [nn_add, show (0 : Int32) = Int32.ofNat 0 from rfl, nn_eq (by omega) (by omega)]
        exact eq_false c
      rw [e0] at r1 s1 s2 s3 s4 z0
      clear H0 H1 H2 H3 m1 m2 m3 mb mb0 M R T S c0 c1 c2
      simp (disch := omega) only [s_213_0, s_213_1, s_213_2, s_213_5, s_213_8, s_213_9, s_213_10, s_213_11, s_213_12, s_213_13, s_213_16, s_213_16n, s_213_16x, s_213_17, s_213_18, s_213_19, s_213_22, s_213_23, s_213_26, s_213_29, s_213_30, s_213_33, s_213_36, s_213_39, s_213_40, s_213_43, s_213_44, s_213_47, s_213_48, s_213_51, s_213_52, s_213_55, s_213_58, s_213_61, s_213_62, s_213_63, s_213_64, s_213_67, s_213_68, s_213_69, s_213_70, s_213_73, s_213_74, s_213_75, s_213_76, s_213_79, s_213_80, s_213_83, e_213, mv_i_1, mv_l_1, mv_a_1, mv_a_2, mv_a_3, mk2_n, mk2_i, mk2_l, mk2_a, mk2_u, mk2_x, mB_T, mB_F, mS_cons, mS_nil, mSB_T, mSB_F, mca_nil, mca_i, mca_l, mca_r, mca_u, mca_x, mcat_i, mcat_l, mcat_r, mcat_u, mcat_x, mK_some, mK_none, va_rf_s, va_rf_n, lgc_eq, lgc_lt, lgc_gt, lgc_ge, lgc_le, mrd_104, mrd_105, mrd_106, mrd_107, true_and, and_true, and_self, false_and, and_false, true_or, or_true, false_or, or_false, not_true_eq_false, not_false_eq_true, mgb, mga, mgr, mN, reduceCtorEq, ↓reduceIte, eq_self, ge_iff_le, gt_iff_lt, hk_si, hk_sj, hk_sr, hl_si, hl_sj, hl_sr, hn_si, hn_sj, hn_sr, hs_si, hs_sj, hs_sr, hi_sj, hi_sr, hj_si, hj_sr, hr_si, hr_sj, hi_si, hj_sj, hr_sr, mg_si, mg_sj, mg_sr, Nat.reduceAdd, Nat.reduceMul, Nat.reduceSub, Nat.reduceLT, Nat.reduceGT, Nat.reduceEqDiff, Nat.reduceLeDiff, Nat.left_eq_add, Nat.add_eq_left, Nat.reduceMod, Nat.reduceDiv, Nat.succ_ne_self, a192, a197, one, zer, g0h, s1, s2, s3, s4, sum, r1, r2, r3, z0, z1, z2, z3, e14]
end LFs2
