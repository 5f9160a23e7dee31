set_option maxRecDepth 100000
/-! analyse -/
def E00 (D : fd) : nv := (0, fun _ => False, fun _ => 0, 0, 0, fun _ => 0, D.c - 1, none)
/-- what analyse may change -/
def aZ (b j : Nat) : Prop := (b = 115 ∧ (j = 7 ∨ j = 8 ∨ j = 9 ∨ j = 14 ∨ (18 ≤ j ∧ j ≤ 22) ∨ j = 34 ∨ j = 35)) ∨ b = 118 ∨ (121 ≤ b ∧ b ≤ 123) ∨ b = 130 ∨ b = 131 ∨ (∃ q, q < 250 ∧ kc (132 + 10 * q) b) ∨ ∃ q, q < 250 ∧ kc (137 + 10 * q) b
section ANr
variable {d : Nat} {h h1 : mh_H} {s0 s1 o p e f T q : Nat} {E : nv} {D : fd} {w0 : wd} {G : pgm} {J : pin} {X : Option ab}
theorem FT_same (F : FT h D) (ek : mh_k h1 = mh_k h) (el : mh_l h1 = mh_l h) (en' : mh_n h1 = mh_n h) (er : mh_r h1 = mh_r h) (ei : ∀ c f, c = 120 ∨ 2644 ≤ c → (∀ i a, mh_r h 119 i = some a → ¬ kc a c) → mh_i h1 c f = mh_i h c f) : FT h1 D := by
  obtain ⟨c, c1, c2, c3, c4, c5, c6, c7, c8⟩ := F
  exact ⟨c, by rw [er]; exact c1, by unfold mg at c2 ⊢; rw [ek, en']; exact c2, by rw [el]; exact c3, by rw [el]; exact c4, c5, fun i a e => c6 i a (by rw [← er]; exact e), fun ⟨j, j1, j2, j3⟩ => c7 ⟨j, j1, j2, by rw [← er]; exact j3⟩, fun f hf => (ei c f c5 c6).trans (c8 f hf)⟩
theorem aZ_sV (x : rq s1 (sV o T) h h1) (hs : s0 ≤ s1) (ho : ∃ i, s0 ≤ i ∧ mh_r h 119 i = some o) : rq s0 aZ h h1 := rq_w x hs (fun b j _ w => by
  rcases w with w | w | w | w | w | w | w
  · obtain ⟨i, i1, i2⟩ := ho
    exact Or.inr (Or.inr (Or.inr (Or.inr (Or.inl ⟨i, o, i1, i2, w⟩))))
  · exact Or.inl (Or.inr (Or.inl w))
  · exact Or.inl (Or.inr (Or.inr (Or.inr (Or.inl w))))
  · exact Or.inl (Or.inr (Or.inr (Or.inr (Or.inr (Or.inl w)))))
  · exact Or.inl (Or.inr (Or.inr (Or.inr (Or.inr (Or.inr (Or.inl w))))))
  · exact Or.inl (Or.inl ⟨w.1, by omega⟩)
  · exact Or.inl (Or.inr (Or.inr (Or.inl (by omega)))))
theorem aZ_si {b k : Nat} {v : Int32} (w : aZ b k) : rq s0 aZ h (mh_si h b k v) := ⟨fR_si (Or.inr (Or.inr (Or.inr (Or.inr w)))), fun _ hx => Or.inl hx, fun _ _ e => e, fun _ _ e => Or.inl e⟩
/-- claims stay under statements -/
theorem cl_sV (R : RJ h T E.sN E.en) (lo : 2644 ≤ o) {T' : Nat} (x : rq s0 (sV o T') h h1) (hq : q < 250) (k : RK h (137 + 10 * q) X) : RK h1 (137 + 10 * q) X := RK_fz x.f.1 (fun y hy j w => by
  rcases sV_no R lo w with w | w | w | w | ⟨q', w1, w2⟩ | w | w
  · omega
  · omega
  · omega
  · omega
  · unfold kc at w2; omega
  · omega
  · omega) k
/-- a heap with its own fields as start leaves them -/
def stH (h : mh_H) (v : Int32) : mh_H := mh_si (mh_si (mh_si (mh_si (mh_si (mh_si (mh_si h 115 11 0) 115 18 0) 115 19 0) 115 20 0) 115 21 0) 115 22 (-1)) 115 14 v
theorem c_271 (g0 : mg h 115 12) (f13 : mh_i h 115 13 = Int32.ofNat D.c) (hc : 1 ≤ D.c) : ∀ Q, mcall d 271 [.ref 115] h Q = Q none (stH h (Int32.ofNat (D.c - 1))) := fun Q => by
  have es : Int32.ofNat D.c - 1 = Int32.ofNat (D.c - 1) := nn_sub (a := D.c) (b := 1) hc
  unfold stH
  simp (disch := omega) only [s_271_0, s_271_1, s_271_2, s_271_5, s_271_6, s_271_7, s_271_10, s_271_11, s_271_12, s_271_15, s_271_16, s_271_17, s_271_20, s_271_21, s_271_22, s_271_25, s_271_26, s_271_27, s_271_30, s_271_31, s_271_32, s_271_35, s_271_36, s_271_37, s_271_40, e_271, mv_i_1, mv_l_1, mv_a_1, mv_a_2, mv_a_3, mk2_n, mk2_i, mk2_l, mk2_a, mk2_u, mk2_x, mB_T, mB_F, mS_cons, mS_nil, mSB_T, mSB_F, mca_nil, mca_i, mca_l, mca_r, mca_u, mca_x, mcat_i, mcat_l, mcat_r, mcat_u, mcat_x, mK_some, mK_none, va_rf_s, va_rf_n, lgc_eq, lgc_lt, lgc_gt, lgc_ge, lgc_le, mrd_104, mrd_105, mrd_106, mrd_107, true_and, and_true, and_self, false_and, and_false, true_or, or_true, false_or, or_false, not_true_eq_false, not_false_eq_true, mgb, mga, mgr, mN, reduceCtorEq, ↓reduceIte, eq_self, ge_iff_le, gt_iff_lt, hk_si, hk_sj, hk_sr, hl_si, hl_sj, hl_sr, hn_si, hn_sj, hn_sr, hs_si, hs_sj, hs_sr, hi_sj, hi_sr, hj_si, hj_sr, hr_si, hr_sj, hi_si, hj_sj, hr_sr, mg_si, mg_sj, mg_sr, Nat.reduceAdd, Nat.reduceMul, Nat.reduceSub, Nat.reduceLT, Nat.reduceGT, Nat.reduceEqDiff, Nat.reduceLeDiff, Nat.left_eq_add, Nat.add_eq_left, Nat.reduceMod, Nat.reduceDiv, Nat.succ_ne_self, g0, f13, es]
theorem sth_i {v : Int32} {c j : Nat} (hc : ¬ (c = 115 ∧ (j = 11 ∨ j = 18 ∨ j = 19 ∨ j = 20 ∨ j = 21 ∨ j = 22 ∨ j = 14))) : mh_i (stH h v) c j = mh_i h c j := by
  unfold stH
  rw [hi_si, if_neg (by omega), hi_si, if_neg (by omega), hi_si, if_neg (by omega), hi_si, if_neg (by omega), hi_si, if_neg (by omega), hi_si, if_neg (by omega), hi_si, if_neg (by omega)]
theorem sth_11 {v : Int32} : mh_i (stH h v) 115 11 = 0 := by
  unfold stH
  rw [hi_si, if_neg (by omega), hi_si, if_neg (by omega), hi_si, if_neg (by omega), hi_si, if_neg (by omega), hi_si, if_neg (by omega), hi_si, if_neg (by omega), hi_si, if_pos ⟨rfl, rfl⟩]
theorem sth_18 {v : Int32} : mh_i (stH h v) 115 18 = 0 := by
  unfold stH
  rw [hi_si, if_neg (by omega), hi_si, if_neg (by omega), hi_si, if_neg (by omega), hi_si, if_neg (by omega), hi_si, if_neg (by omega), hi_si, if_pos ⟨rfl, rfl⟩]
theorem sth_20 {v : Int32} : mh_i (stH h v) 115 20 = 0 := by
  unfold stH
  rw [hi_si, if_neg (by omega), hi_si, if_neg (by omega), hi_si, if_neg (by omega), hi_si, if_pos ⟨rfl, rfl⟩]
theorem sth_21 {v : Int32} : mh_i (stH h v) 115 21 = 0 := by
  unfold stH
  rw [hi_si, if_neg (by omega), hi_si, if_neg (by omega), hi_si, if_pos ⟨rfl, rfl⟩]
theorem sth_22 {v : Int32} : mh_i (stH h v) 115 22 = -1 := by
  unfold stH
  rw [hi_si, if_neg (by omega), hi_si, if_pos ⟨rfl, rfl⟩]
theorem sth_14 {v : Int32} : mh_i (stH h v) 115 14 = v := by
  unfold stH
  rw [hi_si, if_pos ⟨rfl, rfl⟩]
theorem sth_o {v : Int32} : mh_k (stH h v) = mh_k h ∧ mh_l (stH h v) = mh_l h ∧ mh_n (stH h v) = mh_n h ∧ mh_r (stH h v) = mh_r h ∧ mh_j (stH h v) = mh_j h := ⟨rfl, rfl, rfl, rfl, rfl⟩
theorem sth_x {v : Int32} : rq 0 aZ h (stH h v) := rq_t rq_11 (rq_t (aZ_si (Or.inl ⟨rfl, by omega⟩)) (rq_t (aZ_si (Or.inl ⟨rfl, by omega⟩)) (rq_t (aZ_si (Or.inl ⟨rfl, by omega⟩)) (rq_t (aZ_si (Or.inl ⟨rfl, by omega⟩)) (rq_t (aZ_si (Or.inl ⟨rfl, by omega⟩)) (aZ_si (Or.inl ⟨rfl, by omega⟩)))))))
/-- its start: own fields -/
theorem an_s1 (Z : RZ h) (F : FT h D) (X : FX (mh_i h 93) (mh_i h 95) (mh_i h 97) D) (ek1 : mh_k h1 = mh_k h) (el1 : mh_l h1 = mh_l h) (en1 : mh_n h1 = mh_n h) (er1 : mh_r h1 = mh_r h) (ej1 : mh_j h1 = mh_j h) (ii : ∀ c j, ¬ c = 115 → mh_i h1 c j = mh_i h c j) (w : wW w0 = 0) (hk0 : ∀ q, q < 250 → RK h (132 + 10 * q) (wK w0 q) ∧ mh_i h 118 q = wA w0 q) (hT : E.T = 0) (hE : ∀ v, ¬ E.sN v) (o11 : mh_i h1 115 11 = Int32.ofNat 0) (o18 : mh_i h1 115 18 = Int32.ofNat 0) (o20 : mh_i h1 115 20 = Int32.ofNat E.nu) (o21 : mh_i h1 115 21 = Int32.ofNat E.ar) (o14 : mh_i h1 115 14 = Int32.ofNat E.fu) (o22 : mh_i h1 115 22 = tkV E.ta) (o34 : mh_i h1 115 34 = 0) (o8 : mh_i h1 115 8 = Int32.ofNat 0) (o9 : mh_i h1 115 9 = kb (decide (4000 < 0))) : RA h1 0 E D w0 := by
  have z1 : fz (fun b _ => b = 115) h h1 := ⟨Nat.le_of_eq en1.symm, fun b _ => ⟨by rw [ek1], by rw [el1]⟩, fun b j _ nb => ⟨ii b j nb, by rw [ej1], by rw [er1]⟩⟩
  have row : ∀ b, b ≠ 115 → mh_i h1 b = mh_i h b := fun b nb => funext fun j => ii b j nb
  exact RA.of ⟨RZ_same Z ek1 el1 en1 (fun _ _ _ => by rw [er1]), ⟨by rw [hT]; exact o18, by rw [hT]; exact Nat.zero_le _, fun v hv => absurd hv (hE v)⟩, o11, o20, o21, o14, o22, by rw [w]; exact o8, by rw [w]; exact o9, fun q hq => ⟨RK_fz z1 (fun y hy j w => by omega) (hk0 q hq).1, (ii _ _ (by omega)).trans (hk0 q hq).2⟩, FT_same F ek1 el1 en1 er1 (fun c f hc _ => ii c f (by omega)), by rw [row 93 (by omega), row 95 (by omega), row 97 (by omega)]; exact X⟩
theorem an_s2 (K : ∀ q, q < 250 → ∃ x, RK h (132 + 10 * q) x) : ∃ w0 : wd, wW w0 = 0 ∧ ∀ q, q < 250 → RK h (132 + 10 * q) (wK w0 q) ∧ mh_i h 118 q = wA w0 q := by
  have K' : ∃ k : Nat → Option ab, ∀ q, q < 250 → RK h (132 + 10 * q) (k q) := by
    refine ⟨fun q => if hq : q < 250 then Classical.choose (K q hq) else none, fun q hq => ?_⟩
    dsimp only
    rw [dif_pos hq]
    exact Classical.choose_spec (K q hq)
  obtain ⟨k, hk⟩ := K'
  exact ⟨(k, fun q => mh_i h 118 q, 0), rfl, fun q hq => ⟨hk q hq, rfl⟩⟩
theorem an_s3 {hA : mh_H} (g0 : mg h 115 12) (gA : mg hA 115 12) (c271 : ∀ Q, mcall d 271 [.ref 115] h Q = Q none hA) : ∀ Q, mcall (d + 1) 273 [.ref 115] h Q = mw (d + 1) 273 Q 19 [some (.ref 115), none, none, none] [] (mh_si (mh_si (mh_si hA 115 34 0) 115 8 0) 115 9 0) := fun Q => by
  have or00 : ((0 : Int32) = 0 ∨ (0 : Int32) = 1) = True := by decide
  simp (disch := omega) only [s_273_0, s_273_1, s_273_4, s_273_5, s_273_6, s_273_9, s_273_10, s_273_11, s_273_14, s_273_15, s_273_16, s_273_20, s_273_21, s_273_24, s_273_27, s_273_28, s_273_29, s_273_30, s_273_31, s_273_34, s_273_35, s_273_36, s_273_39, s_273_40, s_273_43, s_273_43n, s_273_43x, s_273_44, s_273_45, s_273_48, s_273_49, s_273_50, s_273_51, s_273_52, s_273_55, s_273_56, s_273_57, s_273_58, s_273_61, s_273_62, s_273_65, s_273_66, s_273_69, s_273_70, s_273_71, s_273_72, s_273_73, s_273_74, s_273_77, s_273_78, s_273_81, s_273_82, s_273_83, s_273_84, s_273_85, s_273_86, s_273_89, s_273_90, s_273_93, s_273_94, s_273_95, s_273_96, s_273_97, s_273_100, s_273_101, s_273_104, s_273_105, s_273_108, s_273_109, s_273_110, s_273_111, s_273_112, s_273_113, s_273_116, s_273_119, s_273_120, s_273_121, s_273_122, s_273_123, s_273_126, s_273_129, s_273_130, s_273_133, s_273_134, s_273_135, s_273_136, s_273_139, s_273_140, s_273_143, s_273_144, s_273_145, s_273_146, s_273_149, s_273_152, s_273_153, s_273_156, s_273_157, s_273_158, s_273_161, s_273_164, s_273_165, s_273_168, s_273_169, e_273, mv_i_1, mv_l_1, mv_a_1, mv_a_2, mv_a_3, mk2_n, mk2_i, mk2_l, mk2_a, mk2_u, mk2_x, mB_T, mB_F, mS_cons, mS_nil, mSB_T, mSB_F, mca_nil, mca_i, mca_l, mca_r, mca_u, mca_x, mcat_i, mcat_l, mcat_r, mcat_u, mcat_x, mK_some, mK_none, va_rf_s, va_rf_n, lgc_eq, lgc_lt, lgc_gt, lgc_ge, lgc_le, mrd_104, mrd_105, mrd_106, mrd_107, true_and, and_true, and_self, false_and, and_false, true_or, or_true, false_or, or_false, not_true_eq_false, not_false_eq_true, mgb, mga, mgr, mN, reduceCtorEq, ↓reduceIte, eq_self, ge_iff_le, gt_iff_lt, hk_si, hk_sj, hk_sr, hl_si, hl_sj, hl_sr, hn_si, hn_sj, hn_sr, hs_si, hs_sj, hs_sr, hi_sj, hi_sr, hj_si, hj_sr, hr_si, hr_sj, hi_si, hj_sj, hr_sr, mg_si, mg_sj, mg_sr, Nat.reduceAdd, Nat.reduceMul, Nat.reduceSub, Nat.reduceLT, Nat.reduceGT, Nat.reduceEqDiff, Nat.reduceLeDiff, Nat.left_eq_add, Nat.add_eq_left, Nat.reduceMod, Nat.reduceDiv, Nat.succ_ne_self, g0, gA, c271, or00]
theorem an_s4 {hA : mh_H} {v : Int32} (Z : RZ h) (F : FT h D) (X : FX (mh_i h 93) (mh_i h 95) (mh_i h 97) D) (f13 : mh_i h 115 13 = Int32.ofNat D.c) (hv : Int32.ofNat (D.c - 1) = v) (eh : mh_si (mh_si (mh_si hA 115 34 0) 115 8 0) 115 9 0 = h1) (i : ∀ c j, ¬ (c = 115 ∧ (j = 11 ∨ j = 18 ∨ j = 19 ∨ j = 20 ∨ j = 21 ∨ j = 22 ∨ j = 14)) → mh_i hA c j = mh_i h c j) (ek : mh_k hA = mh_k h) (el : mh_l hA = mh_l h) (en' : mh_n hA = mh_n h) (er : mh_r hA = mh_r h) (ej : mh_j hA = mh_j h) (o11 : mh_i hA 115 11 = 0) (o18 : mh_i hA 115 18 = 0) (o20 : mh_i hA 115 20 = 0) (o21 : mh_i hA 115 21 = 0) (o22 : mh_i hA 115 22 = -1) (o14 : mh_i hA 115 14 = v) (x0 : rq 0 aZ h hA) (hw0 : wW w0 = 0) (hk0 : ∀ q, q < 250 → RK h (132 + 10 * q) (wK w0 q) ∧ mh_i h 118 q = wA w0 q) : RA h1 0 (E00 D) D w0 ∧ rq 0 aZ h h1 ∧ fz (fun b _ => b = 115) h h1 ∧ mh_i h1 115 13 = Int32.ofNat D.c ∧ (∀ b, b ≠ 115 → mh_i h1 b = mh_i h b) ∧ mh_i h1 115 34 = 0 := by
  have i' : ∀ c j, ¬ (c = 115 ∧ (j = 34 ∨ j = 8 ∨ j = 9)) → mh_i h1 c j = mh_i hA c j := fun c j hc => by rw [← eh, hi_si, if_neg (by omega), hi_si, if_neg (by omega), hi_si, if_neg (by omega)]
  have o34 : mh_i h1 115 34 = 0 := by rw [← eh, hi_si, if_neg (by omega), hi_si, if_neg (by omega), hi_si, if_pos ⟨rfl, rfl⟩]
  have o8 : mh_i h1 115 8 = 0 := by rw [← eh, hi_si, if_neg (by omega), hi_si, if_pos ⟨rfl, rfl⟩]
  have o9 : mh_i h1 115 9 = 0 := by rw [← eh, hi_si, if_pos ⟨rfl, rfl⟩]
  have ek1 : mh_k h1 = mh_k h := by rw [← eh, hk_si, hk_si, hk_si]; exact ek
  have el1 : mh_l h1 = mh_l h := by rw [← eh, hl_si, hl_si, hl_si]; exact el
  have en1 : mh_n h1 = mh_n h := by rw [← eh, hn_si, hn_si, hn_si]; exact en'
  have er1 : mh_r h1 = mh_r h := by
    funext b j
    rw [← eh, hr_si, hr_si, hr_si, er]
  have ej1 : mh_j h1 = mh_j h := by
    funext b j
    rw [← eh, hj_si, hj_si, hj_si, ej]
  have ii : ∀ c j, ¬ c = 115 → mh_i h1 c j = mh_i h c j := fun c j hc => (i' c j (by omega)).trans (i c j (by omega))
  have z1 : fz (fun b _ => b = 115) h h1 := ⟨Nat.le_of_eq en1.symm, fun b _ => ⟨by rw [ek1], by rw [el1]⟩, fun b j _ nb => ⟨ii b j nb, by rw [ej1], by rw [er1]⟩⟩
  have x1 : rq 0 aZ hA h1 := by
    rw [← eh]
    exact rq_t (aZ_si (Or.inl ⟨rfl, by omega⟩)) (rq_t (aZ_si (Or.inl ⟨rfl, by omega⟩)) (aZ_si (Or.inl ⟨rfl, by omega⟩)))
  have row : ∀ b, b ≠ 115 → mh_i h1 b = mh_i h b := fun b nb => funext fun j => ii b j nb
  have z0 : Int32.ofNat 0 = (0 : Int32) := rfl
  have k9 : kb (decide (4000 < 0)) = 0 := by unfold kb; rw [if_neg (by decide)]
  have eT : (E00 D).T = 0 := rfl
  have en0 : (E00 D).nu = 0 := rfl
  have ea0 : (E00 D).ar = 0 := rfl
  have ef0 : (E00 D).fu = D.c - 1 := rfl
  have et0 : (E00 D).ta = none := rfl
  have es0 : ∀ v, ¬ (E00 D).sN v := fun v z => z
  have tv : tkV none = -1 := rfl
  have R1 : RA h1 0 (E00 D) D w0 := an_s1 Z F X ek1 el1 en1 er1 ej1 ii hw0 hk0 eT es0 (by rw [z0, i' _ _ (by omega)]; exact o11) (by rw [z0, i' _ _ (by omega)]; exact o18) (by rw [en0, z0, i' _ _ (by omega)]; exact o20) (by rw [ea0, z0, i' _ _ (by omega)]; exact o21) (by rw [ef0, hv, i' _ _ (by omega)]; exact o14) (by rw [et0, tv, i' _ _ (by omega)]; exact o22) o34 (by rw [z0]; exact o8) (by rw [k9]; exact o9)
  exact ⟨R1, rq_t x0 x1, z1, (i' _ _ (by omega)).trans ((i _ _ (by omega)).trans f13), row, o34⟩
theorem an_s (Z : RZ h) (F : FT h D) (X : FX (mh_i h 93) (mh_i h 95) (mh_i h 97) D) (f13 : mh_i h 115 13 = Int32.ofNat D.c) (hc : 1 ≤ D.c) (K : ∀ q, q < 250 → ∃ x, RK h (132 + 10 * q) x) : ∃ h1 w0, wW w0 = 0 ∧ RA h1 0 (E00 D) D w0 ∧ rq 0 aZ h h1 ∧ fz (fun b _ => b = 115) h h1 ∧ mh_i h1 115 13 = Int32.ofNat D.c ∧ (∀ b, b ≠ 115 → mh_i h1 b = mh_i h b) ∧ mh_i h1 115 34 = 0 ∧ ∀ Q, mcall (d + 1) 273 [.ref 115] h Q = mw (d + 1) 273 Q 19 [some (.ref 115), none, none, none] [] h1 := by
  have g0 : mg h 115 12 := Z.F.g 115 12 38 (by decide +kernel)
  obtain ⟨ek, el, en', er, ej⟩ := sth_o (h := h) (v := Int32.ofNat (D.c - 1))
  obtain ⟨w0, hw0, hk0⟩ := an_s2 K
  have gA : mg (stH h (Int32.ofNat (D.c - 1))) 115 12 := by unfold mg at g0 ⊢; rw [ek, en']; exact g0
  obtain ⟨q1, q2, q3, q4, q5, q6⟩ := an_s4 (w0 := w0) Z F X f13 rfl rfl (fun c j hc => sth_i hc) ek el en' er ej sth_11 sth_18 sth_20 sth_21 sth_22 sth_14 sth_x hw0 hk0
  exact ⟨_, w0, hw0, q1, q2, q3, q4, q5, q6, an_s3 g0 gA (c_271 (d := d) g0 f13 hc)⟩
/-- up to its BLOCK -/
theorem an_a (Z : RZ h) (F : FT h D) (X : FX (mh_i h 93) (mh_i h 95) (mh_i h 97) D) (f13 : mh_i h 115 13 = Int32.ofNat D.c) (hc : 1 ≤ D.c) (K : ∀ q, q < 250 → ∃ x, RK h (132 + 10 * q) x) (C : ∀ q, q < 250 → ∃ x, RK h (137 + 10 * q) x) (L : LW G J D f (D.t (D.c - 1)) 0 e (E00 D)) (he : e ≤ 249) (hd : 2 * e + 20 ≤ d) : ∃ h' o w0, wW w0 = 0 ∧ rq 0 aZ h h' ∧ SA h' 1 o (E00 D) D w0 (some A00) ∧ mh_r h' 119 0 = some o ∧ mh_i h' 115 7 = Int32.ofNat (e + 1) ∧ mh_i h' 115 13 = Int32.ofNat D.c ∧ (mh_i h' 93 = mh_i h 93 ∧ mh_i h' 95 = mh_i h 95 ∧ mh_i h' 97 = mh_i h 97) ∧ (∀ q, q < 250 → ∃ x, RK h' (137 + 10 * q) x) ∧ ∀ Q, mcall (d + 1) 273 [.ref 115] h Q = mw (d + 1) 273 Q 48 [some (.ref 115), some (.int (Int32.ofNat (D.b (D.c - 1)))), some (.ref o), none] [] h' := by
  obtain ⟨d, rfl⟩ : ∃ d', d = d' + 2 := ⟨d - 2, by omega⟩
  obtain ⟨h1, w0, hw0, R1, x1, z1, i13, row, zz1, run1⟩ := an_s (d := d + 2) Z F X f13 hc K
  have J1 := R1.j
  have hgc : D.c - 1 < D.c := by omega
  have cb := u_256 (d := d + 2) J1 R1.F R1.X (g := D.c - 1) hgc
  have q := LW_Q f _ 0 e _ L he
  obtain ⟨y1, -, -, -, y5, y6⟩ := R1.X (D.c - 1) hgc
  have cp := PQ_c (d := d + 2) (b := D.b (D.c - 1)) q J1 R1.F R1.X R1.f y6 y1 y5 (by omega)
  have e0 : e - 0 = e := Nat.sub_zero e
  rw [e0] at cp
  have o14 : mh_i h1 115 14 = Int32.ofNat (D.c - 1) := R1.f
  have g1 := J1.a.g
  generalize eh2 : mh_si h1 115 7 (Int32.ofNat (e + 1)) = h2
  have i2 : ∀ c j, ¬ (c = 115 ∧ j = 7) → mh_i h2 c j = mh_i h1 c j := fun c j hc => by rw [← eh2, hi_si, if_neg hc]
  have i27 : mh_i h2 115 7 = Int32.ofNat (e + 1) := by rw [← eh2, hi_si, if_pos ⟨rfl, rfl⟩]
  have R2 : RA h2 0 (E00 D) D w0 := RA_put R1 (by rw [← eh2]; rfl) (by rw [← eh2]; rfl) (by rw [← eh2]; rfl) (fun _ _ _ => by rw [← eh2]; rfl) (by rw [← eh2]; rfl) (fun c j n1 _ _ => i2 c j (by omega)) (EV_same R1.V (i2 _ _ (by omega)) (fun j _ => i2 _ _ (by omega)) (fun j _ => i2 _ _ (by omega))) ((i2 _ _ (by omega)).trans R1.s) ((i2 _ _ (by omega)).trans R1.n) ((i2 _ _ (by omega)).trans R1.a) ((i2 _ _ (by omega)).trans R1.f) ((i2 _ _ (by omega)).trans R1.t) (i2 _ _ (by omega)) (i2 _ _ (by omega)) (i2 _ _ (by omega))
  have x2 : rq 0 aZ h1 h2 := by
    rw [← eh2]
    exact aZ_si (Or.inl ⟨rfl, by omega⟩)
  have z2 : fz (fun b _ => b = 115) h1 h2 := by
    rw [← eh2]
    exact fz_si rfl
  have J2 := R2.j
  obtain ⟨h3, o, x3, J3, f3, i3, -, ko3, run3⟩ := t_226 (d := d + 1) J2 (k := 0) R2.s (by omega)
  have R3 := RA_q R2 vF x3 J3 i3
  have so : sp h3 o := ⟨_, f3⟩
  obtain ⟨h4, f4, k4, run4⟩ := k_280 (d := d + 2) (A := A00) ko3 rfl rfl
  have R4 := ra_k R3 so f4 (RK_ko k4)
  have lo := sp_lo J3 so
  have er4 : mh_r h4 = mh_r h3 := f4.2.2.1
  have f4' : mh_r h4 119 0 = some o := by rw [er4]; exact f3
  have x23 : rq 0 aZ h2 h3 := rq_w x3 (Nat.le_refl _) (fun _ _ _ w => absurd w (fun z => z))
  have x34 : rq 0 aZ h3 h4 := aZ_sV (T := 0) (sV_k (s0 := 0) R3 so f4) (Nat.le_refl _) ⟨0, Nat.le_refl _, f3⟩
  have g2 : mg h2 115 12 := J2.a.g
  have i7 : mh_i h3 115 7 = Int32.ofNat (e + 1) := ((rq_lo J2 vF x3 g2 (by omega) (by omega) (by omega)).1).trans i27
  have i13' : mh_i h3 115 13 = Int32.ofNat D.c := ((rq_lo J2 vF x3 g2 (by omega) (by omega) (by omega)).1).trans ((i2 _ _ (by omega)).trans i13)
  have ij := rs_ij J3 so f4
  have sh0 : shp (E00 D).nu (E00 D).ar (E00 D).rm (some A00) := fun B hB => by
    cases hB
    exact ⟨A00_T, rfl, rfl, fun x hx => absurd hx (Nat.not_lt_zero _)⟩
  refine ⟨h4, o, w0, hw0, rq_t x1 (rq_t x2 (rq_t x23 x34)), SA.of ⟨R4, ⟨0, by omega, f4'⟩, k4, KM.a k4, sh0, ⟨Nat.zero_le _, Nat.zero_le _⟩, (ij 34).trans ((rq_z J2 vF x3).trans ((i2 _ _ (by omega)).trans zz1))⟩, f4', (ij 7).trans i7, (ij 13).trans i13', ?_, fun q hq => ?_, fun Q => ?_⟩
  · obtain ⟨t1, t2, t3⟩ := rq_tr J2 vF x3
    obtain ⟨u1, u2, u3⟩ := rs_tr J3 (vK_1 so) (rs_k f4)
    have r2 : ∀ b, b ≠ 115 → mh_i h2 b = mh_i h1 b := fun b nb => funext fun j => i2 b j (fun z => nb z.1)
    rw [u1, u2, u3, t1, t2, t3, r2 93 (by omega), r2 95 (by omega), r2 97 (by omega), row 93 (by omega), row 95 (by omega), row 97 (by omega)]
    exact ⟨rfl, rfl, rfl⟩
  · obtain ⟨x, kx⟩ := C q hq
    have k1 : RK h1 (137 + 10 * q) x := RK_fz z1 (fun y hy j w => by omega) kx
    have k2 : RK h2 (137 + 10 * q) x := RK_fz z2 (fun y hy j w => by omega) k1
    have k3 : RK h3 (137 + 10 * q) x := RK_fz x3.f.1 (fun y hy j w => by have := rqW_no J2 vF w; omega) k2
    exact ⟨x, RK_fz (fz_fq f4) (fun y hy j w => by unfold kW at w; omega) k3⟩
  · have g3 := ko3.1
    have e1' : ∀ k, Int32.ofNat k + 1 = Int32.ofNat (k + 1) := fun k => nn_add (a := k) (b := 1)
    rw [run1]
    clear Z F X K C L R1 R2 R3 R4 J1 J2 J3 x1 x2 x3 x23 x34 k4 ko3 z1 z2 row i2 ij sh0 y6 f4 q run1
    rw [s_273_19]
    simp (disch := omega) only [s_273_0, s_273_1, s_273_4, s_273_5, s_273_6, s_273_9, s_273_10, s_273_11, s_273_14, s_273_15, s_273_16, s_273_20, s_273_21, s_273_24, s_273_27, s_273_28, s_273_29, s_273_30, s_273_31, s_273_34, s_273_35, s_273_36, s_273_39, s_273_40, s_273_43, s_273_43n, s_273_43x, s_273_44, s_273_45, s_273_49, s_273_50, s_273_51, s_273_52, s_273_55, s_273_56, s_273_57, s_273_58, s_273_61, s_273_62, s_273_65, s_273_66, s_273_69, s_273_70, s_273_71, s_273_72, s_273_73, s_273_74, s_273_77, s_273_78, s_273_81, s_273_82, s_273_83, s_273_84, s_273_85, s_273_86, s_273_89, s_273_90, s_273_93, s_273_94, s_273_95, s_273_96, s_273_97, s_273_100, s_273_101, s_273_104, s_273_105, s_273_108, s_273_109, s_273_110, s_273_111, s_273_112, s_273_113, s_273_116, s_273_119, s_273_120, s_273_121, s_273_122, s_273_123, s_273_126, s_273_129, s_273_130, s_273_133, s_273_134, s_273_135, s_273_136, s_273_139, s_273_140, s_273_143, s_273_144, s_273_145, s_273_146, s_273_149, s_273_152, s_273_153, s_273_156, s_273_157, s_273_158, s_273_161, s_273_164, s_273_165, s_273_168, s_273_169, e_273, mv_i_1, mv_l_1, mv_a_1, mv_a_2, mv_a_3, mk2_n, mk2_i, mk2_l, mk2_a, mk2_u, mk2_x, mB_T, mB_F, mS_cons, mS_nil, mSB_T, mSB_F, mca_nil, mca_i, mca_l, mca_r, mca_u, mca_x, mcat_i, mcat_l, mcat_r, mcat_u, mcat_x, mK_some, mK_none, va_rf_s, va_rf_n, lgc_eq, lgc_lt, lgc_gt, lgc_ge, lgc_le, mrd_104, mrd_105, mrd_106, mrd_107, true_and, and_true, and_self, false_and, and_false, true_or, or_true, false_or, or_false, not_true_eq_false, not_false_eq_true, mgb, mga, mgr, mN, reduceCtorEq, ↓reduceIte, eq_self, ge_iff_le, gt_iff_lt, Nat.reduceAdd, Nat.reduceMul, Nat.reduceSub, Nat.reduceLT, Nat.reduceGT, Nat.reduceEqDiff, Nat.reduceLeDiff, Nat.left_eq_add, Nat.add_eq_left, Nat.reduceMod, Nat.reduceDiv, Nat.succ_ne_self, g1, g2, g3, o14, cb, cp, e1', eh2, run3, run4]
end ANr
