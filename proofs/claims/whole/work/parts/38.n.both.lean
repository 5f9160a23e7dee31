set_option maxRecDepth 100000
/-! Effect.reckonBoth -/
def st2 (Ho Fa P R b j : Nat) : Prop := stW Ho P R b j ∨ stW Fa P R b j
theorem pq_app {a b : List pa} {i : Nat} : pq (a ++ b) i = if i < a.length then pq a i else pq b (i - a.length) := by
  unfold pq
  rw [List.getD_eq_getElem?_getD, List.getD_eq_getElem?_getD, List.getD_eq_getElem?_getD]
  split
  · next q => rw [List.getElem?_append_left q]
  · next q => rw [List.getElem?_append_right (by omega)]
theorem ptr_app {nb p0 : Nat} {t u : Nat → Int32} {a b : List pa} (h1 : ptr nb (fun i => t (p0 + i)) (fun i => u (p0 + i)) a) (h2 : ptr nb (fun i => t (p0 + a.length + i)) (fun i => u (p0 + a.length + i)) b) : ptr nb (fun i => t (p0 + i)) (fun i => u (p0 + i)) (a ++ b) := by
  intro i hi
  rw [List.length_append] at hi
  unfold pqS
  rw [pq_app]
  by_cases q : i < a.length
  · rw [if_pos q]; exact h1 i q
  · rw [if_neg q]
    have := h2 (i - a.length) (by omega)
    unfold pqS at this
    dsimp only at this ⊢
    rw [show p0 + a.length + (i - a.length) = p0 + i by omega] at this
    exact this
theorem TM_TG {h : mh_H} {H : Nat} {A : ab} {C : Option ab} (hT : ab_T A) (hC : ∀ M, C = some M → lsA A M) (k : TM h H C) : TG h H (o_cl C) := by
  cases C with
  | none => exact Or.inr ⟨rfl, k⟩
  | some M =>
    obtain ⟨c, u, r⟩ := k
    obtain ⟨hn, ha, hlo, hhi, hrm, hC', hb⟩ := hC M rfl
    refine Or.inl ⟨M, c, u, r, fun i j hi hj => ?_, rfl⟩
    rw [hn] at hi hj
    have := hb i j hi hj
    have := hT.lo2 hi hj
    omega
theorem RS_z {h : mh_H} {H : Nat} {B : ab} (k : RS h H (some B)) : RS (mh_si h H 0 0) H (some B) := by
  obtain ⟨r, r5⟩ := k
  refine ⟨⟨r.s, ?_, ?_, r.n12, ?_, r.a6, r.m, r.e⟩, ?_⟩
  · rw [hi_si, if_pos ⟨rfl, rfl⟩]
  · rw [hi_si, if_neg (by omega)]; exact r.n
  · rw [hi_si, if_neg (by omega)]; exact r.a
  · rw [hi_si, if_neg (by omega)]; exact r5
section RBs
variable {d : Nat} {h h1 : mh_H} {P R lP X Y C E TT UU SC SP nC nE nS nb na Ho Fa : Nat} {sN : Int → Prop} {en : Int → Nat} {A : ab} {t1 t2 : tr} {sum c0 c1 p0 : Nat} {tu : Bool} {t : tr}
theorem ES_2 (S1 : ES h P R lP X Y C E TT UU SC SP nC nE nS nb na Ho A) (S2 : ES h P R lP X Y C E TT UU SC SP nC nE nS nb na Fa A) (x : fG (st2 Ho Fa P R) h h1) : ES h1 P R lP X Y C E TT UU SC SP nC nE nS nb na Ho A ∧ ES h1 P R lP X Y C E TT UU SC SP nC nE nS nb na Fa A := by
  have a1 := (cs_so S1.G.S S1.c).2
  have a2 := (cs_so S2.G.S S2.c).2
  unfold cAd at a1 a2
  have nP := S1.G.p.n P (by simp)
  have nR := S1.G.p.n R (by simp)
  have no : ∀ j, j < 4 → ¬ st2 Ho Fa P R 35 j := fun j hj w => by
    unfold st2 stW rgW fmW sW at w
    omega
  have G := RG_fG x (fun y hy j w => w.elim (S1.x y hy j) (S2.x y hy j)) (no 2 (by omega)) (no 3 (by omega)) S1.G
  exact ⟨⟨G, (cs_fG x).mpr S1.c, S1.ne⟩, ⟨G, (cs_fG x).mpr S2.c, S2.ne⟩⟩
theorem ES_2U (S1 : ES h P R lP X Y C E TT UU SC SP nC nE nS nb na Ho A) (S2 : ES h P R lP X Y C E TT UU SC SP nC nE nS nb na Fa A) (x : fG (st2 Ho Fa P R) h h1) (U : SU h C E TT UU SC SP nC nE nS lP nb na sN en A t tu sum c0 p0) : SU h1 C E TT UU SC SP nC nE nS lP nb na sN en A t tu sum c0 p0 := SU_fG x (fun b hb j w => w.elim (S1.dt b hb j) (S2.dt b hb j)) U
/-- what was before is copied to both -/
theorem both_cp (S1 : ES h P R lP X Y C E TT UU SC SP nC nE nS nb na Ho A) (S2 : ES h P R lP X Y C E TT UU SC SP nC nE nS nb na Fa A) (ne : Ho ≠ Fa) (r2 : mh_r h 34 2 = some Ho) (r3 : mh_r h 34 3 = some Fa) (r4 : mh_r h 34 4 = some X) : ∃ h', fG (st2 Ho Fa P R) h h' ∧ RS h' Ho (some A) ∧ RS h' Fa (some A) ∧ mh_i h' 35 4 = mh_i h 35 4 ∧ ∀ Q, mcall (d + 4) 21 [.ref 34, .int (Int32.ofNat sum)] h Q = mw (d + 4) 21 Q 34 [some (.ref 34), some (.int (Int32.ofNat sum)), none] [] h' := by
  have g : mg h 34 1 := S1.G.F.g 34 1 9 (by decide +kernel)
  obtain ⟨h1, f1, k1, e1⟩ := l_144 (d := d + 2) 52 S1.so S1.G.k S1.ne
  have F1 : fG (st2 Ho Fa P R) h h1 := fG_w (fG_fq f1) (fun b j w => Or.inl (Or.inr (Or.inr w)))
  obtain ⟨S11, S21⟩ := ES_2 S1 S2 F1
  obtain ⟨h2, f2, k2, e2⟩ := l_144 (d := d + 2) 52 S21.so S21.G.k S21.ne
  have F2 : fG (st2 Ho Fa P R) h1 h2 := fG_w (fG_fq f2) (fun b j w => Or.inr (Or.inr (Or.inr w)))
  obtain ⟨S12, S22⟩ := ES_2 S11 S21 F2
  have k12 := RS_o f2 S21.so S21.w ne k1
  have z : mh_i h2 X 0 = 0 := S12.G.k.1.z
  refine ⟨h2, fG_t F1 F2, k12, k2, ?_, fun Q => ?_⟩
  · rw [(f2.2.2.2.2.2 35 S2.n35.1).1, (f1.2.2.2.2.2 35 S1.n35.1).1]
  · have gH := S1.so.1
    have gF := S21.so.1
    have g1 : mg h1 34 1 := S11.G.F.g 34 1 9 (by decide +kernel)
    have g2 : mg h2 34 1 := S12.G.F.g 34 1 9 (by decide +kernel)
    have gX := (RS_so S1.G.k).1
    have gX2 := (RS_so S12.G.k).1
    have er1 : mh_r h1 = mh_r h := f1.2.2.1
    have er2 : mh_r h2 = mh_r h1 := f2.2.2.1
    have e00 : ((0 : Int32) = 0) = True := by decide
    clear S1 S2 S11 S21 S12 S22 k1 k2 k12 F1 F2 f1 f2
    simp (disch := omega) only [s_21_0, s_21_1, s_21_4, s_21_5, s_21_8, s_21_11, s_21_12, s_21_15, s_21_16, s_21_19, s_21_22, s_21_23, s_21_26, s_21_29, s_21_32, s_21_33, s_21_35, s_21_38, s_21_39, s_21_42, s_21_45, s_21_46, s_21_49, s_21_50, s_21_51, s_21_52, s_21_55, s_21_58, s_21_59, s_21_62, s_21_63, s_21_64, s_21_65, s_21_68, s_21_69, s_21_72, s_21_73, s_21_74, s_21_75, s_21_76, s_21_79, s_21_80, s_21_83, s_21_84, s_21_87, s_21_88, s_21_91, s_21_92, s_21_95, s_21_96, s_21_99, s_21_100, s_21_103, s_21_104, s_21_107, s_21_108, s_21_111, s_21_112, e_21, mv_i_1, mv_l_1, mv_a_1, mv_a_2, mv_a_3, mk2_n, mk2_i, mk2_l, mk2_a, mk2_u, mk2_x, mB_T, mB_F, mS_cons, mS_nil, mSB_T, mSB_F, mca_nil, mca_i, mca_l, mca_r, mca_u, mca_x, mcat_i, mcat_l, mcat_r, mcat_u, mcat_x, mK_some, mK_none, va_rf_s, va_rf_n, lgc_eq, lgc_lt, lgc_gt, lgc_ge, lgc_le, mrd_104, mrd_105, mrd_106, mrd_107, true_and, and_true, and_self, false_and, and_false, true_or, or_true, false_or, or_false, not_true_eq_false, not_false_eq_true, mgb, mga, mgr, mN, reduceCtorEq, ↓reduceIte, eq_self, ge_iff_le, gt_iff_lt, hk_si, hk_sj, hk_sr, hl_si, hl_sj, hl_sr, hn_si, hn_sj, hn_sr, hs_si, hs_sj, hs_sr, hi_sj, hi_sr, hj_si, hj_sr, hr_si, hr_sj, hi_si, hj_sj, hr_sr, mg_si, mg_sj, mg_sr, Nat.reduceAdd, Nat.reduceMul, Nat.reduceSub, Nat.reduceLT, Nat.reduceGT, Nat.reduceEqDiff, Nat.reduceLeDiff, Nat.left_eq_add, Nat.add_eq_left, Nat.reduceMod, Nat.reduceDiv, Nat.succ_ne_self, g, r2, r3, r4, gH, gF, gX, e1, g1, er1, e2, g2, er2, gX2, z, e00]
/-- there is no value: nothing on both sides -/
theorem both_0 (S1 : ES h P R lP X Y C E TT UU SC SP nC nE nS nb na Ho A) (S2 : ES h P R lP X Y C E TT UU SC SP nC nE nS nb na Fa A) (ne : Ho ≠ Fa) (r2 : mh_r h 34 2 = some Ho) (r3 : mh_r h 34 3 = some Fa) (k1 : RS h Ho (some A)) (k2 : RS h Fa (some A)) : ∃ h', fG (st2 Ho Fa P R) h h' ∧ RS h' Ho none ∧ RS h' Fa none ∧ mh_i h' 35 4 = mh_i h 35 4 ∧ ∀ Q, mw (d + 4) 21 Q 64 [some (.ref 34), some (.int (Int32.ofNat sum)), some (.int 0)] [] h = Q (some (.int 0)) h' := by
  have g : mg h 34 1 := S1.G.F.g 34 1 9 (by decide +kernel)
  have a1 := (cs_so S1.G.S S1.c).2
  have a2 := (cs_so S2.G.S S2.c).2
  unfold cAd at a1 a2
  have f1 : fq (sW Ho 52) h (mh_si h Ho 0 1) := fq_si (Or.inl rfl)
  have k2' : RS (mh_si h Ho 0 1) Fa (some A) := RS_o f1 S1.so S1.w (fun z => ne z.symm) k2
  have n1 := RN_on k1
  have n2 := RN_on k2'
  have f2 : fq (sW Fa 52) (mh_si h Ho 0 1) (mh_si (mh_si h Ho 0 1) Fa 0 1) := fq_si (Or.inl rfl)
  have n1' : RS (mh_si (mh_si h Ho 0 1) Fa 0 1) Ho none := RS_o f2 (RS_so k2') (rw_fq f1 S1.w) ne n1
  refine ⟨mh_si (mh_si h Ho 0 1) Fa 0 1, fG_t (fG_si (Or.inl (Or.inr (Or.inr (Or.inl rfl))))) (fG_si (Or.inr (Or.inr (Or.inr (Or.inl rfl))))), n1', n2, ?_, fun Q => ?_⟩
  · rw [hi_si, if_neg (by omega), hi_si, if_neg (by omega)]
  · have gH := S1.so.1
    have gF := S2.so.1
    have e00 : ((0 : Int32) = 0) = True := by decide
    clear S1 S2 k1 k2 k2' n1 n2 n1' f1 f2
    simp (disch := omega) only [s_21_0, s_21_1, s_21_4, s_21_5, s_21_8, s_21_11, s_21_12, s_21_15, s_21_16, s_21_19, s_21_22, s_21_23, s_21_26, s_21_29, s_21_32, s_21_33, s_21_34, s_21_35, s_21_38, s_21_39, s_21_42, s_21_45, s_21_46, s_21_49, s_21_50, s_21_51, s_21_52, s_21_55, s_21_58, s_21_59, s_21_62, s_21_63, s_21_64, s_21_65, s_21_68, s_21_69, s_21_72, s_21_73, s_21_74, s_21_75, s_21_76, s_21_79, s_21_80, s_21_83, s_21_84, s_21_87, s_21_88, s_21_91, s_21_92, s_21_95, s_21_96, s_21_99, s_21_100, s_21_103, s_21_104, s_21_107, s_21_108, s_21_111, s_21_112, e_21, mv_i_1, mv_l_1, mv_a_1, mv_a_2, mv_a_3, mk2_n, mk2_i, mk2_l, mk2_a, mk2_u, mk2_x, mB_T, mB_F, mS_cons, mS_nil, mSB_T, mSB_F, mca_nil, mca_i, mca_l, mca_r, mca_u, mca_x, mcat_i, mcat_l, mcat_r, mcat_u, mcat_x, mK_some, mK_none, va_rf_s, va_rf_n, lgc_eq, lgc_lt, lgc_gt, lgc_ge, lgc_le, mrd_104, mrd_105, mrd_106, mrd_107, true_and, and_true, and_self, false_and, and_false, true_or, or_true, false_or, or_false, not_true_eq_false, not_false_eq_true, mgb, mga, mgr, mN, reduceCtorEq, ↓reduceIte, eq_self, ge_iff_le, gt_iff_lt, hk_si, hk_sj, hk_sr, hl_si, hl_sj, hl_sr, hn_si, hn_sj, hn_sr, hs_si, hs_sj, hs_sr, hi_sj, hi_sr, hj_si, hj_sr, hr_si, hr_sj, hi_si, hj_sj, hr_sr, mg_si, mg_sj, mg_sr, Nat.reduceAdd, Nat.reduceMul, Nat.reduceSub, Nat.reduceLT, Nat.reduceGT, Nat.reduceEqDiff, Nat.reduceLeDiff, Nat.left_eq_add, Nat.add_eq_left, Nat.reduceMod, Nat.reduceDiv, Nat.succ_ne_self, g, r2, r3, gH, gF, e00]
end RBs
