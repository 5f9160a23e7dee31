set_option maxRecDepth 100000
/-! the reference's call: the function's BLOCK -/
/-- the points from lo to hi -/
def PTz (h : mh_H) (nm : Nat → Nat) (Pt : Nat → lpt) (lo hi : Nat) : Prop := ∀ r, lo ≤ r → r < hi → RPo h nm (Pt r).L (Pt r).X (Pt r).K r ∧ mh_i h 102 r = Int32.ofNat (Pt r).E
/-- what a BLOCK leaves -/
def BPz (h h' : mh_H) (D : lyD) (nm : Nat → Nat) (f : Nat) (fb : Bool) (t : tr) (k w s p : Nat) (L : cen) (b : Nat) (X : lcx) (bs bk : Nat) (q : lyq) : Prop := (fG lyWr h h') ∧ (kpR p (bs + L.length) h h') ∧ (¬ q.1.1 = 0 → mh_i h' 81 47 = Int32.ofNat q.1.1 ∧ mh_i h' 81 48 = Int32.ofNat q.1.2) ∧ (q.1.1 = 0 → mh_i h' 81 47 = 0 ∧ mh_i h' 81 33 = Int32.ofNat q.2 ∧ mh_i h' 81 43 = mh_i h 81 43 ∧ (∃ bk', bk ≤ bk' ∧ bk' + 2 * p ≤ bk + 2 * q.2 ∧ mh_i h' 81 44 = Int32.ofNat bk') ∧ q.2 ≤ 249 ∧ p ≤ q.2 ∧ mh_i h' 81 48 = 0) ∧ (q.1.1 = 0 → ∀ Pt, LYR D Pt f fb t k w s p q.2 L b X → PTz h' nm Pt p q.2)
theorem BPz.of {h h' : mh_H} {D : lyD} {nm : Nat → Nat} {f : Nat} {fb : Bool} {t : tr} {k w s p : Nat} {L : cen} {b : Nat} {X : lcx} {bs bk : Nat} {q : lyq} (qZ : (fG lyWr h h') ∧ (kpR p (bs + L.length) h h') ∧ (¬ q.1.1 = 0 → mh_i h' 81 47 = Int32.ofNat q.1.1 ∧ mh_i h' 81 48 = Int32.ofNat q.1.2) ∧ (q.1.1 = 0 → mh_i h' 81 47 = 0 ∧ mh_i h' 81 33 = Int32.ofNat q.2 ∧ mh_i h' 81 43 = mh_i h 81 43 ∧ (∃ bk', bk ≤ bk' ∧ bk' + 2 * p ≤ bk + 2 * q.2 ∧ mh_i h' 81 44 = Int32.ofNat bk') ∧ q.2 ≤ 249 ∧ p ≤ q.2 ∧ mh_i h' 81 48 = 0) ∧ (q.1.1 = 0 → ∀ Pt, LYR D Pt f fb t k w s p q.2 L b X → PTz h' nm Pt p q.2)) : BPz h h' D nm f fb t k w s p L b X bs bk q := qZ
theorem BPz.f {h h' : mh_H} {D : lyD} {nm : Nat → Nat} {f : Nat} {fb : Bool} {t : tr} {k w s p : Nat} {L : cen} {b : Nat} {X : lcx} {bs bk : Nat} {q : lyq} (qZ : BPz h h' D nm f fb t k w s p L b X bs bk q) : fG lyWr h h' := qZ.1
theorem BPz.k {h h' : mh_H} {D : lyD} {nm : Nat → Nat} {f : Nat} {fb : Bool} {t : tr} {k w s p : Nat} {L : cen} {b : Nat} {X : lcx} {bs bk : Nat} {q : lyq} (qZ : BPz h h' D nm f fb t k w s p L b X bs bk q) : kpR p (bs + L.length) h h' := qZ.2.1
theorem BPz.g {h h' : mh_H} {D : lyD} {nm : Nat → Nat} {f : Nat} {fb : Bool} {t : tr} {k w s p : Nat} {L : cen} {b : Nat} {X : lcx} {bs bk : Nat} {q : lyq} (qZ : BPz h h' D nm f fb t k w s p L b X bs bk q) : ¬ q.1.1 = 0 → mh_i h' 81 47 = Int32.ofNat q.1.1 ∧ mh_i h' 81 48 = Int32.ofNat q.1.2 := qZ.2.2.1
theorem BPz.o {h h' : mh_H} {D : lyD} {nm : Nat → Nat} {f : Nat} {fb : Bool} {t : tr} {k w s p : Nat} {L : cen} {b : Nat} {X : lcx} {bs bk : Nat} {q : lyq} (qZ : BPz h h' D nm f fb t k w s p L b X bs bk q) : q.1.1 = 0 → mh_i h' 81 47 = 0 ∧ mh_i h' 81 33 = Int32.ofNat q.2 ∧ mh_i h' 81 43 = mh_i h 81 43 ∧ (∃ bk', bk ≤ bk' ∧ bk' + 2 * p ≤ bk + 2 * q.2 ∧ mh_i h' 81 44 = Int32.ofNat bk') ∧ q.2 ≤ 249 ∧ p ≤ q.2 ∧ mh_i h' 81 48 = 0 := qZ.2.2.2.1
theorem BPz.r {h h' : mh_H} {D : lyD} {nm : Nat → Nat} {f : Nat} {fb : Bool} {t : tr} {k w s p : Nat} {L : cen} {b : Nat} {X : lcx} {bs bk : Nat} {q : lyq} (qZ : BPz h h' D nm f fb t k w s p L b X bs bk q) : q.1.1 = 0 → ∀ Pt, LYR D Pt f fb t k w s p q.2 L b X → PTz h' nm Pt p q.2 := qZ.2.2.2.2
/-- what a statement leaves -/
def STz (h h' : mh_H) (nm : Nat → Nat) (KN : Nat → Prop) (X : lcx) (L L' : cen) (b' id bs p1 bk : Nat) (q : lyq) : Prop := (fG lyWr h h') ∧ (kpR p1 (bs + L.length) h h') ∧ (¬ q.1.1 = 0 → mh_i h' 81 47 = Int32.ofNat q.1.1 ∧ mh_i h' 81 48 = Int32.ofNat q.1.2) ∧ (q.1.1 = 0 → p1 ≤ q.2 ∧ ∃ bk', bk ≤ bk' ∧ bk' + 2 * p1 ≤ bk + 2 * q.2 + 2 ∧ RLS h' nm KN X L' b' id bs q.2 bk')
theorem STz.of {h h' : mh_H} {nm : Nat → Nat} {KN : Nat → Prop} {X : lcx} {L L' : cen} {b' id bs p1 bk : Nat} {q : lyq} (qZ : (fG lyWr h h') ∧ (kpR p1 (bs + L.length) h h') ∧ (¬ q.1.1 = 0 → mh_i h' 81 47 = Int32.ofNat q.1.1 ∧ mh_i h' 81 48 = Int32.ofNat q.1.2) ∧ (q.1.1 = 0 → p1 ≤ q.2 ∧ ∃ bk', bk ≤ bk' ∧ bk' + 2 * p1 ≤ bk + 2 * q.2 + 2 ∧ RLS h' nm KN X L' b' id bs q.2 bk')) : STz h h' nm KN X L L' b' id bs p1 bk q := qZ
theorem STz.f {h h' : mh_H} {nm : Nat → Nat} {KN : Nat → Prop} {X : lcx} {L L' : cen} {b' id bs p1 bk : Nat} {q : lyq} (qZ : STz h h' nm KN X L L' b' id bs p1 bk q) : fG lyWr h h' := qZ.1
theorem STz.k {h h' : mh_H} {nm : Nat → Nat} {KN : Nat → Prop} {X : lcx} {L L' : cen} {b' id bs p1 bk : Nat} {q : lyq} (qZ : STz h h' nm KN X L L' b' id bs p1 bk q) : kpR p1 (bs + L.length) h h' := qZ.2.1
theorem STz.g {h h' : mh_H} {nm : Nat → Nat} {KN : Nat → Prop} {X : lcx} {L L' : cen} {b' id bs p1 bk : Nat} {q : lyq} (qZ : STz h h' nm KN X L L' b' id bs p1 bk q) : ¬ q.1.1 = 0 → mh_i h' 81 47 = Int32.ofNat q.1.1 ∧ mh_i h' 81 48 = Int32.ofNat q.1.2 := qZ.2.2.1
theorem STz.z {h h' : mh_H} {nm : Nat → Nat} {KN : Nat → Prop} {X : lcx} {L L' : cen} {b' id bs p1 bk : Nat} {q : lyq} (qZ : STz h h' nm KN X L L' b' id bs p1 bk q) : q.1.1 = 0 → p1 ≤ q.2 ∧ ∃ bk', bk ≤ bk' ∧ bk' + 2 * p1 ≤ bk + 2 * q.2 + 2 ∧ RLS h' nm KN X L' b' id bs q.2 bk' := qZ.2.2.2
section CEl
variable {d : Nat} {h h1 h2 : mh_H} {sp : Nat → Nat → Bool} {nm : Nat → Nat} {KN : Nat → Prop} {K : Nat → Int32} {P : Nat → Nat} {D : lyD} {FK : Nat → Nat} {T : tr} {X : lcx} {L L' : cen} {b b' id bs p p1 bk k pk n a m cnt g fk zk : Nat} {t r cs : tr} {o : Int32} {x0 x1 x2 x3 x4 x5 x6 x7 x8 x9 x10 x11 x12 : Option Value} {w : Nat × Nat}
theorem gvN (S : RLS h nm KN X L b id bs p1 bk) (hn : nm a < 100000) (ka : KN a) (c : X.nb + cnZl L < 12) : ∃ hG, giH h (bs + L.length) (Int32.ofNat (nm a)) (Int32.ofNat (X.nb + cnZl L)) 0 (Int32.ofNat id) = hG ∧ fG (gvW (bs + L.length)) h hG ∧ mh_i hG 81 45 = Int32.ofNat (X.nb + cnZl L) ∧ fG (gvW (bs + L.length)) h (mh_si hG 81 45 (Int32.ofNat (X.nb + cnZl L + 1))) ∧ RLS (mh_si hG 81 45 (Int32.ofNat (X.nb + cnZl L + 1))) nm KN X ((a, 0) :: L) (b + 1) id bs p1 bk := by
  obtain ⟨m1, m2⟩ := S.m
  have sl := S.l
  have e45 := S.n
  obtain ⟨g1, g2⟩ := gi_g (h := h) (e := bs + L.length) (a := Int32.ofNat (nm a)) (s := Int32.ofNat (X.nb + cnZl L)) (z := 0) (i := Int32.ofNat id)
  have f1 : fG (gvW (bs + L.length)) h (giH h (bs + L.length) (Int32.ofNat (nm a)) (Int32.ofNat (X.nb + cnZl L)) 0 (Int32.ofNat id)) := by
    unfold giH
    exact fG_t (fG_si (Or.inl ⟨by decide, Nat.le_refl _⟩)) (fG_t (fG_si (Or.inl ⟨by decide, Nat.le_refl _⟩)) (fG_t (fG_si (Or.inl ⟨by decide, Nat.le_refl _⟩)) (fG_t (fG_si (Or.inl ⟨by decide, Nat.le_refl _⟩)) (fG_si (Or.inr ⟨rfl, by decide, by decide, by decide, by decide⟩)))))
  have v : mh_i (giH h (bs + L.length) (Int32.ofNat (nm a)) (Int32.ofNat (X.nb + cnZl L)) 0 (Int32.ofNat id)) 109 (bs + L.length) = Int32.ofNat (nm a) ∧ mh_i (giH h (bs + L.length) (Int32.ofNat (nm a)) (Int32.ofNat (X.nb + cnZl L)) 0 (Int32.ofNat id)) 110 (bs + L.length) = Int32.ofNat (X.nb + cnZl L) ∧ mh_i (giH h (bs + L.length) (Int32.ofNat (nm a)) (Int32.ofNat (X.nb + cnZl L)) 0 (Int32.ofNat id)) 111 (bs + L.length) = 0 ∧ mh_i (giH h (bs + L.length) (Int32.ofNat (nm a)) (Int32.ofNat (X.nb + cnZl L)) 0 (Int32.ofNat id)) 112 (bs + L.length) = Int32.ofNat id ∧ mh_i (giH h (bs + L.length) (Int32.ofNat (nm a)) (Int32.ofNat (X.nb + cnZl L)) 0 (Int32.ofNat id)) 81 42 = Int32.ofNat (bs + L.length + 1) := by
    unfold giH
    refine ⟨?_, ?_, ?_, ?_, ?_⟩
    · rw [hi_si, if_neg (by omega), hi_si, if_neg (by omega), hi_si, if_neg (by omega), hi_si, if_neg (by omega), hi_si, if_pos ⟨rfl, rfl⟩]
    · rw [hi_si, if_neg (by omega), hi_si, if_neg (by omega), hi_si, if_neg (by omega), hi_si, if_pos ⟨rfl, rfl⟩]
    · rw [hi_si, if_neg (by omega), hi_si, if_neg (by omega), hi_si, if_pos ⟨rfl, rfl⟩]
    · rw [hi_si, if_neg (by omega), hi_si, if_pos ⟨rfl, rfl⟩]
    · rw [hi_si, if_pos ⟨rfl, rfl⟩]
  generalize giH h (bs + L.length) (Int32.ofNat (nm a)) (Int32.ofNat (X.nb + cnZl L)) 0 (Int32.ofNat id) = hG at g1 g2 f1 v
  have o2 : ∀ y j, ¬ (y = 81 ∧ j = 45) → mh_i (mh_si hG 81 45 (Int32.ofNat (X.nb + cnZl L + 1))) y j = mh_i hG y j := fun y j q => by rw [hi_si, if_neg q]
  have f2 : fG (gvW (bs + L.length)) hG (mh_si hG 81 45 (Int32.ofNat (X.nb + cnZl L + 1))) := fG_si (Or.inr ⟨rfl, by decide, by decide, by decide, by decide⟩)
  have v45 : mh_i (mh_si hG 81 45 (Int32.ofNat (X.nb + cnZl L + 1))) 81 45 = Int32.ofNat (X.nb + cnZl L + 1) := by rw [hi_si, if_pos ⟨rfl, rfl⟩]
  refine ⟨hG, rfl, f1, (g2 81 45 (by omega) (by omega)).trans e45, fG_t f1 f2, RLS_g S ka hn (by decide) (by rw [cnZ_0]; omega) (by rw [cnA_0]; omega) (fG_t f1 f2) ?_ ?_ ?_ ?_ ?_ ?_ ?_ ?_ ?_ ?_ ?_ ?_ ?_⟩
  · rw [o2 _ _ (by omega)]; exact v.1
  · rw [o2 _ _ (by omega), if_pos rfl]; exact v.2.1
  · rw [o2 _ _ (by omega)]; exact v.2.2.1
  · rw [o2 _ _ (by omega)]; exact v.2.2.2.1
  · intro y j u1 u2 u3
    rw [o2 _ _ (by omega)]
    exact g1 y j (by omega) (by omega)
  · rw [o2 _ _ (by omega)]; exact v.2.2.2.2
  · rw [o2 _ _ (by omega)]; exact g2 81 43 (by omega) (by omega)
  · rw [v45, cnZ_0, Nat.add_assoc]
  · rw [o2 _ _ (by omega), g2 81 46 (by omega) (by omega), cnA_0]; exact S.a
  · rw [o2 _ _ (by omega), g2 81 47 (by omega) (by omega)]; exact S.z
  · rw [o2 _ _ (by omega)]; exact g2 81 33 (by omega) (by omega)
  · rw [o2 _ _ (by omega)]; exact g2 81 44 (by omega) (by omega)
  · rw [o2 _ _ (by omega)]; exact g2 81 48 (by omega) (by omega)
theorem prR_z : ∀ L, prR h nm KN P fk L → cnZl L = L.length ∧ cnAl L = 0 := by
  intro L
  induction L with
  | nil => exact fun _ => ⟨rfl, rfl⟩
  | cons x r ih =>
    obtain ⟨a, z⟩ := x
    intro w
    obtain ⟨⟨w1, -⟩, w2⟩ := w
    subst w1
    obtain ⟨i1, i2⟩ := ih w2
    exact ⟨by rw [cnZ_0, i1]; rfl, by rw [cnA_0, i2]⟩
/-- parameters are given -/
theorem l_348g {FP : cen} (hn : ∀ v, nm v < 100000) (hl : fk + 2 + FP.length < 25000) (m12 : X.nb + FP.length ≤ 12) : ∀ f i h, i + f = FP.length → prR h nm KN P fk FP → RLS h nm KN X (FP.drop f) i id bs p1 bk → ∃ h', fG (gvW bs) h h' ∧ RLS h' nm KN X FP FP.length id bs p1 bk ∧ ∀ Q, mw (d + 1) 348 Q 336 [some (.ref 81), x1, x2, x3, some (.int (Int32.ofNat fk)), some (.int (Int32.ofNat FP.length)), x6, x7, x8, x9, some (.int (Int32.ofNat id)), some (.int (Int32.ofNat i)), x12] [] h = mw (d + 1) 348 Q 382 [some (.ref 81), x1, x2, x3, some (.int (Int32.ofNat fk)), some (.int (Int32.ofNat FP.length)), x6, x7, x8, x9, some (.int (Int32.ofNat id)), some (.int (Int32.ofNat FP.length)), x12] [] h' := by
  intro f
  induction f with
  | zero =>
    intro i h hi pr S
    have ei : i = FP.length := by omega
    subst ei
    refine ⟨h, fG_id, S, fun Q => ?_⟩
    have le : (FP.length ≤ FP.length) = True := eq_true (Nat.le_refl _)
    clear S
    rw [s_348_336]
    simp (disch := omega) only [s_348_0, s_348_1, s_348_2, s_348_3, s_348_4, s_348_5, s_348_7, s_348_8, s_348_11, s_348_12, s_348_13, s_348_14, s_348_15, s_348_17, s_348_20, s_348_21, s_348_22, s_348_23, s_348_24, s_348_25, s_348_28, s_348_31, s_348_32, s_348_33, s_348_36, s_348_37, s_348_38, s_348_39, s_348_40, s_348_43, s_348_46, s_348_48, s_348_49, s_348_52, s_348_55, s_348_56, s_348_58, s_348_59, s_348_62, s_348_63, s_348_64, s_348_65, s_348_68, s_348_69, s_348_70, s_348_71, s_348_73, s_348_76, s_348_78, s_348_79, s_348_80, s_348_81, s_348_83, s_348_84, s_348_86, s_348_87, s_348_88, s_348_89, s_348_91, s_348_93, s_348_94, s_348_95, s_348_98, s_348_101, s_348_104, s_348_105, s_348_107, s_348_110, s_348_112, s_348_115, s_348_117, s_348_119, s_348_122, s_348_123, s_348_124, s_348_125, s_348_128, s_348_129, s_348_130, s_348_131, s_348_134, s_348_135, s_348_136, s_348_137, s_348_138, s_348_140, s_348_143, s_348_144, s_348_146, s_348_149, s_348_152, s_348_153, s_348_155, s_348_156, s_348_159, s_348_160, s_348_161, s_348_162, s_348_163, s_348_164, s_348_166, s_348_168, s_348_169, s_348_170, s_348_173, s_348_176, s_348_177, s_348_179, s_348_182, s_348_185, s_348_186, s_348_187, s_348_189, s_348_192, s_348_194, s_348_197, s_348_198, s_348_201, s_348_203, s_348_204, s_348_207, s_348_209, s_348_210, s_348_213, s_348_215, s_348_216, s_348_217, s_348_220, s_348_223, s_348_224, s_348_225, s_348_228, s_348_229, s_348_230, s_348_233, s_348_234, s_348_237, s_348_239, s_348_240, s_348_242, s_348_244, s_348_246, s_348_249, s_348_250, s_348_252, s_348_254, s_348_256, s_348_259, s_348_260, s_348_263, s_348_265, s_348_266, s_348_267, s_348_269, s_348_270, s_348_271, s_348_272, s_348_275, s_348_277, s_348_278, s_348_279, s_348_281, s_348_282, s_348_283, s_348_286, s_348_287, s_348_288, s_348_290, s_348_291, s_348_292, s_348_294, s_348_295, s_348_298, s_348_299, s_348_300, s_348_303, s_348_306, s_348_309, s_348_312, s_348_313, s_348_316, s_348_318, s_348_319, s_348_321, s_348_324, s_348_325, s_348_327, s_348_328, s_348_331, s_348_332, s_348_333, s_348_334, s_348_338, s_348_340, s_348_343, s_348_344, s_348_345, s_348_348, s_348_350, s_348_351, s_348_352, s_348_354, s_348_355, s_348_356, s_348_357, s_348_360, s_348_361, s_348_363, s_348_366, s_348_367, s_348_368, s_348_371, s_348_372, s_348_373, s_348_376, s_348_379, s_348_382, s_348_383, s_348_384, s_348_386, s_348_389, s_348_391, s_348_392, s_348_394, s_348_397, s_348_398, s_348_400, s_348_403, s_348_404, s_348_406, s_348_409, s_348_410, s_348_412, s_348_415, e_348, mv_i_1, mv_l_1, mv_a_1, mv_a_2, mv_a_3, mk2_n, mk2_i, mk2_l, mk2_a, mk2_u, mk2_x, mB_T, mB_F, mS_cons, mS_nil, mSB_T, mSB_F, mca_nil, mca_i, mca_l, mca_r, mca_u, mca_x, mcat_i, mcat_l, mcat_r, mcat_u, mcat_x, mK_some, mK_none, va_rf_s, va_rf_n, lgc_eq, lgc_lt, lgc_gt, lgc_ge, lgc_le, mrd_104, mrd_105, mrd_106, mrd_107, true_and, and_true, and_self, false_and, and_false, true_or, or_true, false_or, or_false, not_true_eq_false, not_false_eq_true, mgb, mga, mgr, mN, reduceCtorEq, ↓reduceIte, eq_self, ge_iff_le, gt_iff_lt, Nat.reduceAdd, Nat.reduceMul, Nat.reduceSub, Nat.reduceLT, Nat.reduceGT, Nat.reduceEqDiff, Nat.reduceLeDiff, Nat.left_eq_add, Nat.add_eq_left, Nat.reduceMod, Nat.reduceDiv, Nat.succ_ne_self, nn_le, le]
  | succ f ih =>
    intro i h hi pr S
    obtain ⟨a, z, ed⟩ := dr_c (l := FP) (f := f) (by omega)
    have prd := prR_d FP f pr
    rw [ed] at prd
    obtain ⟨⟨w1, w2, w3, w4, w5⟩, w6⟩ := prd
    subst w1
    have ll : (FP.drop (f + 1)).length = i := by rw [List.length_drop]; omega
    obtain ⟨pz1, pz2⟩ := prR_z _ w6
    have F := S.R.F
    have g := F.g 81 14 70 (by decide +kernel)
    have r95 := F.f 81 21 95 (by decide +kernel)
    have g95 := F.g 95 100 26000 (by decide +kernel)
    have l95 := F.l 95 100 26000 (by decide +kernel)
    obtain ⟨hG, eG, f1, e45', f2, S2⟩ := gvN S (hn a) w2 (by rw [pz1, ll]; omega)
    have gi := c_344 (d := d) (a := Int32.ofNat (nm a)) (s := Int32.ofNat (X.nb + cnZl (FP.drop (f + 1)))) (z := 0) (i := Int32.ofNat id) F S.R.e (by have := S.l; have := S.m; omega)
    rw [eG] at gi
    have e45 := S.n
    have gG : mg hG 81 14 := fG_mg f1 g
    have f2' : fG (gvW bs) h (mh_si hG 81 45 (Int32.ofNat (X.nb + cnZl (FP.drop (f + 1)) + 1))) := fG_w f2 (fun b j z => by unfold gvW at z ⊢; omega)
    rw [← ed] at S2
    obtain ⟨h', y1, y2, y3⟩ := ih (i + 1) (mh_si hG 81 45 (Int32.ofNat (X.nb + cnZl (FP.drop (f + 1)) + 1))) (by omega) (prR_c (fun y j u1 u2 => fG_i f2' (fun z => by unfold gvW at z; omega)) _ pr) S2
    refine ⟨h', fG_t f2' y1, y2, fun Q => ?_⟩
    rw [← y3 Q]
    have le : (FP.length ≤ i) = False := eq_false (by omega)
    have e1' : ∀ k, Int32.ofNat k + 1 = Int32.ofNat (k + 1) := fun k => nn_add (a := k) (b := 1)
    have e2' : Int32.ofNat fk + 2 = Int32.ofNat (fk + 2) := nn_add (a := fk) (b := 2)
    have ea : Int32.ofNat (fk + 2) + Int32.ofNat i = Int32.ofNat (fk + 2 + i) := nn_add
    rw [ll] at w3
    clear S S2 F f1 f2 f2' ih y1 y2 y3 pr w6 eG
    rw [s_348_336]
    simp (disch := omega) only [s_348_0, s_348_1, s_348_2, s_348_3, s_348_4, s_348_5, s_348_7, s_348_8, s_348_11, s_348_12, s_348_13, s_348_14, s_348_15, s_348_17, s_348_20, s_348_21, s_348_22, s_348_23, s_348_24, s_348_25, s_348_28, s_348_31, s_348_32, s_348_33, s_348_36, s_348_37, s_348_38, s_348_39, s_348_40, s_348_43, s_348_46, s_348_48, s_348_49, s_348_52, s_348_55, s_348_56, s_348_58, s_348_59, s_348_62, s_348_63, s_348_64, s_348_65, s_348_68, s_348_69, s_348_70, s_348_71, s_348_73, s_348_76, s_348_78, s_348_79, s_348_80, s_348_81, s_348_83, s_348_84, s_348_86, s_348_87, s_348_88, s_348_89, s_348_91, s_348_93, s_348_94, s_348_95, s_348_98, s_348_101, s_348_104, s_348_105, s_348_107, s_348_110, s_348_112, s_348_115, s_348_117, s_348_119, s_348_122, s_348_123, s_348_124, s_348_125, s_348_128, s_348_129, s_348_130, s_348_131, s_348_134, s_348_135, s_348_136, s_348_137, s_348_138, s_348_140, s_348_143, s_348_144, s_348_146, s_348_149, s_348_152, s_348_153, s_348_155, s_348_156, s_348_159, s_348_160, s_348_161, s_348_162, s_348_163, s_348_164, s_348_166, s_348_168, s_348_169, s_348_170, s_348_173, s_348_176, s_348_177, s_348_179, s_348_182, s_348_185, s_348_186, s_348_187, s_348_189, s_348_192, s_348_194, s_348_197, s_348_198, s_348_201, s_348_203, s_348_204, s_348_207, s_348_209, s_348_210, s_348_213, s_348_215, s_348_216, s_348_217, s_348_220, s_348_223, s_348_224, s_348_225, s_348_228, s_348_229, s_348_230, s_348_233, s_348_234, s_348_237, s_348_239, s_348_240, s_348_242, s_348_244, s_348_246, s_348_249, s_348_250, s_348_252, s_348_254, s_348_256, s_348_259, s_348_260, s_348_263, s_348_265, s_348_266, s_348_267, s_348_269, s_348_270, s_348_271, s_348_272, s_348_275, s_348_277, s_348_278, s_348_279, s_348_281, s_348_282, s_348_283, s_348_286, s_348_287, s_348_288, s_348_290, s_348_291, s_348_292, s_348_294, s_348_295, s_348_298, s_348_299, s_348_300, s_348_303, s_348_306, s_348_309, s_348_312, s_348_313, s_348_316, s_348_318, s_348_319, s_348_321, s_348_324, s_348_325, s_348_327, s_348_328, s_348_331, s_348_332, s_348_333, s_348_334, s_348_338, s_348_340, s_348_343, s_348_344, s_348_345, s_348_348, s_348_350, s_348_351, s_348_352, s_348_354, s_348_355, s_348_356, s_348_357, s_348_360, s_348_361, s_348_363, s_348_366, s_348_367, s_348_368, s_348_371, s_348_372, s_348_373, s_348_376, s_348_379, s_348_382, s_348_383, s_348_384, s_348_386, s_348_389, s_348_391, s_348_392, s_348_394, s_348_397, s_348_398, s_348_400, s_348_403, s_348_404, s_348_406, s_348_409, s_348_410, s_348_412, s_348_415, e_348, mv_i_1, mv_l_1, mv_a_1, mv_a_2, mv_a_3, mk2_n, mk2_i, mk2_l, mk2_a, mk2_u, mk2_x, mB_T, mB_F, mS_cons, mS_nil, mSB_T, mSB_F, mca_nil, mca_i, mca_l, mca_r, mca_u, mca_x, mcat_i, mcat_l, mcat_r, mcat_u, mcat_x, mK_some, mK_none, va_rf_s, va_rf_n, lgc_eq, lgc_lt, lgc_gt, lgc_ge, lgc_le, mrd_104, mrd_105, mrd_106, mrd_107, true_and, and_true, and_self, false_and, and_false, true_or, or_true, false_or, or_false, not_true_eq_false, not_false_eq_true, mgb, mga, mgr, mN, reduceCtorEq, ↓reduceIte, eq_self, ge_iff_le, gt_iff_lt, hk_si, hk_sj, hk_sr, hl_si, hl_sj, hl_sr, hn_si, hn_sj, hn_sr, hs_si, hs_sj, hs_sr, hi_sj, hi_sr, hj_si, hj_sr, hr_si, hr_sj, hi_si, hj_sj, hr_sr, mg_si, mg_sj, mg_sr, Nat.reduceAdd, Nat.reduceMul, Nat.reduceSub, Nat.reduceLT, Nat.reduceGT, Nat.reduceEqDiff, Nat.reduceLeDiff, Nat.left_eq_add, Nat.add_eq_left, Nat.reduceMod, Nat.reduceDiv, Nat.succ_ne_self, g, gG, r95, g95, l95, nn_le, le, e45, e45', e2', ea, w3, gi, e1', nn_mxT, nn_clamp]
theorem ST_w (f : fG lyWr h h1) (k : kpR p1 (bs + L.length) h h1) (hw : ¬ w.1 = 0) : STz h (wrH h1 (Int32.ofNat w.1) (Int32.ofNat w.2)) nm KN X L L' b' id bs p1 bk (w, p) := by
  have o : ∀ y j, y ≠ 81 → mh_i (wrH h1 (Int32.ofNat w.1) (Int32.ofNat w.2)) y j = mh_i h1 y j := fun y j hy => by
    unfold wrH
    rw [hi_si, if_neg (fun q => hy q.1), hi_si, if_neg (fun q => hy q.1)]
  refine STz.of ⟨fG_t f ?_, kpR_t k ⟨fun y j u1 u2 _ => o y j (by omega), fun y j u1 u2 _ => o y j (by omega), fun y j u1 u2 _ => o y j (by omega), fun j _ => o _ j (by decide), fun j _ => o _ j (by decide)⟩ (Nat.le_refl _) (Nat.le_refl _), fun _ => ?_, fun z => absurd z hw⟩
  · unfold wrH
    exact fG_t (fG_si (Or.inr ⟨rfl, Or.inr ⟨by decide, by decide⟩⟩)) (fG_si (Or.inr ⟨rfl, Or.inr ⟨by decide, by decide⟩⟩))
  · unfold wrH
    exact ⟨by rw [hi_si, if_neg (by omega), hi_si, if_pos ⟨rfl, rfl⟩], by rw [hi_si, if_pos ⟨rfl, rfl⟩]⟩
theorem lyG_n {q : lyq} {k : Nat → lyq} (h : ¬ q.1.1 = 0) : lyG q k = q := if_neg h
theorem lyG_y {q : lyq} {k : Nat → lyq} (h : q.1.1 = 0) : lyG q k = k q.2 := if_pos h
end CEl
