set_option maxRecDepth 100000
/-! the reference's statements with BLOCKs -/
/-- what a statement leaves, from its first rows on -/
def SQz (h h' : mh_H) (nm : Nat → Nat) (KN : Nat → Prop) (X : lcx) (L L' : cen) (b' id bs p bk k : Nat) (q : lyq) : Prop := (fG lyWr h h') ∧ (kpR p (bs + L.length) h h') ∧ (¬ q.1.1 = 0 → mh_i h' 81 47 = Int32.ofNat q.1.1 ∧ mh_i h' 81 48 = Int32.ofNat q.1.2) ∧ (q.1.1 = 0 → (∃ bk', bk ≤ bk' ∧ bk' + 2 * p ≤ bk + 2 * q.2 ∧ RLS h' nm KN X L' b' id bs q.2 bk') ∧ RPo h' nm L X k p ∧ mh_i h' 102 p = Int32.ofNat q.2 ∧ p < q.2)
theorem SQz.of {h h' : mh_H} {nm : Nat → Nat} {KN : Nat → Prop} {X : lcx} {L L' : cen} {b' id bs p bk k : Nat} {q : lyq} (qZ : (fG lyWr h h') ∧ (kpR p (bs + L.length) h h') ∧ (¬ q.1.1 = 0 → mh_i h' 81 47 = Int32.ofNat q.1.1 ∧ mh_i h' 81 48 = Int32.ofNat q.1.2) ∧ (q.1.1 = 0 → (∃ bk', bk ≤ bk' ∧ bk' + 2 * p ≤ bk + 2 * q.2 ∧ RLS h' nm KN X L' b' id bs q.2 bk') ∧ RPo h' nm L X k p ∧ mh_i h' 102 p = Int32.ofNat q.2 ∧ p < q.2)) : SQz h h' nm KN X L L' b' id bs p bk k q := qZ
theorem SQz.f {h h' : mh_H} {nm : Nat → Nat} {KN : Nat → Prop} {X : lcx} {L L' : cen} {b' id bs p bk k : Nat} {q : lyq} (qZ : SQz h h' nm KN X L L' b' id bs p bk k q) : fG lyWr h h' := qZ.1
theorem SQz.k {h h' : mh_H} {nm : Nat → Nat} {KN : Nat → Prop} {X : lcx} {L L' : cen} {b' id bs p bk k : Nat} {q : lyq} (qZ : SQz h h' nm KN X L L' b' id bs p bk k q) : kpR p (bs + L.length) h h' := qZ.2.1
theorem SQz.g {h h' : mh_H} {nm : Nat → Nat} {KN : Nat → Prop} {X : lcx} {L L' : cen} {b' id bs p bk k : Nat} {q : lyq} (qZ : SQz h h' nm KN X L L' b' id bs p bk k q) : ¬ q.1.1 = 0 → mh_i h' 81 47 = Int32.ofNat q.1.1 ∧ mh_i h' 81 48 = Int32.ofNat q.1.2 := qZ.2.2.1
theorem SQz.z {h h' : mh_H} {nm : Nat → Nat} {KN : Nat → Prop} {X : lcx} {L L' : cen} {b' id bs p bk k : Nat} {q : lyq} (qZ : SQz h h' nm KN X L L' b' id bs p bk k q) : q.1.1 = 0 → (∃ bk', bk ≤ bk' ∧ bk' + 2 * p ≤ bk + 2 * q.2 ∧ RLS h' nm KN X L' b' id bs q.2 bk') ∧ RPo h' nm L X k p ∧ mh_i h' 102 p = Int32.ofNat q.2 ∧ p < q.2 := qZ.2.2.2
section CGl
variable {d : Nat} {h h1 h2 : mh_H} {sp : Nat → Nat → Bool} {nm : Nat → Nat} {KN : Nat → Prop} {K : Nat → Int32} {P : Nat → Nat} {D : lyD} {FK : Nat → Nat} {T : tr} {X X' : lcx} {L L' : cen} {b b' id bs p p1 bk k pk n a m cnt g fk zk f : Nat} {t r cs : tr} {o : Int32} {w : Nat × Nat} {q : lyq}
theorem RPo_o (e : ∀ y j, y ≠ 102 → mh_i h1 y j = mh_i h y j) (R : RPo h nm L X k p) : RPo h1 nm L X k p :=
  RPo.of ⟨(e 100 p (by decide)).trans R.k, (e 101 p (by decide)).trans R.o, (e 103 p (by decide)).trans R.n, (e 104 p (by decide)).trans R.a, (e 105 p (by decide)).trans R.m, mnR_c L (fun y j u1 u2 _ _ => e y j (by omega)) R.r, fun s hs => (e 113 _ (by decide)).trans (R.z s hs), fun s hs => (e 114 _ (by decide)).trans (R.y s hs), R.b⟩
/-- its first rows, what it does, its last row -/
theorem SQ_of (hp : p < 249) (f0 : fG prWr h h1) (k0 : kpR p 40 h h1) (R : RPo h1 nm L X k p) (hl : bs + L.length ≤ 40) (S : STz h1 h2 nm KN X L L' b' id bs (p + 1) bk q) : SQz h (mh_si h2 102 p (mh_i h2 81 33)) nm KN X L L' b' id bs p bk k q := by
  have o : ∀ y j, ¬ (y = 102 ∧ j = p) → mh_i (mh_si h2 102 p (mh_i h2 81 33)) y j = mh_i h2 y j := fun y j z => by rw [hi_si, if_neg z]
  have f3 : fG lyWr h2 (mh_si h2 102 p (mh_i h2 81 33)) := fG_si (Or.inl ⟨by decide, by decide⟩)
  have v : mh_i (mh_si h2 102 p (mh_i h2 81 33)) 102 p = mh_i h2 81 33 := by rw [hi_si, if_pos ⟨rfl, rfl⟩]
  generalize mh_si h2 102 p (mh_i h2 81 33) = h3 at o f3 v
  refine SQz.of ⟨fG_t (fG_w f0 (fun b j z => by unfold prWr at z; unfold lyWr; omega)) (fG_t S.f f3), kpR_t (kpR_w k0 (Nat.le_refl _) hl) (kpR_t (kpR_w S.k (show p ≤ p + 1 by omega) (Nat.le_refl _)) ⟨fun y j u1 u2 _ => o y j (by omega), fun y j u1 u2 _ => o y j (by omega), fun y j u1 u2 _ => o y j (by omega), fun j _ => o _ j (by omega), fun j _ => o _ j (by omega)⟩ (Nat.le_refl _) (Nat.le_refl _)) (Nat.le_refl _) (Nat.le_refl _), fun z => ?_, fun z => ?_⟩
  · rw [o 81 47 (by omega), o 81 48 (by omega)]
    exact S.g z
  · obtain ⟨s0, bk', s1, s2, s3⟩ := S.z z
    refine ⟨⟨bk', s1, by omega, ?_⟩, RPo_o (fun y j u => o y j (by omega)) (RPo_k S.k (by omega) R), ?_, by omega⟩
    · exact RLS_k s3 f3 (fun y j u1 u2 _ => o y j (by omega)) (o 81 42 (by omega)) (o 81 43 (by omega)) (o 81 45 (by omega)) (o 81 46 (by omega)) ((o 81 47 (by omega)).trans s3.z) ((o 81 33 (by omega)).trans s3.p) ((o 81 44 (by omega)).trans s3.k) (Nat.le_refl _) s3.q.2.1 s3.q.2.2 ((o 81 48 (by omega)).trans s3.y)
    · rw [v]
      exact s3.p
theorem ST_1 (S : SM1 h h2 nm KN X L L' b b' id bs p1 bk w) : STz h h2 nm KN X L L' b' id bs p1 bk (w, p1) := by
  have f := S.f
  exact STz.of ⟨fG_w f (fun b j z => by unfold gvW at z; unfold lyWr; omega), ⟨fun y j u1 u2 u3 => fG_i f (fun z => by unfold gvW at z; omega), fun y j u1 u2 _ => fG_i f (fun z => by unfold gvW at z; omega), fun y j u1 u2 _ => fG_i f (fun z => by unfold gvW at z; omega), fun j _ => fG_i f (fun z => by unfold gvW at z; omega), fun j _ => fG_i f (fun z => by unfold gvW at z; omega)⟩, S.g, fun z => ⟨Nat.le_refl _, bk, Nat.le_refl _, by show bk + 2 * p1 ≤ bk + 2 * p1 + 2; omega, S.z z⟩⟩
/-- a BLOCK where something is wrong already -/
theorem b_346x (F : RF h) (e : ¬ mh_i h 81 47 = 0) {bl z : Nat} {a2 a3 a4 : Int32} (hb : bl < 26000) (hz : mh_i h 97 bl = Int32.ofNat z) (hz2 : z ≤ 26000) : ∃ h', fG (fun b j => b = 81 ∧ (j = 42 ∨ j = 45 ∨ j = 46)) h h' ∧ ∀ Q, mcall (d + 1) 346 [.ref 81, .int (Int32.ofNat bl), .int a2, .int a3, .int a4] h Q = Q none h' := by
  have g := F.g 81 14 70 (by decide +kernel)
  have e' := eq_false e
  have a0 := c_333 (d := d) (k := bl) (z := z) F hb hz
  have e1' : ∀ k, Int32.ofNat k + 1 = Int32.ofNat (k + 1) := fun k => nn_add (a := k) (b := 1)
  refine ⟨mh_si (mh_si (mh_si h 81 42 (mh_i h 81 42)) 81 45 (mh_i h 81 45)) 81 46 (mh_i h 81 46), fG_t (fG_si ⟨rfl, by decide⟩) (fG_t (fG_si ⟨rfl, by decide⟩) (fG_si ⟨rfl, by decide⟩)), fun Q => ?_⟩
  clear F
  by_cases c : bl + z ≤ bl + 1
  · have le := eq_true c
    simp (disch := omega) only [s_346_0, s_346_1, s_346_4, s_346_6, s_346_7, s_346_10, s_346_12, s_346_13, s_346_16, s_346_18, s_346_19, s_346_20, s_346_21, s_346_23, s_346_25, s_346_26, s_346_27, s_346_30, s_346_33, s_346_34, s_346_37, s_346_40, s_346_41, s_346_43, s_346_44, s_346_45, s_346_46, s_346_48, s_346_51, s_346_52, s_346_54, s_346_57, s_346_59, s_346_62, s_346_63, s_346_65, s_346_68, s_346_69, s_346_71, s_346_74, s_346_75, s_346_77, s_346_80, e_346, mv_i_1, mv_l_1, mv_a_1, mv_a_2, mv_a_3, mk2_n, mk2_i, mk2_l, mk2_a, mk2_u, mk2_x, mB_T, mB_F, mS_cons, mS_nil, mSB_T, mSB_F, mca_nil, mca_i, mca_l, mca_r, mca_u, mca_x, mcat_i, mcat_l, mcat_r, mcat_u, mcat_x, mK_some, mK_none, va_rf_s, va_rf_n, lgc_eq, lgc_lt, lgc_gt, lgc_ge, lgc_le, mrd_104, mrd_105, mrd_106, mrd_107, true_and, and_true, and_self, false_and, and_false, true_or, or_true, false_or, or_false, not_true_eq_false, not_false_eq_true, mgb, mga, mgr, mN, reduceCtorEq, ↓reduceIte, eq_self, ge_iff_le, gt_iff_lt, hk_si, hk_sj, hk_sr, hl_si, hl_sj, hl_sr, hn_si, hn_sj, hn_sr, hs_si, hs_sj, hs_sr, hi_sj, hi_sr, hj_si, hj_sr, hr_si, hr_sj, hi_si, hj_sj, hr_sr, mg_si, mg_sj, mg_sr, Nat.reduceAdd, Nat.reduceMul, Nat.reduceSub, Nat.reduceLT, Nat.reduceGT, Nat.reduceEqDiff, Nat.reduceLeDiff, Nat.left_eq_add, Nat.add_eq_left, Nat.reduceMod, Nat.reduceDiv, Nat.succ_ne_self, g, a0, e1', nn_le, le]
  · have le := eq_false c
    simp (disch := omega) only [s_346_0, s_346_1, s_346_4, s_346_6, s_346_7, s_346_10, s_346_12, s_346_13, s_346_16, s_346_18, s_346_19, s_346_20, s_346_21, s_346_23, s_346_25, s_346_26, s_346_27, s_346_30, s_346_33, s_346_34, s_346_37, s_346_40, s_346_41, s_346_43, s_346_44, s_346_45, s_346_46, s_346_48, s_346_51, s_346_52, s_346_54, s_346_57, s_346_59, s_346_62, s_346_63, s_346_65, s_346_68, s_346_69, s_346_71, s_346_74, s_346_75, s_346_77, s_346_80, e_346, mv_i_1, mv_l_1, mv_a_1, mv_a_2, mv_a_3, mk2_n, mk2_i, mk2_l, mk2_a, mk2_u, mk2_x, mB_T, mB_F, mS_cons, mS_nil, mSB_T, mSB_F, mca_nil, mca_i, mca_l, mca_r, mca_u, mca_x, mcat_i, mcat_l, mcat_r, mcat_u, mcat_x, mK_some, mK_none, va_rf_s, va_rf_n, lgc_eq, lgc_lt, lgc_gt, lgc_ge, lgc_le, mrd_104, mrd_105, mrd_106, mrd_107, true_and, and_true, and_self, false_and, and_false, true_or, or_true, false_or, or_false, not_true_eq_false, not_false_eq_true, mgb, mga, mgr, mN, reduceCtorEq, ↓reduceIte, eq_self, ge_iff_le, gt_iff_lt, hk_si, hk_sj, hk_sr, hl_si, hl_sj, hl_sr, hn_si, hn_sj, hn_sr, hs_si, hs_sj, hs_sr, hi_sj, hi_sr, hj_si, hj_sr, hr_si, hr_sj, hi_si, hj_sj, hr_sr, mg_si, mg_sj, mg_sr, Nat.reduceAdd, Nat.reduceMul, Nat.reduceSub, Nat.reduceLT, Nat.reduceGT, Nat.reduceEqDiff, Nat.reduceLeDiff, Nat.left_eq_add, Nat.add_eq_left, Nat.reduceMod, Nat.reduceDiv, Nat.succ_ne_self, g, a0, e1', nn_le, le, e']
theorem enR_b : ∀ (L : cen) b, enR h nm X bs id L b → (∀ j, j < bs + L.length → ∃ i, i ≤ bk ∧ mh_i h 112 j = Int32.ofNat i) → bk < 90000 → X'.nb = X.nb → X'.na = X.na → enR h nm X' bs (bk + 1) L 0 := by
  intro L
  induction L with
  | nil => exact fun _ _ _ _ _ _ => trivial
  | cons e r ih =>
    obtain ⟨a, z⟩ := e
    intro b w q hb x1 x2
    have q' : ∀ j, j < bs + (r.length + 1) → ∃ i, i ≤ bk ∧ mh_i h 112 j = Int32.ofNat i := q
    obtain ⟨⟨w1, w2, w3, w4, w5, -⟩, w7⟩ := w
    obtain ⟨i, i1, i2⟩ := q' (bs + r.length) (by omega)
    refine ⟨⟨w1, w2, by rw [x1, x2]; exact w3, w4, w5, i, by omega, i2, ⟨fun e => by omega, fun e => by omega⟩⟩, ?_⟩
    exact ih (b - 1) w7 (fun j hj => q' j (by omega)) hb x1 x2
/-- names known in a BLOCK below -/
theorem RLS_b {W : Nat → Nat → Prop} (S : RLS h nm KN X L b id bs p1 bk) (hb : bk + 1 ≤ 2 * p1) (f : fG W h h1) (e : ∀ y j, ¬ (y = 81 ∧ j = 44) → mh_i h1 y j = mh_i h y j) (e44 : mh_i h1 81 44 = Int32.ofNat (bk + 1)) : RLS h1 nm KN (lyB X p) L 0 (bk + 1) bs p1 (bk + 1) := by
  have R := S.R
  have q := S.q
  refine RLS.of ⟨REN.of ⟨RF_G f R.F, (e 81 42 (by omega)).trans R.e, (e 81 43 (by omega)).trans R.b, R.l, ?_, by omega⟩, (e 81 33 (by omega)).trans S.p, e44, (e 81 45 (by omega)).trans S.n, (e 81 46 (by omega)).trans S.a, (e 81 47 (by omega)).trans S.z, EVA_c (fun y j u1 u2 _ => e y j (by omega)) S.v, EID_c (fun j _ => e 112 j (by omega)) (by omega) S.i, ⟨Nat.le_refl _, hb, q.2.2⟩, S.m, S.l, S.w, (e 81 48 (by omega)).trans S.y⟩
  exact enR_b L b (enR_c L b (fun y j u1 u2 _ _ => e y j (by omega)) R.n) (EID_c (fun j _ => e 112 j (by omega)) (Nat.le_refl _) S.i) (by omega) rfl rfl
/-- behind a BLOCK below -/
theorem RLS_e {fb : Bool} {w0 s0 k0 b0 bk0 : Nat} (S : RLS h nm KN X L b id bs p1 bk) (f1 : fG lyWr h h1) (e : ∀ y j, ¬ (y = 81 ∧ j = 44) → mh_i h1 y j = mh_i h y j) (BP : BPz h1 h2 D nm f fb t k0 w0 s0 p1 L b0 (lyB X p) bs bk0 q) (rs : mh_i h2 81 42 = mh_i h1 81 42 ∧ mh_i h2 81 45 = mh_i h1 81 45 ∧ mh_i h2 81 46 = mh_i h1 81 46) (hb : bk ≤ bk0) (hb0 : bk0 ≤ 2 * p1) (z : q.1.1 = 0) : ∃ bk', bk0 ≤ bk' ∧ bk' + 2 * p1 ≤ bk0 + 2 * q.2 ∧ RLS h2 nm KN X L b id bs q.2 bk' := by
  obtain ⟨o1, o2, o3, ⟨bk', o4, o5, o6⟩, o7, o8, o9⟩ := BP.o z
  obtain ⟨r1, r2, r3⟩ := rs
  exact ⟨bk', o4, o5, RLS_k S (fG_t f1 BP.f) (fun y j u1 u2 u3 => (BP.k.1 y j u1 u2 u3).trans (e y j (by omega))) (r1.trans (e _ _ (by omega))) (o3.trans (e _ _ (by omega))) (r2.trans (e _ _ (by omega))) (r3.trans (e _ _ (by omega))) o1 o2 o6 (by omega) (by omega) o7 o9⟩
theorem PTz_k {Pt : Nat → lpt} {lo hi E : Nat} (k : kpR hi E h h1) (w : PTz h nm Pt lo hi) : PTz h1 nm Pt lo hi := fun r r1 r2 => by
  obtain ⟨w1, w2⟩ := w r r1 r2
  exact ⟨RPo_k k r2 w1, (k.2.1 102 r (by decide) (by decide) r2).trans w2⟩
theorem SQ_2 {Pn : (Nat → lpt) → Prop} (hp : p < 249) (f0 : fG prWr h h1) (k0 : kpR p 40 h h1) (R : RPo h1 nm L X k p) (hl : bs + L.length ≤ 40) (S : STz h1 h2 nm KN X L L' b' id bs (p + 1) bk q) (pt : q.1.1 = 0 → ∀ Pt, Pn Pt → PTz h2 nm Pt (p + 1) (Pt p).E) : SQz h (mh_si h2 102 p (mh_i h2 81 33)) nm KN X L L' b' id bs p bk k q ∧ (q.1.1 = 0 → ∀ Pt, Pn Pt → PTz (mh_si h2 102 p (mh_i h2 81 33)) nm Pt (p + 1) (Pt p).E) := by
  refine ⟨SQ_of hp f0 k0 R hl S, fun z Pt ly r r1 r2 => ?_⟩
  obtain ⟨w1, w2⟩ := pt z Pt ly r r1 r2
  exact ⟨RPo_o (fun y j u => by rw [hi_si, if_neg (fun z => u z.1)]) w1, by rw [hi_si, if_neg (by omega)]; exact w2⟩
end CGl
