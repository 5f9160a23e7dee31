set_option maxRecDepth 100000
/-! THE REFERENCE'S layout IS lyT -/
def lyX0 (D : lyD) : lcx := (0, 0, D.c - 1, none, none, fun _ => 0, fun _ => 0, fun _ => 0)
/-- the whole program: what is wrong first, the number of its points -/
def lyT (D : lyD) (f nP : Nat) : lyq := if (D.FP (D.c - 1)).length = 0 then lyQ D f true (D.FT (D.c - 1)) 0 [] 0 (lyX0 D) else ((7, nP), 0)
/-- the end's rows -/
def REz (h : mh_H) (e : Nat) : Prop := (mh_i h 100 e = -1) ∧ (mh_i h 101 e = -1) ∧ (mh_i h 102 e = Int32.ofNat (e + 1)) ∧ (mh_i h 103 e = 0) ∧ (mh_i h 104 e = 0) ∧ (mh_i h 105 e = 0)
theorem REz.of {h : mh_H} {e : Nat} (q : (mh_i h 100 e = -1) ∧ (mh_i h 101 e = -1) ∧ (mh_i h 102 e = Int32.ofNat (e + 1)) ∧ (mh_i h 103 e = 0) ∧ (mh_i h 104 e = 0) ∧ (mh_i h 105 e = 0)) : REz h e := q
theorem REz.k {h : mh_H} {e : Nat} (q : REz h e) : mh_i h 100 e = -1 := q.1
theorem REz.o {h : mh_H} {e : Nat} (q : REz h e) : mh_i h 101 e = -1 := q.2.1
theorem REz.e {h : mh_H} {e : Nat} (q : REz h e) : mh_i h 102 e = Int32.ofNat (e + 1) := q.2.2.1
theorem REz.n {h : mh_H} {e : Nat} (q : REz h e) : mh_i h 103 e = 0 := q.2.2.2.1
theorem REz.a {h : mh_H} {e : Nat} (q : REz h e) : mh_i h 104 e = 0 := q.2.2.2.2.1
theorem REz.m {h : mh_H} {e : Nat} (q : REz h e) : mh_i h 105 e = 0 := q.2.2.2.2.2
section LTl
variable {d : Nat} {h h1 h2 : mh_H} {nm : Nat → Nat} {KN : Nat → Prop} {K : Nat → Int32} {D : lyD} {FK : Nat → Nat} {T : tr} {Sc : cps} {m cnt f N nP e : Nat} {o : Int32}
theorem l_345 (F : RF h) (ec : mh_i h 81 24 = Int32.ofNat cnt) (hc : cnt ≤ 25000) : ∀ t k (x : Int32), trR h nm t k o → k + ts t = cnt → ∃ y, ∀ Q, mw (d + 1) 345 Q 4 [some (.ref 81), some (.int x), some (.int (Int32.ofNat k))] [] h = mw (d + 1) 345 Q 23 [some (.ref 81), some (.int (match lsI t k with | none => x | some j => Int32.ofNat j)), some (.int y)] [] h := by
  have g := F.g 81 14 70 (by decide +kernel)
  intro t
  induction t with
  | leaf _ =>
    intro k x _ hk
    have hk' : k + 0 = cnt := hk
    refine ⟨Int32.ofNat k, fun Q => ?_⟩
    have le : (cnt ≤ k) = True := eq_true (by omega)
    clear F
    rw [s_345_4]
    simp (disch := omega) only [s_345_0, s_345_1, s_345_2, s_345_3, s_345_5, s_345_6, s_345_9, s_345_12, s_345_13, s_345_14, s_345_15, s_345_16, s_345_19, s_345_20, s_345_24, s_345_25, s_345_28, s_345_29, s_345_30, s_345_33, s_345_34, s_345_35, s_345_38, s_345_39, s_345_40, s_345_43, s_345_44, s_345_45, s_345_48, s_345_49, s_345_50, s_345_53, s_345_54, s_345_57, s_345_58, s_345_59, s_345_60, s_345_61, s_345_63, s_345_66, s_345_67, s_345_69, s_345_70, s_345_71, s_345_72, s_345_75, s_345_76, s_345_77, s_345_78, s_345_79, s_345_80, s_345_83, s_345_84, s_345_85, s_345_86, s_345_89, s_345_90, s_345_93, s_345_96, s_345_97, s_345_100, s_345_101, s_345_104, s_345_105, s_345_106, s_345_107, s_345_110, s_345_111, s_345_114, s_345_115, s_345_116, s_345_117, s_345_120, s_345_121, s_345_124, s_345_125, s_345_126, s_345_127, s_345_130, s_345_131, s_345_134, s_345_135, s_345_136, s_345_137, s_345_140, s_345_141, s_345_144, s_345_145, s_345_148, s_345_149, s_345_150, s_345_151, s_345_152, s_345_155, s_345_156, s_345_159, s_345_160, s_345_161, s_345_162, s_345_163, s_345_166, s_345_167, s_345_168, s_345_171, e_345, mv_i_1, mv_l_1, mv_a_1, mv_a_2, mv_a_3, mk2_n, mk2_i, mk2_l, mk2_a, mk2_u, mk2_x, mB_T, mB_F, mS_cons, mS_nil, mSB_T, mSB_F, mca_nil, mca_i, mca_l, mca_r, mca_u, mca_x, mcat_i, mcat_l, mcat_r, mcat_u, mcat_x, mK_some, mK_none, va_rf_s, va_rf_n, lgc_eq, lgc_lt, lgc_gt, lgc_ge, lgc_le, mrd_104, mrd_105, mrd_106, mrd_107, true_and, and_true, and_self, false_and, and_false, true_or, or_true, false_or, or_false, not_true_eq_false, not_false_eq_true, mgb, mga, mgr, mN, reduceCtorEq, ↓reduceIte, eq_self, ge_iff_le, gt_iff_lt, Nat.reduceAdd, Nat.reduceMul, Nat.reduceSub, Nat.reduceLT, Nat.reduceGT, Nat.reduceEqDiff, Nat.reduceLeDiff, Nat.left_eq_add, Nat.add_eq_left, Nat.reduceMod, Nat.reduceDiv, Nat.succ_ne_self, g, ec, nn_le, le, lsI]
  | branch n cs r _ ih =>
    intro k x A hk
    rw [ts_B] at hk
    obtain ⟨⟨t1, t2, t3, t4, t5, t6⟩, -, A2⟩ := A
    have le : (cnt ≤ k) = False := eq_false (by omega)
    have a1 := c_333 (d := d) (k := k) (z := 1 + ts cs) F (by omega) t6
    obtain ⟨y, i1⟩ := ih (k + 1 + ts cs) (Int32.ofNat k) A2 (by omega)
    have ls : (match lsI (.branch n cs r) k with | none => x | some j => Int32.ofNat j) = (match lsI r (k + 1 + ts cs) with | none => Int32.ofNat k | some j => Int32.ofNat j) := by
      have e : lsI (.branch n cs r) k = if ts r = 0 then some k else lsI r (k + 1 + ts cs) := rfl
      rw [e]
      by_cases c : ts r = 0
      · rw [if_pos c]
        obtain ⟨u, hu⟩ := ts_z c
        rw [hu]
        rfl
      · rw [if_neg c]
        cases r with
        | leaf _ => exact absurd rfl c
        | branch n2 cs2 r2 =>
          have : ∀ (t : tr) k, 0 < ts t → ∃ j, lsI t k = some j := by
            intro t
            induction t with
            | leaf _ => intro k h0; exact absurd h0 (by show ¬ 0 < 0; decide)
            | branch a b r' _ ih2 =>
              intro k _
              have e : lsI (.branch a b r') k = if ts r' = 0 then some k else lsI r' (k + 1 + ts b) := rfl
              rw [e]
              by_cases c' : ts r' = 0
              · exact ⟨k, if_pos c'⟩
              · rw [if_neg c']; exact ih2 _ (by omega)
          obtain ⟨j, hj⟩ := this (.branch n2 cs2 r2) (k + 1 + ts cs) (by omega)
          rw [hj]
    refine ⟨y, fun Q => ?_⟩
    have i1' := i1 Q
    rw [show k + 1 + ts cs = k + (1 + ts cs) from by omega] at i1'
    rw [ls, show k + 1 + ts cs = k + (1 + ts cs) from by omega, ← i1']
    clear F ih i1 i1' ls
    rw [s_345_4]
    simp (disch := omega) only [s_345_0, s_345_1, s_345_2, s_345_3, s_345_5, s_345_6, s_345_9, s_345_12, s_345_13, s_345_14, s_345_15, s_345_16, s_345_19, s_345_20, s_345_23, s_345_24, s_345_25, s_345_28, s_345_29, s_345_30, s_345_33, s_345_34, s_345_35, s_345_38, s_345_39, s_345_40, s_345_43, s_345_44, s_345_45, s_345_48, s_345_49, s_345_50, s_345_53, s_345_54, s_345_57, s_345_58, s_345_59, s_345_60, s_345_61, s_345_63, s_345_66, s_345_67, s_345_69, s_345_70, s_345_71, s_345_72, s_345_75, s_345_76, s_345_77, s_345_78, s_345_79, s_345_80, s_345_83, s_345_84, s_345_85, s_345_86, s_345_89, s_345_90, s_345_93, s_345_96, s_345_97, s_345_100, s_345_101, s_345_104, s_345_105, s_345_106, s_345_107, s_345_110, s_345_111, s_345_114, s_345_115, s_345_116, s_345_117, s_345_120, s_345_121, s_345_124, s_345_125, s_345_126, s_345_127, s_345_130, s_345_131, s_345_134, s_345_135, s_345_136, s_345_137, s_345_140, s_345_141, s_345_144, s_345_145, s_345_148, s_345_149, s_345_150, s_345_151, s_345_152, s_345_155, s_345_156, s_345_159, s_345_160, s_345_161, s_345_162, s_345_163, s_345_166, s_345_167, s_345_168, s_345_171, e_345, mv_i_1, mv_l_1, mv_a_1, mv_a_2, mv_a_3, mk2_n, mk2_i, mk2_l, mk2_a, mk2_u, mk2_x, mB_T, mB_F, mS_cons, mS_nil, mSB_T, mSB_F, mca_nil, mca_i, mca_l, mca_r, mca_u, mca_x, mcat_i, mcat_l, mcat_r, mcat_u, mcat_x, mK_some, mK_none, va_rf_s, va_rf_n, lgc_eq, lgc_lt, lgc_gt, lgc_ge, lgc_le, mrd_104, mrd_105, mrd_106, mrd_107, true_and, and_true, and_self, false_and, and_false, true_or, or_true, false_or, or_false, not_true_eq_false, not_false_eq_true, mgb, mga, mgr, mN, reduceCtorEq, ↓reduceIte, eq_self, ge_iff_le, gt_iff_lt, Nat.reduceAdd, Nat.reduceMul, Nat.reduceSub, Nat.reduceLT, Nat.reduceGT, Nat.reduceEqDiff, Nat.reduceLeDiff, Nat.left_eq_add, Nat.add_eq_left, Nat.reduceMod, Nat.reduceDiv, Nat.succ_ne_self, g, ec, nn_le, le, a1]
def zeH (h : mh_H) : mh_H := mh_si (mh_si (mh_si (mh_si (mh_si (mh_si h 81 33 0) 81 42 0) 81 43 0) 81 44 0) 81 45 0) 81 46 0
theorem ze_o {y j : Nat} (q : ¬ (y = 81 ∧ (j = 33 ∨ (42 ≤ j ∧ j ≤ 46)))) : mh_i (zeH h) y j = mh_i h y j := by
  unfold zeH
  rw [hi_si, if_neg (by omega), hi_si, if_neg (by omega), hi_si, if_neg (by omega), hi_si, if_neg (by omega), hi_si, if_neg (by omega), hi_si, if_neg (by omega)]
theorem ze_z {j : Nat} (q : j = 33 ∨ (42 ≤ j ∧ j ≤ 46)) : mh_i (zeH h) 81 j = 0 := by
  unfold zeH
  simp only [hi_si]
  rcases q with q | q
  · subst q; rfl
  · have : j = 42 ∨ j = 43 ∨ j = 44 ∨ j = 45 ∨ j = 46 := by omega
    rcases this with e | e | e | e | e <;> subst e <;> rfl
theorem ze_f : fG lyWr h (zeH h) := by
  unfold zeH
  exact fG_t (fG_si (Or.inr ⟨rfl, Or.inl rfl⟩)) (fG_t (fG_si (Or.inr ⟨rfl, Or.inr ⟨by decide, by decide⟩⟩)) (fG_t (fG_si (Or.inr ⟨rfl, Or.inr ⟨by decide, by decide⟩⟩)) (fG_t (fG_si (Or.inr ⟨rfl, Or.inr ⟨by decide, by decide⟩⟩)) (fG_t (fG_si (Or.inr ⟨rfl, Or.inr ⟨by decide, by decide⟩⟩)) (fG_si (Or.inr ⟨rfl, Or.inr ⟨by decide, by decide⟩⟩))))))
theorem RLS_z (F : RF h) (e47 : mh_i h 81 47 = 0) (e48 : mh_i h 81 48 = 0) : RLS (zeH h) nm KN (lyX0 D) [] 0 0 0 0 0 := by
  have x1 : (lyX0 D).nb = 0 := rfl
  have x2 : (lyX0 D).na = 0 := rfl
  have z1 : cnZl [] = 0 := rfl
  have z2 : cnAl [] = 0 := rfl
  have l0 : ([] : cen).length = 0 := rfl
  have i0 : Int32.ofNat 0 = 0 := rfl
  refine RLS.of ⟨REN.of ⟨F, ?_, ?_, by rw [l0]; decide, trivial, by decide⟩, ?_, ?_, ?_, ?_, ?_, ?_, ?_, ⟨Nat.le_refl _, Nat.le_refl _, by decide⟩, ⟨by rw [x1, z1]; decide, by rw [x2, z2]; decide⟩, by rw [x1, x2, z1, z2, l0], fun a z mem => absurd mem (by simp), (ze_o (by omega)).trans e48⟩
  · rw [l0, Nat.add_zero, i0]; exact ze_z (by omega)
  · rw [i0]; exact ze_z (by omega)
  · rw [i0]; exact ze_z (by omega)
  · rw [i0]; exact ze_z (by omega)
  · rw [x1, z1, Nat.add_zero, i0]; exact ze_z (by omega)
  · rw [x2, z2, Nat.add_zero, i0]; exact ze_z (by omega)
  · rw [ze_o (by omega)]; exact e47
  · rw [x1, x2, z1, z2, l0]
    exact ⟨fun j hj => absurd hj (Nat.not_lt_zero _), fun j hj => absurd hj (Nat.not_lt_zero _), fun j hj => absurd hj (Nat.not_lt_zero _)⟩
  · rw [l0]
    exact fun j hj => absurd hj (Nat.not_lt_zero _)
def enH (h : mh_H) (e : Nat) : mh_H := mh_si (mh_si (mh_si (mh_si (mh_si (mh_si (mh_si h 100 e (-1)) 101 e (-1)) 103 e 0) 104 e 0) 102 e (Int32.ofNat (e + 1))) 105 e 0) 81 33 (Int32.ofNat (e + 1))
theorem en_o {y j : Nat} (q : ¬ (100 ≤ y ∧ y ≤ 105 ∧ j = e)) (q2 : ¬ (y = 81 ∧ j = 33)) : mh_i (enH h e) y j = mh_i h y j := by
  unfold enH
  rw [hi_si, if_neg (by omega), hi_si, if_neg (by omega), hi_si, if_neg (by omega), hi_si, if_neg (by omega), hi_si, if_neg (by omega), hi_si, if_neg (by omega), hi_si, if_neg (by omega)]
theorem en_f : fG lyWr h (enH h e) := by
  unfold enH
  exact fG_t (fG_si (Or.inl ⟨by decide, by decide⟩)) (fG_t (fG_si (Or.inl ⟨by decide, by decide⟩)) (fG_t (fG_si (Or.inl ⟨by decide, by decide⟩)) (fG_t (fG_si (Or.inl ⟨by decide, by decide⟩)) (fG_t (fG_si (Or.inl ⟨by decide, by decide⟩)) (fG_t (fG_si (Or.inl ⟨by decide, by decide⟩)) (fG_si (Or.inr ⟨rfl, Or.inl rfl⟩)))))))
theorem en_z : REz (enH h e) e ∧ mh_i (enH h e) 81 33 = Int32.ofNat (e + 1) := by
  unfold enH
  refine ⟨REz.of ⟨?_, ?_, ?_, ?_, ?_, ?_⟩, ?_⟩
  · rw [hi_si, if_neg (by omega), hi_si, if_neg (by omega), hi_si, if_neg (by omega), hi_si, if_neg (by omega), hi_si, if_neg (by omega), hi_si, if_neg (by omega), hi_si, if_pos ⟨rfl, rfl⟩]
  · rw [hi_si, if_neg (by omega), hi_si, if_neg (by omega), hi_si, if_neg (by omega), hi_si, if_neg (by omega), hi_si, if_neg (by omega), hi_si, if_pos ⟨rfl, rfl⟩]
  · rw [hi_si, if_neg (by omega), hi_si, if_neg (by omega), hi_si, if_pos ⟨rfl, rfl⟩]
  · rw [hi_si, if_neg (by omega), hi_si, if_neg (by omega), hi_si, if_neg (by omega), hi_si, if_neg (by omega), hi_si, if_pos ⟨rfl, rfl⟩]
  · rw [hi_si, if_neg (by omega), hi_si, if_neg (by omega), hi_si, if_neg (by omega), hi_si, if_pos ⟨rfl, rfl⟩]
  · rw [hi_si, if_neg (by omega), hi_si, if_pos ⟨rfl, rfl⟩]
  · rw [hi_si, if_pos ⟨rfl, rfl⟩]
theorem u_345 (C : RLC h nm KN D K m cnt FK T) (F : RF h) (hc : 0 < D.c) (STg : ∀ g, g < D.c → ∃ k', stR D.sp Sc g N true (D.FT g) (D.S g) k' (D.FP g) (D.FP g).length) (e47 : mh_i h 81 47 = 0) (e48 : mh_i h 81 48 = 0) (hL : lsI T 1 = some (FK (D.c - 1))) (eP : mh_i h 94 (FK (D.c - 1) + 1) = Int32.ofNat nP) (hf : ts (D.FT (D.c - 1)) + rkF D (D.c - 1) ≤ f) (hd : 761 ≤ d) : ∃ h', fG lyWr h h' ∧ (¬ (lyT D f nP).1.1 = 0 → mh_i h' 81 47 = Int32.ofNat (lyT D f nP).1.1 ∧ mh_i h' 81 48 = Int32.ofNat (lyT D f nP).1.2) ∧ ((lyT D f nP).1.1 = 0 → mh_i h' 81 47 = 0 ∧ mh_i h' 81 48 = 0 ∧ mh_i h' 81 33 = Int32.ofNat ((lyT D f nP).2 + 1) ∧ (lyT D f nP).2 ≤ 249 ∧ (D.FP (D.c - 1)).length = 0 ∧ REz h' (lyT D f nP).2 ∧ ∀ Pt, LYR D Pt f true (D.FT (D.c - 1)) (D.B (D.c - 1) + 1) (D.B (D.c - 1)) (D.S (D.c - 1)) 0 (lyT D f nP).2 [] 0 (lyX0 D) → PTz h' nm Pt 0 (lyT D f nP).2) ∧ ∀ Q, mcall (d + 1) 345 [.ref 81] h Q = Q none h' := by
  have hM : D.c - 1 < D.c := by omega
  have hcn := C.c
  obtain ⟨T1, T2, T3⟩ := C.T
  obtain ⟨y2, lp⟩ := l_345 (d := d) (nm := nm) (o := Int32.ofNat 0) F hcn.1 hcn.2 T 1 (-1) T1 T2
  rw [hL] at lp
  have FQ := C.f (D.c - 1) hM
  have B := FQ.B
  have u := FQ.u
  obtain ⟨w1, w2, w3⟩ := FQ.w
  have g := F.g 81 14 70 (by decide +kernel)
  have e2' : ∀ k, Int32.ofNat k + 2 = Int32.ofNat (k + 2) := fun k => nn_add (a := k) (b := 2)
  have e1' : ∀ k, Int32.ofNat k + 1 = Int32.ofNat (k + 1) := fun k => nn_add (a := k) (b := 1)
  have ent : ∀ Q, mcall (d + 1) 345 [.ref 81] h Q = mw (d + 1) 345 Q 53 [some (.ref 81), some (.int (Int32.ofNat (FK (D.c - 1)))), some (.int y2)] [] (zeH h) := fun Q => by
    have st : mcall (d + 1) 345 [.ref 81] h Q = mw (d + 1) 345 Q 4 [some (.ref 81), some (.int (-1)), some (.int (Int32.ofNat 1))] [] h := by
      rw [show Int32.ofNat 1 = 1 from rfl]
      clear lp C F FQ T1 T3
      simp (disch := omega) only [s_345_0, s_345_1, s_345_2, s_345_3, s_345_5, s_345_6, s_345_9, s_345_12, s_345_13, s_345_14, s_345_15, s_345_16, s_345_19, s_345_20, s_345_23, s_345_24, s_345_25, s_345_28, s_345_29, s_345_30, s_345_33, s_345_34, s_345_35, s_345_38, s_345_39, s_345_40, s_345_43, s_345_44, s_345_45, s_345_48, s_345_49, s_345_50, s_345_53, s_345_54, s_345_57, s_345_58, s_345_59, s_345_60, s_345_61, s_345_63, s_345_66, s_345_67, s_345_69, s_345_70, s_345_71, s_345_72, s_345_75, s_345_76, s_345_77, s_345_78, s_345_79, s_345_80, s_345_83, s_345_84, s_345_85, s_345_86, s_345_89, s_345_90, s_345_93, s_345_96, s_345_97, s_345_100, s_345_101, s_345_104, s_345_105, s_345_106, s_345_107, s_345_110, s_345_111, s_345_114, s_345_115, s_345_116, s_345_117, s_345_120, s_345_121, s_345_124, s_345_125, s_345_126, s_345_127, s_345_130, s_345_131, s_345_134, s_345_135, s_345_136, s_345_137, s_345_140, s_345_141, s_345_144, s_345_145, s_345_148, s_345_149, s_345_150, s_345_151, s_345_152, s_345_155, s_345_156, s_345_159, s_345_160, s_345_161, s_345_162, s_345_163, s_345_166, s_345_167, s_345_168, s_345_171, e_345, mv_i_1, mv_l_1, mv_a_1, mv_a_2, mv_a_3, mk2_n, mk2_i, mk2_l, mk2_a, mk2_u, mk2_x, mB_T, mB_F, mS_cons, mS_nil, mSB_T, mSB_F, mca_nil, mca_i, mca_l, mca_r, mca_u, mca_x, mcat_i, mcat_l, mcat_r, mcat_u, mcat_x, mK_some, mK_none, va_rf_s, va_rf_n, lgc_eq, lgc_lt, lgc_gt, lgc_ge, lgc_le, mrd_104, mrd_105, mrd_106, mrd_107, true_and, and_true, and_self, false_and, and_false, true_or, or_true, false_or, or_false, not_true_eq_false, not_false_eq_true, mgb, mga, mgr, mN, reduceCtorEq, ↓reduceIte, eq_self, ge_iff_le, gt_iff_lt, Nat.reduceAdd, Nat.reduceMul, Nat.reduceSub, Nat.reduceLT, Nat.reduceGT, Nat.reduceEqDiff, Nat.reduceLeDiff, Nat.left_eq_add, Nat.add_eq_left, Nat.reduceMod, Nat.reduceDiv, Nat.succ_ne_self]
    refine st.trans ((lp Q).trans ?_)
    unfold zeH
    clear st lp C F FQ T1 T3
    simp (disch := omega) only [s_345_0, s_345_1, s_345_2, s_345_3, s_345_4, s_345_5, s_345_6, s_345_9, s_345_12, s_345_13, s_345_14, s_345_15, s_345_16, s_345_19, s_345_20, s_345_23, s_345_24, s_345_25, s_345_28, s_345_29, s_345_30, s_345_33, s_345_34, s_345_35, s_345_38, s_345_39, s_345_40, s_345_43, s_345_44, s_345_45, s_345_48, s_345_49, s_345_50, s_345_54, s_345_57, s_345_58, s_345_59, s_345_60, s_345_61, s_345_63, s_345_66, s_345_67, s_345_69, s_345_70, s_345_71, s_345_72, s_345_75, s_345_76, s_345_77, s_345_78, s_345_79, s_345_80, s_345_83, s_345_84, s_345_85, s_345_86, s_345_89, s_345_90, s_345_93, s_345_96, s_345_97, s_345_100, s_345_101, s_345_104, s_345_105, s_345_106, s_345_107, s_345_110, s_345_111, s_345_114, s_345_115, s_345_116, s_345_117, s_345_120, s_345_121, s_345_124, s_345_125, s_345_126, s_345_127, s_345_130, s_345_131, s_345_134, s_345_135, s_345_136, s_345_137, s_345_140, s_345_141, s_345_144, s_345_145, s_345_148, s_345_149, s_345_150, s_345_151, s_345_152, s_345_155, s_345_156, s_345_159, s_345_160, s_345_161, s_345_162, s_345_163, s_345_166, s_345_167, s_345_168, s_345_171, e_345, mv_i_1, mv_l_1, mv_a_1, mv_a_2, mv_a_3, mk2_n, mk2_i, mk2_l, mk2_a, mk2_u, mk2_x, mB_T, mB_F, mS_cons, mS_nil, mSB_T, mSB_F, mca_nil, mca_i, mca_l, mca_r, mca_u, mca_x, mcat_i, mcat_l, mcat_r, mcat_u, mcat_x, mK_some, mK_none, va_rf_s, va_rf_n, lgc_eq, lgc_lt, lgc_gt, lgc_ge, lgc_le, mrd_104, mrd_105, mrd_106, mrd_107, true_and, and_true, and_self, false_and, and_false, true_or, or_true, false_or, or_false, not_true_eq_false, not_false_eq_true, mgb, mga, mgr, mN, reduceCtorEq, ↓reduceIte, eq_self, ge_iff_le, gt_iff_lt, hk_si, hk_sj, hk_sr, hl_si, hl_sj, hl_sr, hn_si, hn_sj, hn_sr, hs_si, hs_sj, hs_sr, hi_sj, hi_sr, hj_si, hj_sr, hr_si, hr_sj, hi_si, hj_sj, hr_sr, mg_si, mg_sj, mg_sr, Nat.reduceAdd, Nat.reduceMul, Nat.reduceSub, Nat.reduceLT, Nat.reduceGT, Nat.reduceEqDiff, Nat.reduceLeDiff, Nat.left_eq_add, Nat.add_eq_left, Nat.reduceMod, Nat.reduceDiv, Nat.succ_ne_self, g]
  have FZ : RF (zeH h) := RF_G ze_f F
  have CZ : RLC (zeH h) nm KN D K m cnt FK T := RLC_G ze_f (fun b j z => by unfold lyWr at z; omega) C
  have SZ : RLS (zeH h) nm KN (lyX0 D) [] 0 0 0 0 0 := RLS_z F e47 e48
  have z47 : mh_i (zeH h) 81 47 = 0 := (ze_o (by omega)).trans e47
  have z94 : mh_i (zeH h) 94 (FK (D.c - 1) + 1) = Int32.ofNat nP := (ze_o (by omega)).trans eP
  have fZ : fG lyWr h (zeH h) := ze_f
  have FQz := CZ.f (D.c - 1) hM
  generalize zeH h = hZ at ent FZ CZ SZ z47 z94 fZ FQz
  have gZ := FZ.g 81 14 70 (by decide +kernel)
  have r93 := FZ.f 81 19 93 (by decide +kernel)
  have g93 := FZ.g 93 102 26000 (by decide +kernel)
  have g93a := g93.1
  have g93b := g93.2
  have l93 := FZ.l 93 102 26000 (by decide +kernel)
  unfold lyT
  by_cases cp : (D.FP (D.c - 1)).length = 0
  · rw [if_pos cp]
    have k2 : mh_i hZ 93 (FK (D.c - 1) + 2) = 2 := by
      have := FQz.n
      rw [B, cp] at this
      exact this
    have n13 : ((2 : Int32) = 13) = False := by decide
    have i337 : ∀ Q, mcall d 337 [.ref 81, .int (Int32.ofNat (FK (D.c - 1)))] hZ Q = Q (some (.int (Int32.ofNat (D.B (D.c - 1))))) hZ := fun Q => by
      rw [c_337 (fn := FK (D.c - 1)) (q := 1 + (D.FP (D.c - 1)).length) FZ FQz.k (by rw [show FK (D.c - 1) + 1 + (1 + (D.FP (D.c - 1)).length) = D.B (D.c - 1) from by omega, FQz.n]; decide) (by omega) Q, show FK (D.c - 1) + 1 + (1 + (D.FP (D.c - 1)).length) = D.B (D.c - 1) from by omega]
    obtain ⟨k', Sg⟩ := STg (D.c - 1) hM
    have fp0 : D.FP (D.c - 1) = [] := List.eq_nil_of_length_eq_zero cp
    rw [fp0] at Sg
    obtain ⟨w1', w2', w3'⟩ := FQz.w
    obtain ⟨hB, BP, -, run⟩ := BL_of (RW_all (N := N) STg f) true (D.FT (D.c - 1)) (D.S (D.c - 1)) 0 [] 0 (lyX0 D) 0 0 0 hZ (D.B (D.c - 1)) N k' 2 d CZ SZ Sg hM hf FQz.t FQz.s u ⟨FQz.v, FQz.y⟩ ⟨by omega, Or.inr ⟨FK (D.c - 1), w1', w3', by omega, ⟨by omega, Or.inl ⟨w2', rfl⟩⟩⟩⟩ (by omega) (fun _ => rfl) (fun z => by cases z) (by omega)
    have run' : ∀ Q, mcall d 346 [.ref 81, .int (Int32.ofNat (D.B (D.c - 1))), .int (Int32.ofNat (FK (D.c - 1))), .int (-1), .int 0] hZ Q = Q none hB := run
    have FB := RF_G BP.f FZ
    have lb := lyQ_b (D := D) f true (D.FT (D.c - 1)) 0 [] 0 (lyX0 D)
    generalize lyQ D f true (D.FT (D.c - 1)) 0 [] 0 (lyX0 D) = Q0 at BP lb ⊢
    have st1 : ∀ Q, mcall (d + 1) 345 [.ref 81] h Q = mw (d + 1) 345 Q 89 [some (.ref 81), some (.int (Int32.ofNat (FK (D.c - 1)))), some (.int y2)] [] hB := fun Q => by
      rw [ent Q]
      clear C CZ F FZ FQ FQz T1 T3 BP SZ FB ent lp STg
      simp (disch := omega) only [s_345_0, s_345_1, s_345_2, s_345_3, s_345_4, s_345_5, s_345_6, s_345_9, s_345_12, s_345_13, s_345_14, s_345_15, s_345_16, s_345_19, s_345_20, s_345_23, s_345_24, s_345_25, s_345_28, s_345_29, s_345_30, s_345_33, s_345_34, s_345_35, s_345_38, s_345_39, s_345_40, s_345_43, s_345_44, s_345_45, s_345_48, s_345_49, s_345_50, s_345_53, s_345_54, s_345_57, s_345_58, s_345_59, s_345_60, s_345_61, s_345_63, s_345_66, s_345_67, s_345_69, s_345_70, s_345_71, s_345_72, s_345_75, s_345_76, s_345_77, s_345_78, s_345_79, s_345_80, s_345_83, s_345_84, s_345_85, s_345_86, s_345_90, s_345_93, s_345_96, s_345_97, s_345_100, s_345_101, s_345_104, s_345_105, s_345_106, s_345_107, s_345_110, s_345_111, s_345_114, s_345_115, s_345_116, s_345_117, s_345_120, s_345_121, s_345_124, s_345_125, s_345_126, s_345_127, s_345_130, s_345_131, s_345_134, s_345_135, s_345_136, s_345_137, s_345_140, s_345_141, s_345_144, s_345_145, s_345_148, s_345_149, s_345_150, s_345_151, s_345_152, s_345_155, s_345_156, s_345_159, s_345_160, s_345_161, s_345_162, s_345_163, s_345_166, s_345_167, s_345_168, s_345_171, e_345, mv_i_1, mv_l_1, mv_a_1, mv_a_2, mv_a_3, mk2_n, mk2_i, mk2_l, mk2_a, mk2_u, mk2_x, mB_T, mB_F, mS_cons, mS_nil, mSB_T, mSB_F, mca_nil, mca_i, mca_l, mca_r, mca_u, mca_x, mcat_i, mcat_l, mcat_r, mcat_u, mcat_x, mK_some, mK_none, va_rf_s, va_rf_n, lgc_eq, lgc_lt, lgc_gt, lgc_ge, lgc_le, mrd_104, mrd_105, mrd_106, mrd_107, true_and, and_true, and_self, false_and, and_false, true_or, or_true, false_or, or_false, not_true_eq_false, not_false_eq_true, mgb, mga, mgr, mN, reduceCtorEq, ↓reduceIte, eq_self, ge_iff_le, gt_iff_lt, Nat.reduceAdd, Nat.reduceMul, Nat.reduceSub, Nat.reduceLT, Nat.reduceGT, Nat.reduceEqDiff, Nat.reduceLeDiff, Nat.left_eq_add, Nat.add_eq_left, Nat.reduceMod, Nat.reduceDiv, Nat.succ_ne_self, gZ, r93, g93, g93a, g93b, l93, e2', k2, n13, i337, run', nn_mxT, nn_clamp]
    by_cases z1 : Q0.1.1 = 0
    · obtain ⟨o1, o2, o3, -, o7, o8, o9⟩ := BP.o z1
      have F := FB
      have g := F.g 81 14 70 (by decide +kernel)
      have r100 := F.f 81 28 100 (by decide +kernel)
      have g100 := F.g 100 100 250 (by decide +kernel)
      have l100 := F.l 100 100 250 (by decide +kernel)
      have r101 := F.f 81 29 101 (by decide +kernel)
      have g101 := F.g 101 100 250 (by decide +kernel)
      have l101 := F.l 101 100 250 (by decide +kernel)
      have r102 := F.f 81 30 102 (by decide +kernel)
      have g102 := F.g 102 100 250 (by decide +kernel)
      have l102 := F.l 102 100 250 (by decide +kernel)
      have r103 := F.f 81 31 103 (by decide +kernel)
      have g103 := F.g 103 100 250 (by decide +kernel)
      have l103 := F.l 103 100 250 (by decide +kernel)
      have r104 := F.f 81 32 104 (by decide +kernel)
      have g104 := F.g 104 100 250 (by decide +kernel)
      have l104 := F.l 104 100 250 (by decide +kernel)
      have r105 := F.f 81 34 105 (by decide +kernel)
      have g105 := F.g 105 100 251 (by decide +kernel)
      have l105 := F.l 105 100 251 (by decide +kernel)
      have ne : (mh_i hB 81 47 = 0) = True := eq_true o1
      have run2 : ∀ Q, mcall (d + 1) 345 [.ref 81] h Q = Q none (enH hB Q0.2) := fun Q => by
        rw [st1 Q]
        unfold enH
        clear C CZ FZ FQ FQz T1 T3 BP SZ FB F ent lp STg st1
        simp (disch := omega) only [s_345_0, s_345_1, s_345_2, s_345_3, s_345_4, s_345_5, s_345_6, s_345_9, s_345_12, s_345_13, s_345_14, s_345_15, s_345_16, s_345_19, s_345_20, s_345_23, s_345_24, s_345_25, s_345_28, s_345_29, s_345_30, s_345_33, s_345_34, s_345_35, s_345_38, s_345_39, s_345_40, s_345_43, s_345_44, s_345_45, s_345_48, s_345_49, s_345_50, s_345_53, s_345_54, s_345_57, s_345_58, s_345_59, s_345_60, s_345_61, s_345_63, s_345_66, s_345_67, s_345_69, s_345_70, s_345_71, s_345_72, s_345_75, s_345_76, s_345_77, s_345_78, s_345_79, s_345_80, s_345_83, s_345_84, s_345_85, s_345_86, s_345_89, s_345_90, s_345_93, s_345_96, s_345_97, s_345_100, s_345_101, s_345_104, s_345_105, s_345_106, s_345_107, s_345_110, s_345_111, s_345_114, s_345_115, s_345_116, s_345_117, s_345_120, s_345_121, s_345_124, s_345_125, s_345_126, s_345_127, s_345_130, s_345_131, s_345_134, s_345_135, s_345_136, s_345_137, s_345_140, s_345_141, s_345_144, s_345_145, s_345_148, s_345_149, s_345_150, s_345_151, s_345_152, s_345_155, s_345_156, s_345_159, s_345_160, s_345_161, s_345_162, s_345_163, s_345_166, s_345_167, s_345_168, s_345_171, e_345, mv_i_1, mv_l_1, mv_a_1, mv_a_2, mv_a_3, mk2_n, mk2_i, mk2_l, mk2_a, mk2_u, mk2_x, mB_T, mB_F, mS_cons, mS_nil, mSB_T, mSB_F, mca_nil, mca_i, mca_l, mca_r, mca_u, mca_x, mcat_i, mcat_l, mcat_r, mcat_u, mcat_x, mK_some, mK_none, va_rf_s, va_rf_n, lgc_eq, lgc_lt, lgc_gt, lgc_ge, lgc_le, mrd_104, mrd_105, mrd_106, mrd_107, true_and, and_true, and_self, false_and, and_false, true_or, or_true, false_or, or_false, not_true_eq_false, not_false_eq_true, mgb, mga, mgr, mN, reduceCtorEq, ↓reduceIte, eq_self, ge_iff_le, gt_iff_lt, hk_si, hk_sj, hk_sr, hl_si, hl_sj, hl_sr, hn_si, hn_sj, hn_sr, hs_si, hs_sj, hs_sr, hi_sj, hi_sr, hj_si, hj_sr, hr_si, hr_sj, hi_si, hj_sj, hr_sr, mg_si, mg_sj, mg_sr, Nat.reduceAdd, Nat.reduceMul, Nat.reduceSub, Nat.reduceLT, Nat.reduceGT, Nat.reduceEqDiff, Nat.reduceLeDiff, Nat.left_eq_add, Nat.add_eq_left, Nat.reduceMod, Nat.reduceDiv, Nat.succ_ne_self, g, ne, r100, g100, l100, r101, g101, l101, r102, g102, l102, r103, g103, l103, r104, g104, l104, r105, g105, l105, o2, e1', nn_mxT, nn_clamp]
      obtain ⟨ez1, ez2⟩ := en_z (h := hB) (e := Q0.2)
      refine ⟨enH hB Q0.2, fG_t fZ (fG_t BP.f en_f), fun z => absurd z1 z, fun _ => ⟨(en_o (by omega) (by omega)).trans o1, (en_o (by omega) (by omega)).trans o9, ez2, o7, cp, ez1, fun Pt ly r r1 r2 => ?_⟩, run2⟩
      obtain ⟨v1, v2⟩ := BP.r z1 Pt ly r r1 r2
      have kk : kpR Q0.2 0 hB (enH hB Q0.2) := ⟨fun y j u1 u2 u3 => absurd u3 (Nat.not_lt_zero _), fun y j u1 u2 u3 => en_o (by omega) (by omega), fun y j u1 u2 _ => en_o (by omega) (by omega), fun j _ => en_o (by omega) (by omega), fun j _ => en_o (by omega) (by omega)⟩
      exact ⟨RPo_k kk r2 v1, (en_o (by omega) (by omega)).trans v2⟩
    · obtain ⟨g1, g2⟩ := BP.g z1
      have gB := FB.g 81 14 70 (by decide +kernel)
      have ne : (mh_i hB 81 47 = 0) = False := by
        rw [g1, show (0 : Int32) = Int32.ofNat 0 from rfl, nn_eq (by omega) (by omega)]
        exact eq_false z1
      refine ⟨hB, fG_t fZ BP.f, fun _ => ⟨g1, g2⟩, fun z => absurd z z1, fun Q => ?_⟩
      rw [st1 Q]
      clear C CZ F FZ FQ FQz T1 T3 BP SZ FB ent lp STg st1
      simp (disch := omega) only [s_345_0, s_345_1, s_345_2, s_345_3, s_345_4, s_345_5, s_345_6, s_345_9, s_345_12, s_345_13, s_345_14, s_345_15, s_345_16, s_345_19, s_345_20, s_345_23, s_345_24, s_345_25, s_345_28, s_345_29, s_345_30, s_345_33, s_345_34, s_345_35, s_345_38, s_345_39, s_345_40, s_345_43, s_345_44, s_345_45, s_345_48, s_345_49, s_345_50, s_345_53, s_345_54, s_345_57, s_345_58, s_345_59, s_345_60, s_345_61, s_345_63, s_345_66, s_345_67, s_345_69, s_345_70, s_345_71, s_345_72, s_345_75, s_345_76, s_345_77, s_345_78, s_345_79, s_345_80, s_345_83, s_345_84, s_345_85, s_345_86, s_345_89, s_345_90, s_345_93, s_345_96, s_345_97, s_345_100, s_345_101, s_345_104, s_345_105, s_345_106, s_345_107, s_345_110, s_345_111, s_345_114, s_345_115, s_345_116, s_345_117, s_345_120, s_345_121, s_345_124, s_345_125, s_345_126, s_345_127, s_345_130, s_345_131, s_345_134, s_345_135, s_345_136, s_345_137, s_345_140, s_345_141, s_345_144, s_345_145, s_345_148, s_345_149, s_345_150, s_345_151, s_345_152, s_345_155, s_345_156, s_345_159, s_345_160, s_345_161, s_345_162, s_345_163, s_345_166, s_345_167, s_345_168, s_345_171, e_345, mv_i_1, mv_l_1, mv_a_1, mv_a_2, mv_a_3, mk2_n, mk2_i, mk2_l, mk2_a, mk2_u, mk2_x, mB_T, mB_F, mS_cons, mS_nil, mSB_T, mSB_F, mca_nil, mca_i, mca_l, mca_r, mca_u, mca_x, mcat_i, mcat_l, mcat_r, mcat_u, mcat_x, mK_some, mK_none, va_rf_s, va_rf_n, lgc_eq, lgc_lt, lgc_gt, lgc_ge, lgc_le, mrd_104, mrd_105, mrd_106, mrd_107, true_and, and_true, and_self, false_and, and_false, true_or, or_true, false_or, or_false, not_true_eq_false, not_false_eq_true, mgb, mga, mgr, mN, reduceCtorEq, ↓reduceIte, eq_self, ge_iff_le, gt_iff_lt, Nat.reduceAdd, Nat.reduceMul, Nat.reduceSub, Nat.reduceLT, Nat.reduceGT, Nat.reduceEqDiff, Nat.reduceLeDiff, Nat.left_eq_add, Nat.add_eq_left, Nat.reduceMod, Nat.reduceDiv, Nat.succ_ne_self, gB, ne]
  · rw [if_neg cp]
    have k2 : mh_i hZ 93 (FK (D.c - 1) + 2) = 13 := FQz.k 1 (by omega)
    have y13 : ((13 : Int32) = 13) = True := by decide
    have w7 : ∀ Q, mcall d 335 [.ref 81, .int 7, .int (Int32.ofNat (FK (D.c - 1) + 1))] hZ Q = Q (some (.int 0)) (wrH hZ 7 (Int32.ofNat nP)) := fun Q => (c_335 (d := d) (k := FK (D.c - 1) + 1) (w := 7) FZ (by omega) z47 Q).trans (by rw [z94])
    refine ⟨wrH hZ 7 (Int32.ofNat nP), fG_t fZ ?_, fun _ => ?_, fun z => absurd z (by show ¬ 7 = 0; decide), fun Q => ?_⟩
    · unfold wrH
      exact fG_t (fG_si (Or.inr ⟨rfl, Or.inr ⟨by decide, by decide⟩⟩)) (fG_si (Or.inr ⟨rfl, Or.inr ⟨by decide, by decide⟩⟩))
    · unfold wrH
      exact ⟨by rw [hi_si, if_neg (by omega), hi_si, if_pos ⟨rfl, rfl⟩]; rfl, by rw [hi_si, if_pos ⟨rfl, rfl⟩]⟩
    · rw [ent Q]
      clear C CZ F FZ FQ FQz T1 T3 SZ ent lp STg
      simp (disch := omega) only [s_345_0, s_345_1, s_345_2, s_345_3, s_345_4, s_345_5, s_345_6, s_345_9, s_345_12, s_345_13, s_345_14, s_345_15, s_345_16, s_345_19, s_345_20, s_345_23, s_345_24, s_345_25, s_345_28, s_345_29, s_345_30, s_345_33, s_345_34, s_345_35, s_345_38, s_345_39, s_345_40, s_345_43, s_345_44, s_345_45, s_345_48, s_345_49, s_345_50, s_345_53, s_345_54, s_345_57, s_345_58, s_345_59, s_345_60, s_345_61, s_345_63, s_345_66, s_345_67, s_345_69, s_345_70, s_345_71, s_345_72, s_345_75, s_345_76, s_345_77, s_345_78, s_345_79, s_345_80, s_345_83, s_345_84, s_345_85, s_345_86, s_345_89, s_345_90, s_345_93, s_345_96, s_345_97, s_345_100, s_345_101, s_345_104, s_345_105, s_345_106, s_345_107, s_345_110, s_345_111, s_345_114, s_345_115, s_345_116, s_345_117, s_345_120, s_345_121, s_345_124, s_345_125, s_345_126, s_345_127, s_345_130, s_345_131, s_345_134, s_345_135, s_345_136, s_345_137, s_345_140, s_345_141, s_345_144, s_345_145, s_345_148, s_345_149, s_345_150, s_345_151, s_345_152, s_345_155, s_345_156, s_345_159, s_345_160, s_345_161, s_345_162, s_345_163, s_345_166, s_345_167, s_345_168, s_345_171, e_345, mv_i_1, mv_l_1, mv_a_1, mv_a_2, mv_a_3, mk2_n, mk2_i, mk2_l, mk2_a, mk2_u, mk2_x, mB_T, mB_F, mS_cons, mS_nil, mSB_T, mSB_F, mca_nil, mca_i, mca_l, mca_r, mca_u, mca_x, mcat_i, mcat_l, mcat_r, mcat_u, mcat_x, mK_some, mK_none, va_rf_s, va_rf_n, lgc_eq, lgc_lt, lgc_gt, lgc_ge, lgc_le, mrd_104, mrd_105, mrd_106, mrd_107, true_and, and_true, and_self, false_and, and_false, true_or, or_true, false_or, or_false, not_true_eq_false, not_false_eq_true, mgb, mga, mgr, mN, reduceCtorEq, ↓reduceIte, eq_self, ge_iff_le, gt_iff_lt, Nat.reduceAdd, Nat.reduceMul, Nat.reduceSub, Nat.reduceLT, Nat.reduceGT, Nat.reduceEqDiff, Nat.reduceLeDiff, Nat.left_eq_add, Nat.add_eq_left, Nat.reduceMod, Nat.reduceDiv, Nat.succ_ne_self, gZ, r93, g93, g93a, g93b, l93, e2', e1', k2, y13, w7, nn_mxT, nn_clamp]
end LTl
