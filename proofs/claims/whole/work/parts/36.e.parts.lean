set_option maxRecDepth 100000
/-! Analysis.parts: its rows hold the parts -/
def sgn (tu : Bool) : Int32 := if tu = true then -1 else 1
theorem sgn_n (tu : Bool) : -sgn tu = sgn (!tu) := by cases tu <;> decide
def pSt (en : Int → Nat) : tr → Int32
  | .leaf _ => -1
  | .branch n _ _ => pSl en n
/-- from h0 with q0 parts to h with those of the list more -/
abbrev PP (h0 : mh_H) (PQ PS PU PF PL PH q0 : Nat) (en : Int → Nat) (l : List (Nat × Bool × tr)) (h : mh_H) (PQ' PS' PU' PF' PL' PH' lP' : Nat) : Prop := (fR (pW PQ PS PU) h0 h) ∧ (PR h PQ' PS' PU' PF' PL' PH' lP') ∧ (mh_i h 115 33 = Int32.ofNat (q0 + l.length)) ∧ (q0 + l.length ≤ lP') ∧ (∀ i, i < q0 → mh_i h PQ' i = mh_i h0 PQ i ∧ mh_i h PS' i = mh_i h0 PS i ∧ mh_i h PU' i = mh_i h0 PU i) ∧ (∀ i e, l[i]? = some e → mh_i h PQ' (q0 + i) = Int32.ofNat e.1 ∧ mh_i h PS' (q0 + i) = sgn e.2.1 ∧ mh_i h PU' (q0 + i) = pSt en e.2.2) ∧ (pNew h0 PQ PQ' ∧ pNew h0 PS PS' ∧ pNew h0 PU PU' ∧ pNew h0 PF PF' ∧ pNew h0 PL PL' ∧ pNew h0 PH PH') ∧ (∀ i, mh_r h 119 i = mh_r h0 119 i)
theorem PP.f {h0 : mh_H} {PQ PS PU PF PL PH q0 : Nat} {en : Int → Nat} {l : List (Nat × Bool × tr)} {h : mh_H} {PQ' PS' PU' PF' PL' PH' lP' : Nat} (q : PP h0 PQ PS PU PF PL PH q0 en l h PQ' PS' PU' PF' PL' PH' lP') : fR (pW PQ PS PU) h0 h := q.1
theorem PP.P {h0 : mh_H} {PQ PS PU PF PL PH q0 : Nat} {en : Int → Nat} {l : List (Nat × Bool × tr)} {h : mh_H} {PQ' PS' PU' PF' PL' PH' lP' : Nat} (q : PP h0 PQ PS PU PF PL PH q0 en l h PQ' PS' PU' PF' PL' PH' lP') : PR h PQ' PS' PU' PF' PL' PH' lP' := q.2.1
theorem PP.c {h0 : mh_H} {PQ PS PU PF PL PH q0 : Nat} {en : Int → Nat} {l : List (Nat × Bool × tr)} {h : mh_H} {PQ' PS' PU' PF' PL' PH' lP' : Nat} (q : PP h0 PQ PS PU PF PL PH q0 en l h PQ' PS' PU' PF' PL' PH' lP') : mh_i h 115 33 = Int32.ofNat (q0 + l.length) := q.2.2.1
theorem PP.b {h0 : mh_H} {PQ PS PU PF PL PH q0 : Nat} {en : Int → Nat} {l : List (Nat × Bool × tr)} {h : mh_H} {PQ' PS' PU' PF' PL' PH' lP' : Nat} (q : PP h0 PQ PS PU PF PL PH q0 en l h PQ' PS' PU' PF' PL' PH' lP') : q0 + l.length ≤ lP' := q.2.2.2.1
theorem PP.o {h0 : mh_H} {PQ PS PU PF PL PH q0 : Nat} {en : Int → Nat} {l : List (Nat × Bool × tr)} {h : mh_H} {PQ' PS' PU' PF' PL' PH' lP' : Nat} (q : PP h0 PQ PS PU PF PL PH q0 en l h PQ' PS' PU' PF' PL' PH' lP') : ∀ i, i < q0 → mh_i h PQ' i = mh_i h0 PQ i ∧ mh_i h PS' i = mh_i h0 PS i ∧ mh_i h PU' i = mh_i h0 PU i := q.2.2.2.2.1
theorem PP.n {h0 : mh_H} {PQ PS PU PF PL PH q0 : Nat} {en : Int → Nat} {l : List (Nat × Bool × tr)} {h : mh_H} {PQ' PS' PU' PF' PL' PH' lP' : Nat} (q : PP h0 PQ PS PU PF PL PH q0 en l h PQ' PS' PU' PF' PL' PH' lP') : ∀ i e, l[i]? = some e → mh_i h PQ' (q0 + i) = Int32.ofNat e.1 ∧ mh_i h PS' (q0 + i) = sgn e.2.1 ∧ mh_i h PU' (q0 + i) = pSt en e.2.2 := q.2.2.2.2.2.1
theorem PP.w {h0 : mh_H} {PQ PS PU PF PL PH q0 : Nat} {en : Int → Nat} {l : List (Nat × Bool × tr)} {h : mh_H} {PQ' PS' PU' PF' PL' PH' lP' : Nat} (q : PP h0 PQ PS PU PF PL PH q0 en l h PQ' PS' PU' PF' PL' PH' lP') : pNew h0 PQ PQ' ∧ pNew h0 PS PS' ∧ pNew h0 PU PU' ∧ pNew h0 PF PF' ∧ pNew h0 PL PL' ∧ pNew h0 PH PH' := q.2.2.2.2.2.2.1
theorem PP.s {h0 : mh_H} {PQ PS PU PF PL PH q0 : Nat} {en : Int → Nat} {l : List (Nat × Bool × tr)} {h : mh_H} {PQ' PS' PU' PF' PL' PH' lP' : Nat} (q : PP h0 PQ PS PU PF PL PH q0 en l h PQ' PS' PU' PF' PL' PH' lP') : ∀ i, mh_r h 119 i = mh_r h0 119 i := q.2.2.2.2.2.2.2
section PPs
variable {d : Nat} {h h1 h2 : mh_H} {T : Nat} {sN : Int → Prop} {en : Int → Nat} {A : ab} {PQ PS PU PF PL PH lP q0 : Nat} {PQ1 PS1 PU1 PF1 PL1 PH1 lP1 : Nat} {PQ2 PS2 PU2 PF2 PL2 PH2 lP2 : Nat} {l l2 : List (Nat × Bool × tr)}
theorem PP_id (P : PR h PQ PS PU PF PL PH lP) (c : mh_i h 115 33 = Int32.ofNat q0) (b : q0 ≤ lP) : PP h PQ PS PU PF PL PH q0 en [] h PQ PS PU PF PL PH lP :=
  ⟨fR_id, P, c, b, fun _ _ => ⟨rfl, rfl, rfl⟩, fun i e he => (by cases he), ⟨Or.inl rfl, Or.inl rfl, Or.inl rfl, Or.inl rfl, Or.inl rfl, Or.inl rfl⟩, fun _ => rfl⟩
theorem pNew_t {h h1 : mh_H} {X X1 X2 : Nat} (hn : mh_n h ≤ mh_n h1) (a : pNew h X X1) (b : pNew h1 X1 X2) : pNew h X X2 := by
  unfold pNew at *
  omega
theorem fR_n {W : Nat → Nat → Prop} (x : fR W h h1) (y : fR (fun b j => W b j ∨ mh_n h ≤ b) h1 h2) : fR W h h2 := ⟨fz_n (Nat.le_refl _) x.1 y.1, Int.le_trans y.2.1 x.2.1, Int.le_trans y.2.2 x.2.2⟩
theorem pW_t (x : fR (pW PQ PS PU) h h1) (a : pNew h PQ PQ1) (b : pNew h PS PS1) (c : pNew h PU PU1) (y : fR (pW PQ1 PS1 PU1) h1 h2) : fR (pW PQ PS PU) h h2 := by
  refine fR_n x (fR_w y (fun b' j _ w => ?_))
  unfold pNew at a b c
  unfold pW at w ⊢
  rcases w with w | w | w | w
  · exact Or.inl (Or.inl w)
  · rcases a with a | a
    · exact Or.inl (Or.inr (Or.inl (w.trans a)))
    · exact Or.inr (by omega)
  · rcases b with a | a
    · exact Or.inl (Or.inr (Or.inr (Or.inl (w.trans a))))
    · exact Or.inr (by omega)
  · rcases c with a | a
    · exact Or.inl (Or.inr (Or.inr (Or.inr (w.trans a))))
    · exact Or.inr (by omega)
theorem PP_t (x : PP h PQ PS PU PF PL PH q0 en l h1 PQ1 PS1 PU1 PF1 PL1 PH1 lP1) (y : PP h1 PQ1 PS1 PU1 PF1 PL1 PH1 (q0 + l.length) en l2 h2 PQ2 PS2 PU2 PF2 PL2 PH2 lP2) : PP h PQ PS PU PF PL PH q0 en (l ++ l2) h2 PQ2 PS2 PU2 PF2 PL2 PH2 lP2 := by
  have hn := x.f.1.1
  obtain ⟨w1, w2, w3, w4, w5, w6⟩ := x.w
  obtain ⟨v1, v2, v3, v4, v5, v6⟩ := y.w
  have ll : q0 + (l ++ l2).length = q0 + l.length + l2.length := by rw [List.length_append]; omega
  refine ⟨pW_t x.f w1 w2 w3 y.f, y.P, by rw [ll]; exact y.c, by rw [ll]; exact y.b, fun i hi => ?_, fun i e he => ?_, ⟨pNew_t hn w1 v1, pNew_t hn w2 v2, pNew_t hn w3 v3, pNew_t hn w4 v4, pNew_t hn w5 v5, pNew_t hn w6 v6⟩, fun i => (y.s i).trans (x.s i)⟩
  · obtain ⟨a, b, c⟩ := x.o i hi
    obtain ⟨a', b', c'⟩ := y.o i (by omega)
    exact ⟨a'.trans a, b'.trans b, c'.trans c⟩
  · by_cases c : i < l.length
    · rw [List.getElem?_append_left c] at he
      obtain ⟨a, b, c⟩ := x.n i e he
      obtain ⟨a', b', c'⟩ := y.o (q0 + i) (by omega)
      exact ⟨a'.trans a, b'.trans b, c'.trans c⟩
    · rw [List.getElem?_append_right (by omega)] at he
      have e2 : q0 + l.length + (i - l.length) = q0 + i := by omega
      have := y.n (i - l.length) e he
      rw [e2] at this
      exact this
theorem RF_pW (a : RF h) (P : PR h PQ PS PU PF PL PH lP) (x : fz (pW PQ PS PU) h h1) : RF h1 := by
  have nQ := P.n PQ (by simp)
  have nS := P.n PS (by simp)
  have nU := P.n PU (by simp)
  unfold pW at x
  exact RF_fz x a (fun j w => by omega) (fun j hj w => by simp at hj; omega) (fun p hp => ⟨fun j _ => ⟨fun w => by omega, fun w => by omega⟩, fun w => by omega, fun w => by omega⟩) (fun j _ w => by omega)
theorem AE_pW (a : AE h T sN en) (P : PR h PQ PS PU PF PL PH lP) (x : fz (pW PQ PS PU) h h1) : AE h1 T sN en := by
  have nQ := P.n PQ (by simp)
  have nS := P.n PS (by simp)
  have nU := P.n PU (by simp)
  have F' := RF_pW a.F P x
  unfold pW at x
  exact AE_fz x a F' (fun w => by omega) (fun w => by omega) (fun w => by omega) (fun w => by omega) (fun j => ⟨fun w => by omega, fun w => by omega⟩)
/-- the trees stay -/
theorem nd_pW (a : RF h) (P : PR h PQ PS PU PF PL PH lP) (x : fz (pW PQ PS PU) h h1) : mh_i h1 93 = mh_i h 93 ∧ mh_i h1 95 = mh_i h 95 ∧ mh_i h1 97 = mh_i h 97 := by
  have nQ := P.n PQ (by simp)
  have nS := P.n PS (by simp)
  have nU := P.n PU (by simp)
  unfold pW at x
  exact ⟨funext fun j => fz_i x (a.g 93 102 26000 (by decide +kernel)) (fun w => by omega), funext fun j => fz_i x (a.g 95 100 26000 (by decide +kernel)) (fun w => by omega), funext fun j => fz_i x (a.g 97 100 26000 (by decide +kernel)) (fun w => by omega)⟩
end PPs
/-- what parts does with a SUM -/
def S0 (T : Nat) (sN : Int → Prop) (en : Int → Nat) (A : ab) (t : tr) : Prop := ∀ (d k q : Nat) (tu : Bool) (h : mh_H) (PQ PS PU PF PL PH lP : Nat), AE h T sN en → PR h PQ PS PU PF PL PH lP → mh_i h 115 33 = Int32.ofNat q → q ≤ lP → q + pn t false < 30000 → nd (mh_i h 93) (mh_i h 95) (mh_i h 97) k t → k + ts t ≤ 26000 → wS sN en A t false → th t + 2 ≤ d → ∃ h' PQ' PS' PU' PF' PL' PH' lP', PP h PQ PS PU PF PL PH q en (pg t false k tu) h' PQ' PS' PU' PF' PL' PH' lP' ∧ ∀ Q, mcall d 243 [.ref 115, .int (Int32.ofNat k), .int (sgn tu)] h Q = Q none h'
def S1 (T : Nat) (sN : Int → Prop) (en : Int → Nat) (A : ab) (t : tr) : Prop := ∀ (d k0 z p q : Nat) (tu : Bool) (h : mh_H) (PQ PS PU PF PL PH lP : Nat), AE h T sN en → PR h PQ PS PU PF PL PH lP → mh_i h 115 33 = Int32.ofNat q → q ≤ lP → q + pn t true < 30000 → nd (mh_i h 93) (mh_i h 95) (mh_i h 97) p t → p + ts t = k0 + z → k0 + z ≤ 26000 → k0 < 26000 → mh_i h 97 k0 = Int32.ofNat z → wS sN en A t true → th t + 2 ≤ d → ∃ h' PQ' PS' PU' PF' PL' PH' lP', PP h PQ PS PU PF PL PH q en (pg t true p tu) h' PQ' PS' PU' PF' PL' PH' lP' ∧ ∀ Q, mw d 243 Q 50 [some (.ref 115), some (.int (Int32.ofNat k0)), some (.int (sgn tu)), some (.int (Int32.ofNat p))] [] h = Q none h'
section SSs
variable {T : Nat} {sN : Int → Prop} {en : Int → Nat} {A : ab}
theorem S1_leaf (u : Unit) : S1 T sN en A (.leaf u) := by
  intro d k0 z p q tu h PQ PS PU PF PL PH lP a P c hq _ _ hp hz hk0 hzz _ hd
  obtain ⟨d', rfl⟩ : ∃ d', d = d' + 1 := ⟨d - 1, by omega⟩
  have e : p = k0 + z := hp
  have hle : (k0 + z ≤ p) = True := eq_true (by omega)
  have ca := fun Q' => u_228 (d := d') a hk0 hzz Q'
  have g := a.g
  refine ⟨h, PQ, PS, PU, PF, PL, PH, lP, PP_id P c hq, fun Q => ?_⟩
  rw [s_243_50]
  simp (disch := omega) only [s_243_0, s_243_1, s_243_4, s_243_5, s_243_6, s_243_8, s_243_11, s_243_12, s_243_13, s_243_14, s_243_15, s_243_16, s_243_17, s_243_20, s_243_23, s_243_24, s_243_27, s_243_28, s_243_29, s_243_31, s_243_34, s_243_35, s_243_36, s_243_37, s_243_38, s_243_39, s_243_40, s_243_41, s_243_44, s_243_45, s_243_46, s_243_49, s_243_51, s_243_52, s_243_53, s_243_56, s_243_59, s_243_60, s_243_61, s_243_62, s_243_63, s_243_64, s_243_67, s_243_68, s_243_69, s_243_71, s_243_74, s_243_75, s_243_78, s_243_79, s_243_80, s_243_83, s_243_84, s_243_85, s_243_88, s_243_89, s_243_92, s_243_95, s_243_96, s_243_97, s_243_98, s_243_101, e_243, mv_i_1, mv_l_1, mv_a_1, mv_a_2, mv_a_3, mk2_n, mk2_i, mk2_l, mk2_a, mk2_u, mk2_x, mB_T, mB_F, mS_cons, mS_nil, mSB_T, mSB_F, mca_nil, mca_i, mca_l, mca_r, mca_u, mca_x, mcat_i, mcat_l, mcat_r, mcat_u, mcat_x, mK_some, mK_none, va_rf_s, va_rf_n, lgc_eq, lgc_lt, lgc_gt, lgc_ge, lgc_le, mrd_104, mrd_105, mrd_106, mrd_107, true_and, and_true, and_self, false_and, and_false, true_or, or_true, false_or, or_false, not_true_eq_false, not_false_eq_true, mgb, mga, mgr, mN, reduceCtorEq, ↓reduceIte, eq_self, ge_iff_le, gt_iff_lt, Nat.reduceAdd, Nat.reduceMul, Nat.reduceSub, Nat.reduceLT, Nat.reduceGT, Nat.reduceEqDiff, Nat.reduceLeDiff, Nat.left_eq_add, Nat.add_eq_left, Nat.reduceMod, Nat.reduceDiv, Nat.succ_ne_self, g, ca, nn_le, hle]
theorem S1_br {n : Nat} {cs r : tr} (i0 : S0 T sN en A cs) (i1 : S1 T sN en A r) : S1 T sN en A (.branch n cs r) := by
  intro d k0 z p q tu h PQ PS PU PF PL PH lP a P c hq hq2 hnd hp hz hk0 hzz w hd
  obtain ⟨d', rfl⟩ : ∃ d', d = d' + 1 := ⟨d - 1, by omega⟩
  rw [th_B] at hd
  have hts := ts_B (n := n) (cs := cs) (r := r)
  rw [hts] at hp
  rw [pn_L] at hq2
  obtain ⟨d1, d2, d3, d4, d5⟩ := hnd
  obtain ⟨h1, PQ1, PS1, PU1, PF1, PL1, PH1, lP1, x, ex⟩ := i0 d' (p + 1) q (if tK n = 18 then tu else !tu) h PQ PS PU PF PL PH lP a P c hq (by omega) d4 (by omega) w.2.1 (by omega)
  have a1 := AE_pW a P x.f.1
  obtain ⟨n1, n2, n3⟩ := nd_pW a.F P x.f.1
  have le := (pg_len cs).1 false (p + 1) (if tK n = 18 then tu else !tu)
  obtain ⟨h2, PQ2, PS2, PU2, PF2, PL2, PH2, lP2, y, ey⟩ := i1 (d' + 1) k0 z (p + 1 + ts cs) (q + (pg cs false (p + 1) (if tK n = 18 then tu else !tu)).length) tu h1 PQ1 PS1 PU1 PF1 PL1 PH1 lP1 a1 x.P x.c x.b (by rw [le]; omega) (by rw [n1, n2, n3]; exact d5) (by omega) hz hk0 (by rw [n3]; exact hzz) w.2.2 (by omega)
  refine ⟨h2, PQ2, PS2, PU2, PF2, PL2, PH2, lP2, PP_t x y, fun Q => ?_⟩
  have hle : (k0 + z ≤ p) = False := eq_false (by omega)
  have ca := fun Q' => u_228 (d := d') a hk0 hzz Q'
  have cb := fun Q' => u_228 (d := d') a1 (k := p) (by omega) (by rw [n3]; exact d3) Q'
  have g := a.g
  have g1 := a1.g
  have r0 := a.r0
  have gK := a.F.g 93 102 26000 (by decide +kernel)
  have gK1 := gK.1
  have gK2 := gK.2
  have lK := a.F.l 93 102 26000 (by decide +kernel)
  have ei : ∀ k, Int32.ofNat k + 1 = Int32.ofNat (k + 1) := fun k => nn_add (a := k) (b := 1)
  have tk : tK n < 64 := by unfold tK; omega
  have k18 : (Int32.ofNat (tK n) = 18) = (tK n = 18) := ofn_eq (by omega) (by decide)
  have assoc : p + (1 + ts cs) = p + 1 + ts cs := by omega
  rw [s_243_50, ← ey Q]
  by_cases z18 : tK n = 18
  · rw [if_pos z18] at ex
    rw [eq_true z18] at k18
    simp (disch := omega) only [s_243_0, s_243_1, s_243_4, s_243_5, s_243_6, s_243_8, s_243_11, s_243_12, s_243_13, s_243_14, s_243_15, s_243_16, s_243_17, s_243_20, s_243_23, s_243_24, s_243_27, s_243_28, s_243_29, s_243_31, s_243_34, s_243_35, s_243_36, s_243_37, s_243_38, s_243_39, s_243_40, s_243_41, s_243_44, s_243_45, s_243_46, s_243_49, s_243_51, s_243_52, s_243_53, s_243_56, s_243_59, s_243_60, s_243_61, s_243_62, s_243_63, s_243_64, s_243_67, s_243_68, s_243_69, s_243_71, s_243_74, s_243_75, s_243_78, s_243_79, s_243_80, s_243_83, s_243_84, s_243_85, s_243_88, s_243_89, s_243_92, s_243_95, s_243_96, s_243_97, s_243_98, s_243_101, e_243, mv_i_1, mv_l_1, mv_a_1, mv_a_2, mv_a_3, mk2_n, mk2_i, mk2_l, mk2_a, mk2_u, mk2_x, mB_T, mB_F, mS_cons, mS_nil, mSB_T, mSB_F, mca_nil, mca_i, mca_l, mca_r, mca_u, mca_x, mcat_i, mcat_l, mcat_r, mcat_u, mcat_x, mK_some, mK_none, va_rf_s, va_rf_n, lgc_eq, lgc_lt, lgc_gt, lgc_ge, lgc_le, mrd_104, mrd_105, mrd_106, mrd_107, true_and, and_true, and_self, false_and, and_false, true_or, or_true, false_or, or_false, not_true_eq_false, not_false_eq_true, mgb, mga, mgr, mN, reduceCtorEq, ↓reduceIte, eq_self, ge_iff_le, gt_iff_lt, Nat.reduceAdd, Nat.reduceMul, Nat.reduceSub, Nat.reduceLT, Nat.reduceGT, Nat.reduceEqDiff, Nat.reduceLeDiff, Nat.left_eq_add, Nat.add_eq_left, Nat.reduceMod, Nat.reduceDiv, Nat.succ_ne_self, g, g1, r0, gK1, gK2, lK, ca, cb, d1, k18, nn_le, nn_mxT, nn_clamp, hle, ei, ex, assoc]
  · rw [if_neg z18] at ex
    rw [eq_false z18] at k18
    simp (disch := omega) only [s_243_0, s_243_1, s_243_4, s_243_5, s_243_6, s_243_8, s_243_11, s_243_12, s_243_13, s_243_14, s_243_15, s_243_16, s_243_17, s_243_20, s_243_23, s_243_24, s_243_27, s_243_28, s_243_29, s_243_31, s_243_34, s_243_35, s_243_36, s_243_37, s_243_38, s_243_39, s_243_40, s_243_41, s_243_44, s_243_45, s_243_46, s_243_49, s_243_51, s_243_52, s_243_53, s_243_56, s_243_59, s_243_60, s_243_61, s_243_62, s_243_63, s_243_64, s_243_67, s_243_68, s_243_69, s_243_71, s_243_74, s_243_75, s_243_78, s_243_79, s_243_80, s_243_83, s_243_84, s_243_85, s_243_88, s_243_89, s_243_92, s_243_95, s_243_96, s_243_97, s_243_98, s_243_101, e_243, mv_i_1, mv_l_1, mv_a_1, mv_a_2, mv_a_3, mk2_n, mk2_i, mk2_l, mk2_a, mk2_u, mk2_x, mB_T, mB_F, mS_cons, mS_nil, mSB_T, mSB_F, mca_nil, mca_i, mca_l, mca_r, mca_u, mca_x, mcat_i, mcat_l, mcat_r, mcat_u, mcat_x, mK_some, mK_none, va_rf_s, va_rf_n, lgc_eq, lgc_lt, lgc_gt, lgc_ge, lgc_le, mrd_104, mrd_105, mrd_106, mrd_107, true_and, and_true, and_self, false_and, and_false, true_or, or_true, false_or, or_false, not_true_eq_false, not_false_eq_true, mgb, mga, mgr, mN, reduceCtorEq, ↓reduceIte, eq_self, ge_iff_le, gt_iff_lt, Nat.reduceAdd, Nat.reduceMul, Nat.reduceSub, Nat.reduceLT, Nat.reduceGT, Nat.reduceEqDiff, Nat.reduceLeDiff, Nat.left_eq_add, Nat.add_eq_left, Nat.reduceMod, Nat.reduceDiv, Nat.succ_ne_self, g, g1, r0, gK1, gK2, lK, ca, cb, d1, k18, nn_le, nn_mxT, nn_clamp, hle, ei, sgn_n, ex, assoc]
theorem S0_br {n : Nat} {cs r : tr} (i0 : S0 T sN en A cs) (i1 : S1 T sN en A (tT cs)) : S0 T sN en A (.branch n cs r) := by
  intro d k q tu h PQ PS PU PF PL PH lP a P c hq hq2 hnd hk w hd
  obtain ⟨d', rfl⟩ : ∃ d', d = d' + 1 + 1 := ⟨d - 2, by omega⟩
  rw [th_B] at hd
  have hts := ts_B (n := n) (cs := cs) (r := r)
  have hnd' := hnd
  obtain ⟨d1, d2, d3, d4, d5⟩ := hnd
  have g := a.g
  have r0 := a.r0
  have gK := a.F.g 93 102 26000 (by decide +kernel)
  have gK1 := gK.1
  have gK2 := gK.2
  have lK := a.F.l 93 102 26000 (by decide +kernel)
  have ei : ∀ k, Int32.ofNat k + 1 = Int32.ofNat (k + 1) := fun k => nn_add (a := k) (b := 1)
  have tk : tK n < 64 := by unfold tK; omega
  have k15e : (Int32.ofNat (tK n) = 15) = (tK n = 15) := ofn_eq (by omega) (by decide)
  have k17e : (Int32.ofNat (tK n) = 17) = (tK n = 17) := ofn_eq (by omega) (by decide)
  by_cases k15 : tK n = 15
  · rw [pn_15 k15] at hq2
    obtain ⟨h1, PQ1, PS1, PU1, PF1, PL1, PH1, lP1, x, ex⟩ := i0 (d' + 1) (k + 1) q (!tu) h PQ PS PU PF PL PH lP a P c hq hq2 d4 (by omega) (w_15 k15 w) (by omega)
    refine ⟨h1, PQ1, PS1, PU1, PF1, PL1, PH1, lP1, by rw [pg_15 k15]; exact x, fun Q => ?_⟩
    rw [eq_true k15] at k15e
    simp (disch := omega) only [s_243_0, s_243_1, s_243_4, s_243_5, s_243_6, s_243_8, s_243_11, s_243_12, s_243_13, s_243_14, s_243_15, s_243_16, s_243_17, s_243_20, s_243_23, s_243_24, s_243_27, s_243_28, s_243_29, s_243_31, s_243_34, s_243_35, s_243_36, s_243_37, s_243_38, s_243_39, s_243_40, s_243_41, s_243_44, s_243_45, s_243_46, s_243_49, s_243_51, s_243_52, s_243_53, s_243_56, s_243_59, s_243_60, s_243_61, s_243_62, s_243_63, s_243_64, s_243_67, s_243_68, s_243_69, s_243_71, s_243_74, s_243_75, s_243_78, s_243_79, s_243_80, s_243_83, s_243_84, s_243_85, s_243_88, s_243_89, s_243_92, s_243_95, s_243_96, s_243_97, s_243_98, s_243_101, e_243, mv_i_1, mv_l_1, mv_a_1, mv_a_2, mv_a_3, mk2_n, mk2_i, mk2_l, mk2_a, mk2_u, mk2_x, mB_T, mB_F, mS_cons, mS_nil, mSB_T, mSB_F, mca_nil, mca_i, mca_l, mca_r, mca_u, mca_x, mcat_i, mcat_l, mcat_r, mcat_u, mcat_x, mK_some, mK_none, va_rf_s, va_rf_n, lgc_eq, lgc_lt, lgc_gt, lgc_ge, lgc_le, mrd_104, mrd_105, mrd_106, mrd_107, true_and, and_true, and_self, false_and, and_false, true_or, or_true, false_or, or_false, not_true_eq_false, not_false_eq_true, mgb, mga, mgr, mN, reduceCtorEq, ↓reduceIte, eq_self, ge_iff_le, gt_iff_lt, Nat.reduceAdd, Nat.reduceMul, Nat.reduceSub, Nat.reduceLT, Nat.reduceGT, Nat.reduceEqDiff, Nat.reduceLeDiff, Nat.left_eq_add, Nat.add_eq_left, Nat.reduceMod, Nat.reduceDiv, Nat.succ_ne_self, g, r0, gK1, gK2, lK, d1, k15e, nn_mxT, nn_clamp, ei, sgn_n, ex]
  · rw [eq_false k15] at k15e
    by_cases k1' : tK n = 17
    · obtain ⟨m, cs', r', rfl, w1, w2⟩ := w_17 (k17 k1') w
      rw [eq_true k1'] at k17e
      rw [pn_17 k1'] at hq2
      have tq : ts (.branch m cs' r') = 1 + ts cs' + ts r' := rfl
      have hr' : th r' ≤ th (.branch m cs' r') := by rw [th_B]; omega
      have dd := d4
      rw [nd_B] at dd
      have e5 : k + 1 + 1 + ts cs' = k + 1 + (1 + ts cs') := by omega
      rw [e5] at dd
      obtain ⟨h1, PQ1, PS1, PU1, PF1, PL1, PH1, lP1, x, ex⟩ := i0 (d' + 1) (k + 1) q tu h PQ PS PU PF PL PH lP a P c hq (by omega) d4 (by omega) w1 (by omega)
      have a1 := AE_pW a P x.f.1
      obtain ⟨n1, n2, n3⟩ := nd_pW a.F P x.f.1
      have le := (pg_len (.branch m cs' r')).1 false (k + 1) tu
      obtain ⟨h2, PQ2, PS2, PU2, PF2, PL2, PH2, lP2, y, ey⟩ := i1 (d' + 1 + 1) k (1 + ts (.branch m cs' r')) (k + 1 + (1 + ts cs')) (q + (pg (.branch m cs' r') false (k + 1) tu).length) tu h1 PQ1 PS1 PU1 PF1 PL1 PH1 lP1 a1 x.P x.c x.b (by rw [le]; exact (by omega : q + pn (.branch m cs' r') false + pn r' true < 30000)) (by rw [n1, n2, n3]; exact dd.2.2.2.2) (by show k + 1 + (1 + ts cs') + ts r' = _; omega) (by omega) (by omega) (by rw [n3]; exact d3) w2 (by show th r' + 2 ≤ _; omega)
      refine ⟨h2, PQ2, PS2, PU2, PF2, PL2, PH2, lP2, by rw [pg_17 k1']; exact PP_t x y, fun Q => ?_⟩
      have cb := fun Q' => u_228 (d := d' + 1) a1 (k := k + 1) (by omega) (by rw [n3]; exact dd.2.2.1) Q'
      have g1 := a1.g
      rw [← ey Q]
      simp (disch := omega) only [s_243_0, s_243_1, s_243_4, s_243_5, s_243_6, s_243_8, s_243_11, s_243_12, s_243_13, s_243_14, s_243_15, s_243_16, s_243_17, s_243_20, s_243_23, s_243_24, s_243_27, s_243_28, s_243_29, s_243_31, s_243_34, s_243_35, s_243_36, s_243_37, s_243_38, s_243_39, s_243_40, s_243_41, s_243_44, s_243_45, s_243_46, s_243_49, s_243_51, s_243_52, s_243_53, s_243_56, s_243_59, s_243_60, s_243_61, s_243_62, s_243_63, s_243_64, s_243_67, s_243_68, s_243_69, s_243_71, s_243_74, s_243_75, s_243_78, s_243_79, s_243_80, s_243_83, s_243_84, s_243_85, s_243_88, s_243_89, s_243_92, s_243_95, s_243_96, s_243_97, s_243_98, s_243_101, e_243, mv_i_1, mv_l_1, mv_a_1, mv_a_2, mv_a_3, mk2_n, mk2_i, mk2_l, mk2_a, mk2_u, mk2_x, mB_T, mB_F, mS_cons, mS_nil, mSB_T, mSB_F, mca_nil, mca_i, mca_l, mca_r, mca_u, mca_x, mcat_i, mcat_l, mcat_r, mcat_u, mcat_x, mK_some, mK_none, va_rf_s, va_rf_n, lgc_eq, lgc_lt, lgc_gt, lgc_ge, lgc_le, mrd_104, mrd_105, mrd_106, mrd_107, true_and, and_true, and_self, false_and, and_false, true_or, or_true, false_or, or_false, not_true_eq_false, not_false_eq_true, mgb, mga, mgr, mN, reduceCtorEq, ↓reduceIte, eq_self, ge_iff_le, gt_iff_lt, Nat.reduceAdd, Nat.reduceMul, Nat.reduceSub, Nat.reduceLT, Nat.reduceGT, Nat.reduceEqDiff, Nat.reduceLeDiff, Nat.left_eq_add, Nat.add_eq_left, Nat.reduceMod, Nat.reduceDiv, Nat.succ_ne_self, g, g1, r0, gK1, gK2, lK, d1, k15e, k17e, nn_mxT, nn_clamp, ei, ex, cb]
    · rw [eq_false k1'] at k17e
      rw [pn_1 k15 k1'] at hq2
      have hn13 : tK n = 13 → sN (tV n) := fun z => (w_13 z w).1
      obtain ⟨h1, PQ1, PS1, PU1, PF1, PL1, PH1, lP1, x, p, c1, b1, o1, q1, q2, q3, w', s', ex⟩ := u_241 (d := d') a P (q := q) (k := k) (n := n) (s := sgn tu) c hq (by omega) (by omega) d1 d2 hn13
      refine ⟨h1, PQ1, PS1, PU1, PF1, PL1, PH1, lP1, ?_, fun Q => ?_⟩
      · rw [pg_1 k15 k1']
        refine ⟨x, p, c1, b1, o1, fun i e he => ?_, w', s'⟩
        cases i with
        | zero =>
          have he : some (k, tu, (.branch n cs r : tr)) = some e := he
          cases he
          exact ⟨q1, q2, q3⟩
        | succ i => cases he
      · simp (disch := omega) only [s_243_0, s_243_1, s_243_4, s_243_5, s_243_6, s_243_8, s_243_11, s_243_12, s_243_13, s_243_14, s_243_15, s_243_16, s_243_17, s_243_20, s_243_23, s_243_24, s_243_27, s_243_28, s_243_29, s_243_31, s_243_34, s_243_35, s_243_36, s_243_37, s_243_38, s_243_39, s_243_40, s_243_41, s_243_44, s_243_45, s_243_46, s_243_49, s_243_51, s_243_52, s_243_53, s_243_56, s_243_59, s_243_60, s_243_61, s_243_62, s_243_63, s_243_64, s_243_67, s_243_68, s_243_69, s_243_71, s_243_74, s_243_75, s_243_78, s_243_79, s_243_80, s_243_83, s_243_84, s_243_85, s_243_88, s_243_89, s_243_92, s_243_95, s_243_96, s_243_97, s_243_98, s_243_101, e_243, mv_i_1, mv_l_1, mv_a_1, mv_a_2, mv_a_3, mk2_n, mk2_i, mk2_l, mk2_a, mk2_u, mk2_x, mB_T, mB_F, mS_cons, mS_nil, mSB_T, mSB_F, mca_nil, mca_i, mca_l, mca_r, mca_u, mca_x, mcat_i, mcat_l, mcat_r, mcat_u, mcat_x, mK_some, mK_none, va_rf_s, va_rf_n, lgc_eq, lgc_lt, lgc_gt, lgc_ge, lgc_le, mrd_104, mrd_105, mrd_106, mrd_107, true_and, and_true, and_self, false_and, and_false, true_or, or_true, false_or, or_false, not_true_eq_false, not_false_eq_true, mgb, mga, mgr, mN, reduceCtorEq, ↓reduceIte, eq_self, ge_iff_le, gt_iff_lt, Nat.reduceAdd, Nat.reduceMul, Nat.reduceSub, Nat.reduceLT, Nat.reduceGT, Nat.reduceEqDiff, Nat.reduceLeDiff, Nat.left_eq_add, Nat.add_eq_left, Nat.reduceMod, Nat.reduceDiv, Nat.succ_ne_self, g, r0, gK1, gK2, lK, d1, k15e, k17e, nn_mxT, nn_clamp, ex]
theorem s_all : ∀ t, S0 T sN en A t ∧ S1 T sN en A t ∧ S1 T sN en A (tT t) := by
  intro t
  induction t with
  | leaf u =>
    refine ⟨?_, S1_leaf u, S1_leaf u⟩
    intro d k q tu h PQ PS PU PF PL PH lP _ _ _ _ _ _ _ w
    exact absurd w (fun z => z)
  | branch n cs r ih1 ih2 => exact ⟨S0_br ih1.1 ih1.2.2, S1_br ih1.1 ih2.2.1, ih2.2.1⟩
/-- Analysis.parts -/
theorem u_243 (t : tr) : S0 T sN en A t := (s_all t).1
end SSs
