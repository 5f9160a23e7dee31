set_option maxRecDepth 100000
/-! Effect.split: references change places -/
abbrev rO (h h1 : mh_H) : Prop := (mh_k h1 = mh_k h) ∧ (mh_l h1 = mh_l h) ∧ (mh_i h1 = mh_i h) ∧ (mh_j h1 = mh_j h) ∧ (mh_n h1 = mh_n h) ∧ (mh_s h1 = mh_s h) ∧ (∀ b j, ¬ ((b = 34 ∧ (j = 2 ∨ j = 3 ∨ j = 4)) ∨ (b = 35 ∧ j = 1) ∨ b = 51) → mh_r h1 b j = mh_r h b j)
theorem rO.ek {h h1 : mh_H} (q : rO h h1) : mh_k h1 = mh_k h := q.1
theorem rO.el {h h1 : mh_H} (q : rO h h1) : mh_l h1 = mh_l h := q.2.1
theorem rO.ei {h h1 : mh_H} (q : rO h h1) : mh_i h1 = mh_i h := q.2.2.1
theorem rO.ej {h h1 : mh_H} (q : rO h h1) : mh_j h1 = mh_j h := q.2.2.2.1
theorem rO.en {h h1 : mh_H} (q : rO h h1) : mh_n h1 = mh_n h := q.2.2.2.2.1
theorem rO.es {h h1 : mh_H} (q : rO h h1) : mh_s h1 = mh_s h := q.2.2.2.2.2.1
theorem rO.er {h h1 : mh_H} (q : rO h h1) : ∀ b j, ¬ ((b = 34 ∧ (j = 2 ∨ j = 3 ∨ j = 4)) ∨ (b = 35 ∧ j = 1) ∨ b = 51) → mh_r h1 b j = mh_r h b j := q.2.2.2.2.2.2
theorem cfR_no : ∀ t ∈ cfR, ¬ ((t.1 = 34 ∧ (t.2.1 = 2 ∨ t.2.1 = 3 ∨ t.2.1 = 4)) ∨ (t.1 = 35 ∧ t.2.1 = 1) ∨ t.1 = 51) := by decide +kernel
section ROs
variable {d : Nat} {h h1 : mh_H} {P R lP Y C E TT UU SC SP nC nE nS nb na Ho Fa Be n : Nat}
theorem rO_g (x : rO h h1) {o c : Nat} (g : mg h o c) : mg h1 o c := by unfold mg at g ⊢; rw [x.ek, x.en]; exact g
theorem rO_z (x : rO h h1) : fz (fun b j => (b = 34 ∧ (j = 2 ∨ j = 3 ∨ j = 4)) ∨ (b = 35 ∧ j = 1) ∨ b = 51) h h1 := ⟨Nat.le_of_eq x.en.symm, fun b _ => ⟨by rw [x.ek], by rw [x.el]⟩, fun b j _ w => ⟨by rw [x.ei], by rw [x.ej], x.er b j w⟩⟩
theorem cs_no (S : CS h) {o : Nat} (c : cs h o) : ∀ y, y ≤ 2 → ∀ j, ¬ ((o + y = 34 ∧ (j = 2 ∨ j = 3 ∨ j = 4)) ∨ (o + y = 35 ∧ j = 1) ∨ o + y = 51) := fun y hy j => by
  have a := (cs_so S c).2
  unfold cAd at a
  omega
theorem ad_no {o : Nat} (a : cAd o) : ∀ y, y ≤ 2 → ∀ j, ¬ ((o + y = 34 ∧ (j = 2 ∨ j = 3 ∨ j = 4)) ∨ (o + y = 35 ∧ j = 1) ∨ o + y = 51) := fun y hy j => by
  unfold cAd at a
  omega
theorem rO_so (x : rO h h1) {o : Nat} (a : cAd o) (s : so h o) : so h1 o := so_fz (rO_z x) (ad_no a 0 (by omega) 3) (ad_no a 0 (by omega) 4) s
theorem rO_RS (x : rO h h1) {o : Nat} {v : Option ab} (a : cAd o) (k : RS h o v) : RS h1 o v := RS_fz (rO_z x) (ad_no a) k
theorem rO_CF (x : rO h h1) (F : CF h) : CF h1 := ⟨fun t ht => ⟨rO_g x (F.k t ht).1, by rw [x.el]; exact (F.k t ht).2⟩, fun t ht => by rw [x.er _ _ (cfR_no t ht)]; exact F.r t ht⟩
theorem rO_CP (x : rO h h1) (c : ∀ o, cs h1 o → cs h o ∨ (∀ z, z = P ∨ z = R → z < o ∨ o + 2 < z)) (H : CP h P R lP) : CP h1 P R lP := ⟨by rw [x.er _ _ (by omega)]; exact H.r9, by rw [x.er _ _ (by omega)]; exact H.r10, rO_g x H.g9, rO_g x H.g10, by rw [x.el]; exact H.l9, by rw [x.el]; exact H.l10, H.d, H.n, fun o co => (c o co).elim (H.s o) (fun q => q), H.b⟩
theorem rO_SQ (x : rO h h1) (q : SQ h Y C E TT UU SC SP nC nE nS) : SQ h1 Y C E TT UU SC SP nC nE nS := by
  have n := q.n Y (by simp)
  have r : ∀ j, mh_r h1 Y j = mh_r h Y j := fun j => x.er _ _ (by omega)
  have l := x.el
  exact ⟨rO_g x q.gY, by rw [r]; exact q.r0, by rw [r]; exact q.r2, by rw [r]; exact q.r3, by rw [r]; exact q.r4, by rw [r]; exact q.r6, by rw [r]; exact q.r7, rO_g x q.gC, rO_g x q.gE, rO_g x q.gT, rO_g x q.gU, rO_g x q.g6, rO_g x q.g7, by rw [l]; exact q.lC, by rw [l]; exact q.lE, by rw [l]; exact q.lT, by rw [l]; exact q.lU, by rw [l]; exact q.l6, by rw [l]; exact q.l7, q.n, q.bC, q.bE, q.bS⟩
/-- where as many are held -/
theorem rO_D {W : Nat → Nat → Prop} (x : rO h h1) (w : ∀ b j, ((b = 34 ∧ (j = 2 ∨ j = 3 ∨ j = 4)) ∨ (b = 35 ∧ j = 1) ∨ b = 51) → mh_r h1 b j ≠ mh_r h b j → W b j) (e : cnS h 51 122 ≤ cnS h1 51 122) : fD W h h1 := by
  have ec : ∀ a, ¬ a = 51 → ¬ a = 34 → ¬ a = 35 → ∀ m, cnS h1 a m = cnS h a m := fun a h1' h2' h3' m => n64_cong m (fun i _ => by rw [x.er _ _ (by omega)])
  have e9 : ln h1 35 9 = ln h 35 9 := by unfold ln; rw [x.er _ _ (by omega), x.el]
  have ey : cY h1 = cY h := by unfold cY; rw [x.er _ _ (by omega), x.ei]
  have eg : cG h1 = cG h := by unfold cG; rw [e9, ey]
  have et : cT h ≤ cT h1 := by
    unfold cT
    rw [ec 61 (by omega) (by omega) (by omega), ec 62 (by omega) (by omega) (by omega), ec 63 (by omega) (by omega) (by omega), ec 64 (by omega) (by omega) (by omega), ec 54 (by omega) (by omega) (by omega), ec 73 (by omega) (by omega) (by omega)]
    omega
  refine ⟨⟨Nat.le_of_eq x.en.symm, fun b _ => ⟨by rw [x.ek], by rw [x.el]⟩, fun b j _ hw => ⟨by rw [x.ei], by rw [x.ej], ?_⟩⟩, ?_, ?_⟩
  · by_cases q : (b = 34 ∧ (j = 2 ∨ j = 3 ∨ j = 4)) ∨ (b = 35 ∧ j = 1) ∨ b = 51
    · exact Classical.byContradiction (fun z => hw (w b j q z))
    · exact x.er b j q
  · unfold cN; rw [x.en, eg]; omega
  · unfold cS; rw [x.es, eg, ey]; omega
/-- swapSides -/
theorem v_18 (V : SV h P R lP Y C E TT UU SC SP nC nE nS nb na Ho Fa Be n) : ∃ h', sS n P R h h' ∧ SV h' P R lP Y C E TT UU SC SP nC nE nS nb na Fa Ho Be n ∧ (∀ o v, cs h o → RS h o v → RS h' o v) ∧ mh_i h' 35 4 = mh_i h 35 4 ∧ (∀ i, mh_r h' 51 i = mh_r h 51 i) ∧ mh_i h' = mh_i h ∧ ∀ Q, mcall d 18 [.ref 34] h Q = Q none h' := by
  have g : mg h 34 1 := V.F.g 34 1 9 (by decide +kernel)
  obtain ⟨n1, n2, n3⟩ := V.ne
  have r2 := V.h2
  have r3 := V.h3
  have x : rO h (mh_sr (mh_sr h 34 2 (some Fa)) 34 3 (some Ho)) := ⟨rfl, rfl, rfl, rfl, rfl, rfl, fun b j w => by rw [hr_sr, if_neg (by omega), hr_sr, if_neg (by omega)]⟩
  have q2 : mh_r (mh_sr (mh_sr h 34 2 (some Fa)) 34 3 (some Ho)) 34 2 = some Fa := by rw [hr_sr, if_neg (by omega), hr_sr, if_pos ⟨rfl, rfl⟩]
  have q3 : mh_r (mh_sr (mh_sr h 34 2 (some Fa)) 34 3 (some Ho)) 34 3 = some Ho := by rw [hr_sr, if_pos ⟨rfl, rfl⟩]
  have qo : ∀ b j, ¬ (b = 34 ∧ (j = 2 ∨ j = 3)) → mh_r (mh_sr (mh_sr h 34 2 (some Fa)) 34 3 (some Ho)) b j = mh_r h b j := fun b j w => by rw [hr_sr, if_neg (by omega), hr_sr, if_neg (by omega)]
  generalize hX : mh_sr (mh_sr h 34 2 (some Fa)) 34 3 (some Ho) = h' at *
  have p2 : isPl 34 2 := Or.inl ⟨rfl, by omega⟩
  have p3 : isPl 34 3 := Or.inl ⟨rfl, by omega⟩
  have pl : ∀ b j o, isPl b j → mh_r h' b j = some o → (b = 34 ∧ j = 2 ∧ o = Fa) ∨ (b = 34 ∧ j = 3 ∧ o = Ho) ∨ (¬ (b = 34 ∧ (j = 2 ∨ j = 3)) ∧ mh_r h b j = some o) := fun b j o _ e => by
    by_cases c2 : b = 34 ∧ j = 2
    · rw [c2.1, c2.2, q2] at e; cases e; exact Or.inl ⟨c2.1, c2.2, rfl⟩
    · by_cases c3 : b = 34 ∧ j = 3
      · rw [c3.1, c3.2, q3] at e; cases e; exact Or.inr (Or.inl ⟨c3.1, c3.2, rfl⟩)
      · have w : ¬ (b = 34 ∧ (j = 2 ∨ j = 3)) := by omega
        rw [qo b j w] at e
        exact Or.inr (Or.inr ⟨w, e⟩)
  have cc : ∀ o, cs h' o → cs h o := fun o ⟨b, j, p, e⟩ => by
    rcases pl b j o p e with ⟨-, -, rfl⟩ | ⟨-, -, rfl⟩ | ⟨-, e⟩
    · exact ⟨34, 3, p3, r3⟩
    · exact ⟨34, 2, p2, r2⟩
    · exact ⟨b, j, p, e⟩
  have S' : CS h' := by
    refine ⟨fun b j o p e => ?_, fun b j b' j' o p p' e e' => ?_⟩
    · obtain ⟨s, a⟩ := cs_so V.S (cc o ⟨b, j, p, e⟩)
      exact ⟨rO_so x a s, a⟩
    · rcases pl b j o p e with ⟨a1, a2, a3⟩ | ⟨a1, a2, a3⟩ | ⟨a1, a2⟩ <;> rcases pl b' j' o p' e' with ⟨b1, b2, b3⟩ | ⟨b1, b2, b3⟩ | ⟨b1, b2⟩
      · omega
      · omega
      · have := V.S.i b' j' 34 3 o p' p3 b2 (by rw [a3]; exact r3); omega
      · omega
      · omega
      · have := V.S.i b' j' 34 2 o p' p2 b2 (by rw [a3]; exact r2); omega
      · have := V.S.i b j 34 3 o p p3 a2 (by rw [b3]; exact r3); omega
      · have := V.S.i b j 34 2 o p p2 a2 (by rw [b3]; exact r2); omega
      · exact V.S.i b j b' j' o p p' a2 b2
  have o51 : ∀ i, mh_r h' 51 i = mh_r h 51 i := fun i => qo 51 i (by omega)
  refine ⟨h', ⟨rO_D x (fun b j w ne => ?_) (Nat.le_of_eq (n64_cong _ (fun i _ => by rw [o51])).symm), fun o w => Or.inl ?_⟩, ⟨rO_CF x V.F, S', rO_CP x (fun o c => Or.inl (cc o c)) V.p, rO_SQ x V.q, ?_, ?_, by rw [x.ei]; exact V.f2, by rw [x.ei]; exact V.f3, ?_, q2, q3, ?_, by rw [x.ei]; exact V.a6⟩, fun o v c k => rO_RS x (cs_so V.S c).2 k, by rw [x.ei], o51, x.ei, fun Q => ?_⟩
  · by_cases q : b = 34 ∧ (j = 2 ∨ j = 3)
    · exact Or.inl ⟨q.1, by omega⟩
    · exact absurd (qo b j q) ne
  · rcases w with w | w | w | ⟨i, i1, w⟩
    · rw [q2] at w; cases w; exact Or.inr (Or.inl r3)
    · rw [q3] at w; cases w; exact Or.inl r2
    · rw [qo 34 4 (by omega)] at w; exact Or.inr (Or.inr (Or.inl w))
    · rw [o51] at w; exact Or.inr (Or.inr (Or.inr ⟨i, i1, w⟩))
  · rw [qo _ _ (by omega)]; exact V.r0
  · rw [qo _ _ (by omega)]; exact V.r1
  · rw [qo _ _ (by omega)]; exact V.y
  · rw [qo _ _ (by omega)]; exact V.h4
  · rw [← hX]
    clear V S' pl cc x qo o51 q2 q3
    simp (disch := omega) only [s_18_0, s_18_1, s_18_4, s_18_4n, s_18_5, s_18_6, s_18_7, s_18_10, s_18_10n, s_18_13, s_18_14, s_18_15, s_18_15n, s_18_18, e_18, mv_i_1, mv_l_1, mv_a_1, mv_a_2, mv_a_3, mk2_n, mk2_i, mk2_l, mk2_a, mk2_u, mk2_x, mB_T, mB_F, mS_cons, mS_nil, mSB_T, mSB_F, mca_nil, mca_i, mca_l, mca_r, mca_u, mca_x, mcat_i, mcat_l, mcat_r, mcat_u, mcat_x, mK_some, mK_none, va_rf_s, va_rf_n, lgc_eq, lgc_lt, lgc_gt, lgc_ge, lgc_le, mrd_104, mrd_105, mrd_106, mrd_107, true_and, and_true, and_self, false_and, and_false, true_or, or_true, false_or, or_false, not_true_eq_false, not_false_eq_true, mgb, mga, mgr, mN, reduceCtorEq, ↓reduceIte, eq_self, ge_iff_le, gt_iff_lt, hk_si, hk_sj, hk_sr, hl_si, hl_sj, hl_sr, hn_si, hn_sj, hn_sr, hs_si, hs_sj, hs_sr, hi_sj, hi_sr, hj_si, hj_sr, hr_si, hr_sj, hi_si, hj_sj, hr_sr, mg_si, mg_sj, mg_sr, Nat.reduceAdd, Nat.reduceMul, Nat.reduceSub, Nat.reduceLT, Nat.reduceGT, Nat.reduceEqDiff, Nat.reduceLeDiff, Nat.left_eq_add, Nat.add_eq_left, Nat.reduceMod, Nat.reduceDiv, Nat.succ_ne_self, g, r2, r3]
end ROs
