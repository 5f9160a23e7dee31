set_option maxRecDepth 100000
/-! the reference's begin, whole; functions in its rows -/
section FXs
variable {h : mh_H} {K : Nat → Int32} {m n : Nat} {Bt : Nat → Int32} {P U : Nat → Nat} {sp : Nat → Nat → Bool} {Sc : cps} {T : tr} {N g k : Nat} {NL : List Nat} {nm : Nat → Nat} {KN : Nat → Prop} {o : Int32}
theorem rev_at {β : Type} {f : Nat × Nat → β} {v : β} : ∀ (L : cen) i, ((L.reverse).map f)[i]? = some v → ∃ l x r, L = l ++ x :: r ∧ r.length = i ∧ f x = v := by
  intro L
  induction L with
  | nil => intro i e; cases e
  | cons x r ih =>
    intro i e
    have lr : ((r.reverse).map f).length = r.length := by rw [List.length_map, List.length_reverse]
    rw [List.reverse_cons, List.map_append] at e
    by_cases c : i < r.length
    · rw [List.getElem?_append_left (by omega)] at e
      obtain ⟨l, y, r', e1, e2, e3⟩ := ih i e
      exact ⟨x :: l, y, r', by rw [e1]; rfl, e2, e3⟩
    · rw [List.getElem?_append_right (by omega), lr] at e
      have e' : [f x][i - r.length]? = some v := e
      by_cases c0 : i - r.length = 0
      · rw [c0] at e'
        cases e'
        exact ⟨[], x, r, rfl, by omega, rfl⟩
      · obtain ⟨j, hj⟩ : ∃ j, i - r.length = j + 1 := ⟨i - r.length - 1, by omega⟩
        rw [hj] at e'
        cases e'
theorem prR_at {fk : Nat} : ∀ (l : cen) L, prR h nm KN P fk (l ++ L) → prR h nm KN P fk L := by
  intro l
  induction l with
  | nil => exact fun L w => w
  | cons x l ih => exact fun L w => ih L w.2
theorem FX_of {D : lyD} {cnt : Nat} {FK : Nat → Nat} {T : tr} (hD : D = lyDs sp (Sc.2 15) P T (Sc.1 9)) (hFK : FK = poZ T 1) (C : RLC h (fun a => nix sp NL a) (fun a => nix sp NL a < NL.length) D K m cnt FK T) (Z : fnZ sp Sc N T 0 0 (Sc.1 9) (Sc.1 8)) (G : fgZ K P T) (hz : ∀ i, K i = 2 → i < m) (hm : m ≤ 20000) (hL : NL.length < 100000) : FX (mh_i h 93) (mh_i h 95) (mh_i h 97) (pD sp NL D FK) := by
  intro g hg
  obtain ⟨⟨zc, -⟩, xs, ys, atz⟩ := fnZ_at T 0 0 _ _ Z
  rw [Nat.zero_add] at zc
  have hg' : g < D.c := hg
  have ec : D.c = Sc.1 9 := by rw [hD]; rfl
  obtain ⟨-, fnn, -⟩ := atz g (by omega)
  rw [Nat.zero_add] at fnn
  obtain ⟨i, F⟩ := FP_of fnn (fgZ_at T G g (by omega))
  have FQ := C.f g hg'
  have hcn := C.c.2
  have B := FQ.B
  obtain ⟨tR, -, -⟩ := C.T
  obtain ⟨⟨nn, t1⟩, -, -⟩ := trR_at T 1 tR g (by omega)
  obtain ⟨a, r, b0, ecs, ka, ti, pm, kb0, eL, pa⟩ := F.c
  rw [ecs] at t1
  obtain ⟨-, ⟨⟨y1, y2, y3, -⟩, -⟩, -⟩ := t1
  have hb : (pD sp NL D FK).b g = D.B g := by
    show FK g + 2 + (((D.FP g).reverse).map fun x => nmI sp NL x.1).length = D.B g
    rw [List.length_map, List.length_reverse]
    exact B.symm
  have hn : (pD sp NL D FK).n g = FK g := rfl
  have ht : (pD sp NL D FK).t g = rn sp NL (D.FT g) := rfl
  have u := FQ.u
  have nl : ∀ x, nix sp NL x < 2147483648 := fun x => by have := nix_le (sp := sp) (t := x) NL; omega
  rw [hb, hn, ht, ts_rn]
  refine ⟨by omega, ?_, fun j v hv => ?_, FQ.n, FQ.s, trR_nd hL _ _ _ FQ.t⟩
  · show (mh_i h 95 (FK g + 1)).toInt = nmI sp NL (D.H (6 * g)).toNatClampNeg
    have hH : D.H (6 * g) = Int32.ofNat i := by rw [hD]; exact F.h0
    have hi := hz i F.k
    rw [hH, nn_clamp (by omega), hFK, y3 ka, ti]
    exact nn_int (nl i)
  · obtain ⟨l, x, r', e1, e2, e3⟩ := rev_at (D.FP g) j hv
    have pr := FQ.p
    rw [e1] at pr
    obtain ⟨xa, xz⟩ := x
    obtain ⟨⟨z0, -, p1, -, -⟩, -⟩ := prR_at l _ pr
    rw [e2] at p1
    have len : j < (D.FP g).length := by
      rw [e1, List.length_append, List.length_cons]
      omega
    refine ⟨?_, ?_⟩
    · have := FQ.k (1 + j) (by omega)
      rw [show FK g + 1 + (1 + j) = FK g + 2 + j from by omega] at this
      exact this
    · rw [p1, ← e3]
      exact nn_int (nl xa)
end FXs
section BGw
variable {d : Nat} {h h1 : mh_H} {c : Nat}
/-- what begin writes first -/
def b5H (h : mh_H) (cnt : Nat) : mh_H := mh_si (mh_si (mh_sr (mh_sr (mh_sr h 115 0 (some 93)) 115 1 (some 95)) 115 2 (some 97)) 115 3 (Int32.ofNat cnt)) 115 13 0
/-- what begin may change -/
def fB0 (h h1 : mh_H) : Prop := mh_n h ≤ mh_n h1 ∧ (∀ b, b < mh_n h → mh_k h1 b = mh_k h b ∧ mh_l h1 b = mh_l h b) ∧ (∀ b j, b < mh_n h → ¬ (b = 115 ∧ (j = 12 ∨ j ≤ 2)) → mh_r h1 b j = mh_r h b j) ∧ (∀ b j, b < 2644 → ¬ (b = 115 ∧ (j = 3 ∨ j = 13)) → b ≠ 120 → mh_i h1 b j = mh_i h b j ∧ mh_j h1 b j = mh_j h b j) ∧ (∀ b j, b < mh_n h → mh_j h1 b j = mh_j h b j) ∧ (∀ b j, b < mh_n h → ¬ (b = 115 ∧ (j = 3 ∨ j = 13)) → mh_r h 115 12 ≠ some b → mh_i h1 b j = mh_i h b j) ∧ qN h1 ≤ qN h ∧ qS h1 ≤ qS h
theorem u_270 {nm : Nat → Nat} {o : Int32} {T : tr} {cnt : Nat} (Y : RYh h) (tR : trR h nm T 1 o) (hk : 1 + ts T = cnt) (hcn : cnt ≤ 25000) (hT : tlc T ≤ 2000) : ∃ h', fB0 h h' ∧ RYh h' ∧ (mh_r h' 115 0 = some 93 ∧ mh_r h' 115 1 = some 95 ∧ mh_r h' 115 2 = some 97) ∧ mh_i h' 115 13 = Int32.ofNat (tlc T) ∧ (∃ c, mh_r h' 115 12 = some c ∧ mg h' c 100 ∧ tlc T ≤ mh_l h' c ∧ mh_l h' c ≤ 4000 ∧ (c = 120 ∨ 2644 ≤ c) ∧ (∀ i a, mh_r h' 119 i = some a → ¬ kc a c) ∧ ¬ paR h' c ∧ ∀ f, f < tlc T → mh_i h' c f = Int32.ofNat (poZ T 1 f)) ∧ ∀ Q, mcall (d + 1) 270 [.ref 115, .ref 93, .ref 95, .ref 97, .int (Int32.ofNat cnt)] h Q = Q none h' := by
  have F := Y.F
  have n2 : 2643 < mh_n h := (F.g 2643 107 8 (by decide +kernel)).2
  obtain ⟨PQ, PS, PU, PF, PL, PH, lP, Pr⟩ := Y.P
  obtain ⟨c, c1, c2, c3, c4, c5, c6, c7⟩ := Y.t
  have r5 : ∀ b j, mh_r (b5H h cnt) b j = if b = 115 ∧ j = 2 then some 97 else if b = 115 ∧ j = 1 then some 95 else if b = 115 ∧ j = 0 then some 93 else mh_r h b j := fun b j => by
    unfold b5H
    rw [hr_si, hr_si, hr_sr, hr_sr, hr_sr]
  have i5 : ∀ b j, mh_i (b5H h cnt) b j = if b = 115 ∧ j = 13 then 0 else if b = 115 ∧ j = 3 then Int32.ofNat cnt else mh_i h b j := fun b j => by
    unfold b5H
    rw [hi_si, hi_si, hi_sr, hi_sr, hi_sr]
  have e5 : mh_k (b5H h cnt) = mh_k h ∧ mh_l (b5H h cnt) = mh_l h ∧ mh_n (b5H h cnt) = mh_n h ∧ mh_s (b5H h cnt) = mh_s h ∧ mh_j (b5H h cnt) = mh_j h := ⟨rfl, rfl, rfl, rfl, rfl⟩
  have ent : ∀ Q, mcall (d + 1) 270 [.ref 115, .ref 93, .ref 95, .ref 97, .int (Int32.ofNat cnt)] h Q = mw (d + 1) 270 Q 29 [some (.ref 115), some (.ref 93), some (.ref 95), some (.ref 97), some (.int (Int32.ofNat cnt)), some (.int (Int32.ofNat 1))] [] (b5H h cnt) := fun Q => by
    have g0 : mg h 115 12 := F.g 115 12 38 (by decide +kernel)
    unfold b5H
    rw [show Int32.ofNat 1 = 1 from rfl]
    clear F Y Pr tR r5 i5 e5 c7 c6 c5 c4 c3 c2 c1
    simp (disch := omega) only [s_270_0, s_270_1, s_270_2, s_270_2n, s_270_5, s_270_6, s_270_7, s_270_7n, s_270_10, s_270_11, s_270_12, s_270_12n, s_270_15, s_270_16, s_270_18, s_270_21, s_270_22, s_270_23, s_270_26, s_270_27, s_270_31, s_270_33, s_270_36, s_270_37, s_270_38, s_270_41, s_270_42, s_270_45, s_270_46, s_270_49, s_270_50, s_270_53, s_270_56, s_270_59, s_270_60, s_270_63, s_270_63n, s_270_66, s_270_67, s_270_70, s_270_71, s_270_72, s_270_75, s_270_76, s_270_77, s_270_78, s_270_81, s_270_83, s_270_84, s_270_86, s_270_87, s_270_89, s_270_90, s_270_91, s_270_93, s_270_96, e_270, mv_i_1, mv_l_1, mv_a_1, mv_a_2, mv_a_3, mk2_n, mk2_i, mk2_l, mk2_a, mk2_u, mk2_x, mB_T, mB_F, mS_cons, mS_nil, mSB_T, mSB_F, mca_nil, mca_i, mca_l, mca_r, mca_u, mca_x, mcat_i, mcat_l, mcat_r, mcat_u, mcat_x, mK_some, mK_none, va_rf_s, va_rf_n, lgc_eq, lgc_lt, lgc_gt, lgc_ge, lgc_le, mrd_104, mrd_105, mrd_106, mrd_107, true_and, and_true, and_self, false_and, and_false, true_or, or_true, false_or, or_false, not_true_eq_false, not_false_eq_true, mgb, mga, mgr, mN, reduceCtorEq, ↓reduceIte, eq_self, ge_iff_le, gt_iff_lt, hk_si, hk_sj, hk_sr, hl_si, hl_sj, hl_sr, hn_si, hn_sj, hn_sr, hs_si, hs_sj, hs_sr, hi_sj, hi_sr, hj_si, hj_sr, hr_si, hr_sj, hi_si, hj_sj, hr_sr, mg_si, mg_sj, mg_sr, Nat.reduceAdd, Nat.reduceMul, Nat.reduceSub, Nat.reduceLT, Nat.reduceGT, Nat.reduceEqDiff, Nat.reduceLeDiff, Nat.left_eq_add, Nat.add_eq_left, Nat.reduceMod, Nat.reduceDiv, Nat.succ_ne_self, g0]
  have q5 : qN (b5H h cnt) = qN h ∧ qS (b5H h cnt) = qS h := by
    have cc := cnS_c (h1 := b5H h cnt) (h := h) (a := 119) (n := 2048) (fun i => by rw [r5, if_neg (by omega), if_neg (by omega), if_neg (by omega)])
    have l1 : ln (b5H h cnt) 115 27 = ln h 115 27 := by
      unfold ln
      rw [r5, if_neg (by omega), if_neg (by omega), if_neg (by omega)]
      rfl
    have l2 : ln (b5H h cnt) 115 12 = ln h 115 12 := by
      unfold ln
      rw [r5, if_neg (by omega), if_neg (by omega), if_neg (by omega)]
      rfl
    unfold qN qS
    rw [cc, l1, l2]
    exact ⟨rfl, rfl⟩
  generalize b5H h cnt = hA at ent r5 i5 e5 q5
  obtain ⟨k1, k2, k3, k4, k5⟩ := e5
  have FA : RF hA := RF_9 ⟨by omega, fun b _ => by rw [k1, k2]; exact ⟨rfl, rfl⟩, fun b j _ w => by rw [r5, if_neg (by omega), if_neg (by omega), if_neg (by omega)], c, by rw [r5, if_neg (by omega), if_neg (by omega), if_neg (by omega)]; exact c1, by rw [k3]; exact c2.2⟩ F
  have gA : ∀ b c, mg h b c → mg hA b c := fun b c g => by unfold mg; rw [k1, k3]; exact g
  have rA : ∀ j, j = 12 ∨ 3 ≤ j → mh_r hA 115 j = mh_r h 115 j := fun j hj => by rw [r5, if_neg (by omega), if_neg (by omega), if_neg (by omega)]
  have p27 := Pr.r27
  have g27 := Pr.g27
  obtain ⟨h', c', y1, y2, y3, y4, y5, y6⟩ := l_270 (d := d) (FK := poZ T 1) (cnt := cnt) (nm := nm) (o := o) (x1 := some (.ref 93)) (x2 := some (.ref 95)) hcn T 1 0 c hA FA ⟨PQ, (rA 27 (by omega)).trans p27, by rw [k3]; exact g27.2⟩ ⟨(rA 12 (by omega)).trans c1, gA _ _ c2, by rw [k2]; exact ⟨c3, c4⟩, c5, fun f hf => absurd hf (Nat.not_lt_zero _), by rw [i5, if_pos ⟨rfl, rfl⟩]; rfl⟩ (Nat.zero_le _) (trR_c _ _ _ (fun y j u1 u2 => by rw [i5, if_neg (by omega), if_neg (by omega)]) tR) hk (by omega) (fun i hi => by rw [Nat.zero_add])
  rw [Nat.zero_add] at y3 y4
  obtain ⟨z1, z2, z3, z4, z5, z6, z7⟩ := y1
  obtain ⟨w1, w2, ⟨w3, w4⟩, w5, w6, w7⟩ := y3
  have rr : ∀ b j, b < mh_n h → ¬ (b = 115 ∧ (j = 12 ∨ j ≤ 2)) → mh_r h' b j = mh_r h b j := fun b j hb w => by
    rw [z3 b j (by omega) (by omega), r5, if_neg (by omega), if_neg (by omega), if_neg (by omega)]
  have r119 : ∀ i, mh_r h' 119 i = mh_r h 119 i := fun i => rr 119 i (by omega) (by omega)
  have pc : c' = c ∨ mh_n h ≤ c' := by omega
  have sp := Pr.s
  have hr3 : ∀ j, j ≤ 2 → mh_r h' 115 j = mh_r hA 115 j := fun j hj => z3 115 j (by omega) (by omega)
  have kc' : ∀ i a, mh_r h' 119 i = some a → ¬ kc a c' := fun i a ha => by
    rw [r119] at ha
    rcases pc with e | e
    · rw [e]; exact c6 i a ha
    · have := (sp i a ha).1
      unfold kc
      omega
  have pa' : ¬ paR h' c' := by
    rintro ⟨j, j1, j2, j3⟩
    rw [rr 115 j (by omega) (by omega)] at j3
    rcases pc with e | e
    · rw [e] at j3; exact c7 ⟨j, j1, j2, j3⟩
    · have : ∀ x, mh_r h 115 j = some x → x < mh_n h := fun x ex => by
        have q : j = 27 ∨ j = 28 ∨ j = 29 ∨ j = 30 ∨ j = 31 ∨ j = 32 := by omega
        rcases q with q | q | q | q | q | q <;> subst q
        · rw [Pr.r27] at ex; cases ex; exact Pr.g27.2
        · rw [Pr.r28] at ex; cases ex; exact Pr.g28.2
        · rw [Pr.r29] at ex; cases ex; exact Pr.g29.2
        · rw [Pr.r30] at ex; cases ex; exact Pr.g30.2
        · rw [Pr.r31] at ex; cases ex; exact Pr.g31.2
        · rw [Pr.r32] at ex; cases ex; exact Pr.g32.2
      have := this c' j3
      omega
  have fz0 : fz (fun b j => b = 115 ∧ (j = 12 ∨ j ≤ 3 ∨ j = 13) ∨ b = c) h h' := ⟨by omega, fun b hb => by
    obtain ⟨a1, a2⟩ := z2 b (by omega)
    rw [a1, a2, k1, k2]
    exact ⟨rfl, rfl⟩, fun b j hb w => ⟨by rw [z4 b j (by omega) (by omega) (by omega), i5, if_neg (by omega), if_neg (by omega)], by rw [z5 b j (by omega), k5], rr b j hb (by omega)⟩⟩
  have P' : PR h' PQ PS PU PF PL PH lP := PR_fz fz0 F Pr (fun j j1 j2 w => by
    rcases w with ⟨-, w⟩ | w
    · omega
    · omega) (fun i a ha => Or.inl (by rw [r119] at ha; exact ha))
  refine ⟨h', ⟨by omega, fun b hb => ?_, rr, fun b j hb w w2 => ?_, fun b j hb => by rw [z5 b j (by omega), k5], fun b j hb w w2 => ?_, by rw [← q5.1]; exact z6, by rw [← q5.2]; exact z7⟩, RYh.of ⟨y5, ⟨PQ, PS, PU, PF, PL, PH, lP, P'⟩, fun i a ha => ?_, fun i j a ha hb => ?_, ⟨c', w1, w2, w3, w4, w5, kc', pa'⟩⟩, ⟨?_, ?_, ?_⟩, w7, ⟨c', w1, w2, y4, w4, w5, kc', pa', w6⟩, fun Q => (ent Q).trans (y6 Q)⟩
  · obtain ⟨a1, a2⟩ := z2 b (by omega)
    rw [a1, a2, k1, k2]
    exact ⟨rfl, rfl⟩
  · exact ⟨by rw [z4 b j (by omega) (by omega) (by omega), i5, if_neg (by omega), if_neg (by omega)], by rw [z5 b j (by omega), k5]⟩
  · rw [z4 b j (by omega) (by omega) (fun e => w2 (by rw [e]; exact c1)), i5, if_neg (by omega), if_neg (by omega)]
  · rw [r119] at ha
    obtain ⟨a1, a2⟩ := Y.K i a ha
    refine ⟨a1, ko_9 ⟨by omega, fun b hb => ?_, rr, c', w1, w2.2⟩ (by omega) a2⟩
    obtain ⟨b1, b2⟩ := z2 b (by omega)
    rw [b1, b2, k1, k2]
    exact ⟨rfl, rfl⟩
  · rw [r119] at ha hb
    exact Y.u i j a ha hb
  · rw [hr3 0 (by omega), r5, if_neg (by omega), if_neg (by omega), if_pos ⟨rfl, rfl⟩]
  · rw [hr3 1 (by omega), r5, if_neg (by omega), if_pos ⟨rfl, rfl⟩]
  · rw [hr3 2 (by omega), r5, if_pos ⟨rfl, rfl⟩]
end BGw
