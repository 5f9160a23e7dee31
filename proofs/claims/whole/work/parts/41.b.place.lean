set_option maxRecDepth 100000
/-! places: two that are swapped, one that is filled -/
theorem cfR_pl : ∀ t ∈ cfR, ¬ isPl t.1 t.2.1 := by unfold isPl; decide +kernel
section PLs
variable {W : Nat → Nat → Prop} {d : Nat} {h h1 : mh_H} {Y C E TT UU SC SP nC nE nS : Nat}
theorem pl_step (B : BS h Y C E TT UU SC SP nC nE nS) (z : fz W h h1) (w : ∀ b j, W b j → isPl b j ∧ b ≠ 34 ∧ b ≠ 51) (ei : ∀ b j, b < mh_n h → mh_i h1 b j = mh_i h b j) (S1 : CS h1) (cc : ∀ o, cs h1 o → cs h o ∨ mh_n h ≤ o) (wn : ∀ b j, W b j → mh_r h1 b j ≠ none) (rN : cN h1 ≤ cN h) (rS : cS h1 ≤ cS h) : zS W (fun _ _ => False) h h1 ∧ BS h1 Y C E TT UU SC SP nC nE nS := by
  obtain ⟨P, R, lP, p⟩ := B.p
  obtain ⟨Ho, Fa, Be, r2, r3, r4⟩ := B.o
  have F := B.F
  have q := B.q
  have n73 := (F.g 73 104 250 (by decide +kernel)).2
  have ww : ∀ b j, W b j → b = 53 ∨ b = 54 ∨ b = 61 ∨ b = 62 ∨ b = 63 ∨ b = 64 ∨ b = 73 := fun b j q => by
    obtain ⟨q1, q2, q3⟩ := w b j q
    unfold isPl at q1
    omega
  have rr : ∀ b j, b < mh_n h → ¬ W b j → mh_r h1 b j = mh_r h b j := fun b j hb n => (z.2.2 b j hb n).2.2
  have nW : ∀ o, cAd o → ∀ y, y ≤ 2 → ∀ j, ¬ W (o + y) j := fun o a y hy j q => by
    have := ww _ _ q
    unfold cAd at a
    omega
  refine ⟨zS.of ⟨z.1, z.2.1, rN, rS, fun b c j g _ _ _ _ => ei b j g.2, fun b c j g _ _ _ n => rr b j g.2 (fun q => n (w b j q).1), fun b j v hp n ⟨o, e, k⟩ => ⟨o, by rw [rr b j (pl_n F hp) n]; exact e, RS_fz z (nW o (B.S.o b j o hp e).2) k⟩, fun b j hp _ n => ?_, fun b j hp n e => by rw [rr b j (pl_n F hp) n]; exact e⟩, ⟨⟨fun t ht => ⟨fz_mg z (F.k t ht).1, by rw [fz_l z (F.k t ht).1]; exact (F.k t ht).2⟩, fun t ht => by rw [rr _ _ (by have := cfR_le t ht; omega) (fun v => cfR_pl t ht (w _ _ v).1)]; exact F.r t ht⟩, S1, ⟨P, R, lP, ?_⟩, ?_, ?_, Nat.le_trans B.N z.1, ⟨Ho, Fa, Be, ?_, ?_, ?_⟩⟩⟩
  · by_cases c : W b j
    · exact wn b j c
    · rw [rr b j (pl_n F hp) c]; exact n
  · have g35 := (F.g 35 5 19 (by decide +kernel)).2
    refine ⟨by rw [rr 35 9 g35 (fun v => by have := ww _ _ v; omega)]; exact p.r9, by rw [rr 35 10 g35 (fun v => by have := ww _ _ v; omega)]; exact p.r10, fz_mg z p.g9, fz_mg z p.g10, by rw [fz_l z p.g9]; exact p.l9, by rw [fz_l z p.g10]; exact p.l10, p.d, p.n, fun o c x hx => ?_, p.b⟩
    rcases cc o c with c' | c'
    · exact p.s o c' x hx
    · have g9 := p.g9.2
      have g10 := p.g10.2
      left
      rcases hx with e | e <;> rw [e] <;> omega
  · have nY := q.n Y (by simp)
    have ry : ∀ j, mh_r h1 Y j = mh_r h Y j := fun j => rr Y j q.gY.2 (fun v => by have := ww _ _ v; omega)
    exact ⟨fz_mg z q.gY, by rw [ry]; exact q.r0, by rw [ry]; exact q.r2, by rw [ry]; exact q.r3, by rw [ry]; exact q.r4, by rw [ry]; exact q.r6, by rw [ry]; exact q.r7, fz_mg z q.gC, fz_mg z q.gE, fz_mg z q.gT, fz_mg z q.gU, fz_mg z q.g6, fz_mg z q.g7, by rw [fz_l z q.gC]; exact q.lC, by rw [fz_l z q.gE]; exact q.lE, by rw [fz_l z q.gT]; exact q.lT, by rw [fz_l z q.gU]; exact q.lU, by rw [fz_l z q.g6]; exact q.l6, by rw [fz_l z q.g7]; exact q.l7, q.n, q.bC, q.bE, q.bS⟩
  · rw [rr 2 1 (by omega) (fun v => by have := ww _ _ v; omega)]; exact B.y
  · rw [rr 34 2 (by omega) (fun v => by have := ww _ _ v; omega)]; exact r2
  · rw [rr 34 3 (by omega) (fun v => by have := ww _ _ v; omega)]; exact r3
  · rw [rr 34 4 (by omega) (fun v => by have := ww _ _ v; omega)]; exact r4
/-- two places are swapped -/
theorem pl_swap (B : BS h Y C E TT UU SC SP nC nE nS) {b1 j1 b2 j2 o1 o2 : Nat} (p1 : isPl b1 j1 ∧ b1 ≠ 34 ∧ b1 ≠ 51) (p2 : isPl b2 j2 ∧ b2 ≠ 34 ∧ b2 ≠ 51) (ne : ¬ (b1 = b2 ∧ j1 = j2)) (e1 : mh_r h b1 j1 = some o1) (e2 : mh_r h b2 j2 = some o2) : zS (fun b j => (b = b1 ∧ j = j1) ∨ (b = b2 ∧ j = j2)) (fun _ _ => False) h (mh_sr (mh_sr h b1 j1 (some o2)) b2 j2 (some o1)) ∧ BS (mh_sr (mh_sr h b1 j1 (some o2)) b2 j2 (some o1)) Y C E TT UU SC SP nC nE nS ∧ (∀ v, pv h b1 j1 v → pv (mh_sr (mh_sr h b1 j1 (some o2)) b2 j2 (some o1)) b2 j2 v) ∧ ∀ v, pv h b2 j2 v → pv (mh_sr (mh_sr h b1 j1 (some o2)) b2 j2 (some o1)) b1 j1 v := by
  have r1 : mh_r (mh_sr (mh_sr h b1 j1 (some o2)) b2 j2 (some o1)) b1 j1 = some o2 := by rw [hr_sr, if_neg ne, hr_sr, if_pos ⟨rfl, rfl⟩]
  have r2 : mh_r (mh_sr (mh_sr h b1 j1 (some o2)) b2 j2 (some o1)) b2 j2 = some o1 := by rw [hr_sr, if_pos ⟨rfl, rfl⟩]
  have rr : ∀ b j, ¬ ((b = b1 ∧ j = j1) ∨ (b = b2 ∧ j = j2)) → mh_r (mh_sr (mh_sr h b1 j1 (some o2)) b2 j2 (some o1)) b j = mh_r h b j := fun b j w => by rw [hr_sr, if_neg (fun v => w (Or.inr v)), hr_sr, if_neg (fun v => w (Or.inl v))]
  have z : fz (fun b j => (b = b1 ∧ j = j1) ∨ (b = b2 ∧ j = j2)) h (mh_sr (mh_sr h b1 j1 (some o2)) b2 j2 (some o1)) := ⟨Nat.le_refl _, fun _ _ => ⟨rfl, rfl⟩, fun b j _ w => ⟨rfl, rfl, rr b j w⟩⟩
  have ei : mh_i (mh_sr (mh_sr h b1 j1 (some o2)) b2 j2 (some o1)) = mh_i h := rfl
  have en : mh_n (mh_sr (mh_sr h b1 j1 (some o2)) b2 j2 (some o1)) = mh_n h := rfl
  have es : mh_s (mh_sr (mh_sr h b1 j1 (some o2)) b2 j2 (some o1)) = mh_s h := rfl
  have el : mh_l (mh_sr (mh_sr h b1 j1 (some o2)) b2 j2 (some o1)) = mh_l h := rfl
  generalize hX : mh_sr (mh_sr h b1 j1 (some o2)) b2 j2 (some o1) = h' at *
  have old : ∀ b j o, isPl b j → mh_r h' b j = some o → ∃ b0 j0, isPl b0 j0 ∧ mh_r h b0 j0 = some o ∧ ((b = b1 ∧ j = j1 ∧ b0 = b2 ∧ j0 = j2) ∨ (b = b2 ∧ j = j2 ∧ b0 = b1 ∧ j0 = j1) ∨ (¬ ((b = b1 ∧ j = j1) ∨ (b = b2 ∧ j = j2)) ∧ b0 = b ∧ j0 = j)) := fun b j o p e => by
    by_cases c1 : b = b1 ∧ j = j1
    · rw [c1.1, c1.2, r1] at e; cases e; exact ⟨b2, j2, p2.1, e2, Or.inl ⟨c1.1, c1.2, rfl, rfl⟩⟩
    · by_cases c2 : b = b2 ∧ j = j2
      · rw [c2.1, c2.2, r2] at e; cases e; exact ⟨b1, j1, p1.1, e1, Or.inr (Or.inl ⟨c2.1, c2.2, rfl, rfl⟩)⟩
      · rw [rr b j (by omega)] at e; exact ⟨b, j, p, e, Or.inr (Or.inr ⟨by omega, rfl, rfl⟩)⟩
  have cc : ∀ o, cs h' o → cs h o := fun o ⟨b, j, p, e⟩ => by
    obtain ⟨b0, j0, q1, q2, -⟩ := old b j o p e
    exact ⟨b0, j0, q1, q2⟩
  have ww : ∀ b j, (b = b1 ∧ j = j1) ∨ (b = b2 ∧ j = j2) → b = 53 ∨ b = 54 ∨ b = 61 ∨ b = 62 ∨ b = 63 ∨ b = 64 ∨ b = 73 := fun b j q => by
    obtain ⟨q1, q2, q3⟩ := p1
    obtain ⟨q4, q5, q6⟩ := p2
    unfold isPl at q1 q4
    omega
  have nW : ∀ o, cAd o → ∀ y, y ≤ 2 → ∀ j, ¬ ((o + y = b1 ∧ j = j1) ∨ (o + y = b2 ∧ j = j2)) := fun o a y hy j q => by
    have := ww _ _ q
    unfold cAd at a
    omega
  have S1 : CS h' := ⟨fun b j o p e => by
    obtain ⟨s, a⟩ := cs_so B.S (cc o ⟨b, j, p, e⟩)
    exact ⟨so_fz z (nW o a 0 (by omega) 3) (nW o a 0 (by omega) 4) s, a⟩, fun b j b' j' o p p' e e' => by
    obtain ⟨x1, y1, q1, q2, q3⟩ := old b j o p e
    obtain ⟨x2, y2, q4, q5, q6⟩ := old b' j' o p' e'
    have := B.S.i x1 y1 x2 y2 o q1 q4 q2 q5
    omega⟩
  have so : ∀ b j, (mh_r h' b j).isSome = (mh_r h b j).isSome := fun b j => by
    by_cases c1 : b = b1 ∧ j = j1
    · rw [c1.1, c1.2, r1, e1]; rfl
    · by_cases c2 : b = b2 ∧ j = j2
      · rw [c2.1, c2.2, r2, e2]; rfl
      · rw [rr b j (by omega)]
  have et : cT h' = cT h := by
    have ec : ∀ a m, cnS h' a m = cnS h a m := fun a m => n64_cong m (fun i _ => so a i)
    unfold cT
    rw [ec, ec, ec, ec, ec, ec, ec]
  have n35 : ∀ j, mh_r h' 35 j = mh_r h 35 j := fun j => rr 35 j (fun v => by have := ww _ _ v; omega)
  have ey : cY h' = cY h := by unfold cY; rw [rr 2 1 (fun v => by have := ww _ _ v; omega), ei]
  have e9 : ln h' 35 9 = ln h 35 9 := by unfold ln; rw [n35, el]
  have eg : cG h' = cG h := by unfold cG; rw [e9, ey]
  obtain ⟨x, B'⟩ := pl_step B z (fun b j v => by
    rcases v with v | v
    · rw [v.1, v.2]; exact p1
    · rw [v.1, v.2]; exact p2) (fun b j _ => by rw [ei]) S1 (fun o c => Or.inl (cc o c)) (fun b j v => by
    rcases v with v | v
    · rw [v.1, v.2, r1]; exact fun q => by cases q
    · rw [v.1, v.2, r2]; exact fun q => by cases q) (by unfold cN; rw [en, et, eg]; exact Int.le_refl _) (by unfold cS; rw [es, et, eg, ey]; exact Int.le_refl _)
  refine ⟨x, B', fun v ⟨o, e, k⟩ => ⟨o, ?_, RS_fz z (nW o (B.S.o b1 j1 o p1.1 e).2) k⟩, fun v ⟨o, e, k⟩ => ⟨o, ?_, RS_fz z (nW o (B.S.o b2 j2 o p2.1 e).2) k⟩⟩
  · rw [e1] at e; cases e; exact r2
  · rw [e2] at e; cases e; exact r1
theorem cT_1 {h' : mh_H} {b : Nat} (hb : b = 54 ∨ b = 61 ∨ b = 62 ∨ b = 63 ∨ b = 64 ∨ b = 73) (ec : ∀ a, a < 74 → a ≠ b → ∀ m, cnS h' a m = cnS h a m) (cb : cnS h' b 250 = cnS h b 250 + 1) : cT h' = cT h + 1 := by
  unfold cT
  rcases hb with q | q | q | q | q | q <;> subst q
  · rw [ec 51 (by decide) (by decide), ec 61 (by decide) (by decide), ec 62 (by decide) (by decide), ec 63 (by decide) (by decide), ec 64 (by decide) (by decide), ec 73 (by decide) (by decide), cb]; omega
  · rw [ec 51 (by decide) (by decide), ec 54 (by decide) (by decide), ec 62 (by decide) (by decide), ec 63 (by decide) (by decide), ec 64 (by decide) (by decide), ec 73 (by decide) (by decide), cb]; omega
  · rw [ec 51 (by decide) (by decide), ec 54 (by decide) (by decide), ec 61 (by decide) (by decide), ec 63 (by decide) (by decide), ec 64 (by decide) (by decide), ec 73 (by decide) (by decide), cb]; omega
  · rw [ec 51 (by decide) (by decide), ec 54 (by decide) (by decide), ec 61 (by decide) (by decide), ec 62 (by decide) (by decide), ec 64 (by decide) (by decide), ec 73 (by decide) (by decide), cb]; omega
  · rw [ec 51 (by decide) (by decide), ec 54 (by decide) (by decide), ec 61 (by decide) (by decide), ec 62 (by decide) (by decide), ec 63 (by decide) (by decide), ec 73 (by decide) (by decide), cb]; omega
  · rw [ec 51 (by decide) (by decide), ec 54 (by decide) (by decide), ec 61 (by decide) (by decide), ec 62 (by decide) (by decide), ec 63 (by decide) (by decide), ec 64 (by decide) (by decide), cb]; omega
/-- what is new -/
abbrev nwP (h h' : mh_H) (b j : Nat) : Prop := (fz (fun b' j' => b' = b ∧ j' = j) h h') ∧ (∀ b' j', b' < mh_n h → mh_i h' b' j' = mh_i h b' j') ∧ (mh_n h' = mh_n h + 3) ∧ (mh_s h' = mh_s h + 330) ∧ (mh_r h' b j = some (mh_n h)) ∧ (so h' (mh_n h))
theorem nwP.z {h h' : mh_H} {b j : Nat} (q : nwP h h' b j) : fz (fun b' j' => b' = b ∧ j' = j) h h' := q.1
theorem nwP.ei {h h' : mh_H} {b j : Nat} (q : nwP h h' b j) : ∀ b' j', b' < mh_n h → mh_i h' b' j' = mh_i h b' j' := q.2.1
theorem nwP.en {h h' : mh_H} {b j : Nat} (q : nwP h h' b j) : mh_n h' = mh_n h + 3 := q.2.2.1
theorem nwP.es {h h' : mh_H} {b j : Nat} (q : nwP h h' b j) : mh_s h' = mh_s h + 330 := q.2.2.2.1
theorem nwP.r1 {h h' : mh_H} {b j : Nat} (q : nwP h h' b j) : mh_r h' b j = some (mh_n h) := q.2.2.2.2.1
theorem nwP.sn {h h' : mh_H} {b j : Nat} (q : nwP h h' b j) : so h' (mh_n h) := q.2.2.2.2.2
theorem nw_P {b j : Nat} (hb : b < 74) (hN : 2644 ≤ mh_n h) : nwP h (mh_sr (nw h) b j (some (mh_n h))) b j := by
  have z0 := nw_z (h := h)
  have n0 := nw_n (h := h)
  have s0 := nw_s (h := h)
  have sn := nw_so (h := h)
  generalize nw h = X at *
  have zz : fz (fun b' j' => b' = b ∧ j' = j) h (mh_sr X b j (some (mh_n h))) := by
    refine ⟨by rw [hn_sr]; exact z0.1, fun b' hb' => by rw [hk_sr, hl_sr]; exact z0.2.1 b' hb', fun b' j' hb' w => ?_⟩
    rw [hi_sr, hj_sr, hr_sr, if_neg w]
    exact z0.2.2 b' j' hb' (fun q => q)
  have ss : so (mh_sr X b j (some (mh_n h))) (mh_n h) := by
    unfold so at sn ⊢
    obtain ⟨a1, a2, a3, a4, a5, a6, a7⟩ := sn
    rw [mg_sr, mg_sr, mg_sr, hl_sr, hr_sr, if_neg (by omega), hr_sr, if_neg (by omega)]
    exact ⟨a1, a2, a3, a4, a5, a6, a7⟩
  exact ⟨zz, fun b' j' hb' => by rw [hi_sr]; exact (z0.2.2 b' j' hb' (fun q => q)).1, by rw [hn_sr]; exact n0, by rw [hs_sr]; exact s0, by rw [hr_sr, if_pos ⟨rfl, rfl⟩], ss⟩
/-- a place is filled -/
theorem pl_newP (B : BS h Y C E TT UU SC SP nC nE nS) {h' : mh_H} {b j : Nat} (hb : b = 54 ∨ b = 61 ∨ b = 62 ∨ b = 63 ∨ b = 64 ∨ b = 73) (hj : j < 250) (e : mh_r h b j = none) (n : nwP h h' b j) : zS (fun b' j' => b' = b ∧ j' = j) (fun _ _ => False) h h' ∧ BS h' Y C E TT UU SC SP nC nE nS := by
  have n73 := (B.F.g 73 104 250 (by decide +kernel)).2
  have hp : isPl b j := by unfold isPl; omega
  have b1 : b < 74 ∧ 53 < b := by omega
  have z := n.z
  have r1 := n.r1
  have rr : ∀ b' j', b' < mh_n h → ¬ (b' = b ∧ j' = j) → mh_r h' b' j' = mh_r h b' j' := fun b' j' hb' w => (z.2.2 b' j' hb' w).2.2
  have ei := n.ei
  have en := n.en
  have es := n.es
  have sn := n.sn
  have cc : ∀ b' j' o, isPl b' j' → mh_r h' b' j' = some o → (b' = b ∧ j' = j ∧ o = mh_n h) ∨ (¬ (b' = b ∧ j' = j) ∧ mh_r h b' j' = some o) := fun b' j' o p e' => by
    by_cases c : b' = b ∧ j' = j
    · rw [c.1, c.2, r1] at e'; cases e'; exact Or.inl ⟨c.1, c.2, rfl⟩
    · rw [rr b' j' (pl_n B.F p) c] at e'; exact Or.inr ⟨c, e'⟩
  have S1 : CS h' := ⟨fun b' j' o p e' => by
    rcases cc b' j' o p e' with ⟨-, -, q⟩ | ⟨-, q⟩
    · rw [q]; exact ⟨sn, Or.inr (Or.inr (Or.inr (Or.inr (Or.inr (Or.inr B.N)))))⟩
    · obtain ⟨s, a⟩ := B.S.o b' j' o p q
      have nb : ¬ o = b := by
        clear cc rr hp z n
        unfold cAd at a
        omega
      exact ⟨so_fz z (fun v => nb v.1) (fun v => nb v.1) s, a⟩, fun b' j' b'' j'' o p p' e' e'' => by
    rcases cc b' j' o p e' with ⟨q1, q2, q3⟩ | ⟨q1, q2⟩ <;> rcases cc b'' j'' o p' e'' with ⟨q1', q2', q3'⟩ | ⟨q1', q2'⟩
    · exact ⟨q1.trans q1'.symm, q2.trans q2'.symm⟩
    · have := (B.S.o b'' j'' o p' q2').1.1.2
      exact absurd q3 (Nat.ne_of_lt this)
    · have := (B.S.o b' j' o p q2).1.1.2
      exact absurd q3' (Nat.ne_of_lt this)
    · exact B.S.i b' j' b'' j'' o p p' q2 q2'⟩
  have et := cT_1 (h := h) (h' := h') hb (fun a ha nab m => n64_cong m (fun i _ => by rw [rr a i (by omega) (fun v => nab v.1)])) (n64_set (k := j) (by rw [e]; rfl) (by rw [r1]; rfl) (fun i hi => by rw [rr b i (by omega) (fun v => hi v.2)]) hj)
  obtain ⟨P, R, lP, p⟩ := B.p
  have e9 : ln h' 35 9 = ln h 35 9 := by
    unfold ln
    rw [rr 35 9 (by omega) (fun v => by omega), p.r9]
    exact (z.2.1 P p.g9.2).2
  have ey : cY h' = cY h := by
    unfold cY
    rw [rr 2 1 (by omega) (fun v => by omega), B.y]
    dsimp only
    rw [ei Y 5 B.q.gY.2]
  have eg : cG h' = cG h := by unfold cG; rw [e9, ey]
  exact pl_step B z (fun b' j' v => by rw [v.1, v.2]; exact ⟨hp, by omega, by omega⟩) ei S1 (fun o ⟨b', j', p', e'⟩ => by
    rcases cc b' j' o p' e' with ⟨-, -, q⟩ | ⟨-, q⟩
    · exact Or.inr (Nat.le_of_eq q.symm)
    · exact Or.inl ⟨b', j', p', q⟩) (fun b' j' v => by rw [v.1, v.2, r1]; exact fun q => by cases q) (by unfold cN; rw [en, et, eg]; omega) (by unfold cS; rw [es, et, eg, ey]; omega)
theorem pl_new (B : BS h Y C E TT UU SC SP nC nE nS) {b j : Nat} (hb : b = 54 ∨ b = 61 ∨ b = 62 ∨ b = 63 ∨ b = 64 ∨ b = 73) (hj : j < 250) (e : mh_r h b j = none) : zS (fun b' j' => b' = b ∧ j' = j) (fun _ _ => False) h (mh_sr (nw h) b j (some (mh_n h))) ∧ BS (mh_sr (nw h) b j (some (mh_n h))) Y C E TT UU SC SP nC nE nS ∧ mh_r (mh_sr (nw h) b j (some (mh_n h))) b j = some (mh_n h) := by
  have n := nw_P (h := h) (b := b) (j := j) (by omega) B.N
  exact ⟨(pl_newP B hb hj e n).1, (pl_newP B hb hj e n).2, n.r1⟩
end PLs
