set_option maxRecDepth 100000
/-! Ranges.lookFrom -/
def lfH (h : mh_H) (Y X nb na : Nat) : mh_H := mh_si (mh_sr (mh_si (mh_si (mh_sr h 35 0 (some Y)) 35 2 (Int32.ofNat nb)) 35 3 (Int32.ofNat na)) 35 1 (some X)) 35 4 0
def lgH (h : mh_H) (pa : Nat) : mh_H := mh_sr (mh_new (mh_sr (mh_new h 101 pa) 35 9 (some (mh_n h))) 101 pa) 35 10 (some (mh_n h + 1))
theorem cfR_35 : ∀ t ∈ cfR, ¬ (t.1 = 35 ∧ (t.2.1 ≤ 4 ∨ t.2.1 = 9 ∨ t.2.1 = 10)) := by decide +kernel
abbrev LK (h : mh_H) (P R lP X Y C E TT UU SC SP nC nE nS nb na : Nat) : Prop := (CF h) ∧ (CS h) ∧ (CP h P R lP) ∧ (SQ h Y C E TT UU SC SP nC nE nS) ∧ (mh_r h 35 0 = some Y) ∧ (mh_r h 35 1 = some X) ∧ (mh_i h 35 2 = Int32.ofNat nb) ∧ (mh_i h 35 3 = Int32.ofNat na) ∧ (mh_r h 2 1 = some Y)
theorem LK.F {h : mh_H} {P R lP X Y C E TT UU SC SP nC nE nS nb na : Nat} (q : LK h P R lP X Y C E TT UU SC SP nC nE nS nb na) : CF h := q.1
theorem LK.S {h : mh_H} {P R lP X Y C E TT UU SC SP nC nE nS nb na : Nat} (q : LK h P R lP X Y C E TT UU SC SP nC nE nS nb na) : CS h := q.2.1
theorem LK.p {h : mh_H} {P R lP X Y C E TT UU SC SP nC nE nS nb na : Nat} (q : LK h P R lP X Y C E TT UU SC SP nC nE nS nb na) : CP h P R lP := q.2.2.1
theorem LK.q {h : mh_H} {P R lP X Y C E TT UU SC SP nC nE nS nb na : Nat} (q : LK h P R lP X Y C E TT UU SC SP nC nE nS nb na) : SQ h Y C E TT UU SC SP nC nE nS := q.2.2.2.1
theorem LK.r0 {h : mh_H} {P R lP X Y C E TT UU SC SP nC nE nS nb na : Nat} (q : LK h P R lP X Y C E TT UU SC SP nC nE nS nb na) : mh_r h 35 0 = some Y := q.2.2.2.2.1
theorem LK.r1 {h : mh_H} {P R lP X Y C E TT UU SC SP nC nE nS nb na : Nat} (q : LK h P R lP X Y C E TT UU SC SP nC nE nS nb na) : mh_r h 35 1 = some X := q.2.2.2.2.2.1
theorem LK.f2 {h : mh_H} {P R lP X Y C E TT UU SC SP nC nE nS nb na : Nat} (q : LK h P R lP X Y C E TT UU SC SP nC nE nS nb na) : mh_i h 35 2 = Int32.ofNat nb := q.2.2.2.2.2.2.1
theorem LK.f3 {h : mh_H} {P R lP X Y C E TT UU SC SP nC nE nS nb na : Nat} (q : LK h P R lP X Y C E TT UU SC SP nC nE nS nb na) : mh_i h 35 3 = Int32.ofNat na := q.2.2.2.2.2.2.2.1
theorem LK.y {h : mh_H} {P R lP X Y C E TT UU SC SP nC nE nS nb na : Nat} (q : LK h P R lP X Y C E TT UU SC SP nC nE nS nb na) : mh_r h 2 1 = some Y := q.2.2.2.2.2.2.2.2
def lfW (b j : Nat) : Prop := b = 35 ∧ (j ≤ 4 ∨ j = 9 ∨ j = 10)
section LFs
variable {d : Nat} {h h1 : mh_H} {P R lP X Y C E TT UU SC SP nC nE nS nb na p pa : Nat} {A : ab} {P' R' lP' : Nat} {sN : Int → Prop} {en : Int → Nat} {t : tr} {tu : Bool} {sum c0 p0 : Nat}
theorem LK.rg (K : LK h P R lP X Y C E TT UU SC SP nC nE nS nb na) (cX : cs h X) (k : RS h X (some A)) (T : ab_T A) : RG h P R lP X Y C E TT UU SC SP nC nE nS nb na A := ⟨K.F, K.S, K.p, K.q, K.r0, K.r1, cX, k, T, K.f2, K.f3, K.y⟩
theorem lz_pl (F : CF h) (z : fz lfW h h1) (b j : Nat) (hp : isPl b j) : mh_r h1 b j = mh_r h b j := (z.2.2 b j (pl_n F hp) (fun w => by unfold isPl at hp; unfold lfW at w; omega)).2.2
theorem lz_cs (F : CF h) (z : fz lfW h h1) (o : Nat) : cs h1 o ↔ cs h o := ⟨fun ⟨b, j, hp', e⟩ => ⟨b, j, hp', by rw [← lz_pl F z b j hp']; exact e⟩, fun ⟨b, j, hp', e⟩ => ⟨b, j, hp', by rw [lz_pl F z b j hp']; exact e⟩⟩
theorem lz_RS (S : CS h) (z : fz lfW h h1) (o : Nat) (v : Option ab) (c : cs h o) (k : RS h o v) : RS h1 o v := RS_fz z (fun y hy j w => by
    have a := (cs_so S c).2
    unfold cAd at a
    unfold lfW at w
    omega) k
theorem lz_F (F : CF h) (z : fz lfW h h1) : CF h1 := ⟨fun t ht => ⟨fz_mg z (F.k t ht).1, by rw [fz_l z (F.k t ht).1]; exact (F.k t ht).2⟩, fun t ht => by
  have n73 := (F.g 73 104 250 (by decide +kernel)).2
  rw [(z.2.2 t.1 t.2.1 (by have := cfR_le t ht; omega) (cfR_35 t ht)).2.2]; exact F.r t ht⟩
theorem lz_S (F : CF h) (S : CS h) (z : fz lfW h h1) : CS h1 := ⟨fun b j o hp' e => by
    rw [lz_pl F z b j hp'] at e
    obtain ⟨s, a⟩ := S.o b j o hp' e
    have a' := a
    unfold cAd at a'
    exact ⟨so_fz z (fun w => by unfold lfW at w; omega) (fun w => by unfold lfW at w; omega) s, a⟩, fun b j b' j' o hp1 hp2 e e' => by
    rw [lz_pl F z b j hp1] at e
    rw [lz_pl F z b' j' hp2] at e'
    exact S.i b j b' j' o hp1 hp2 e e'⟩
theorem lz_Q (z : fz lfW h h1) (q : SQ h Y C E TT UU SC SP nC nE nS) : SQ h1 Y C E TT UU SC SP nC nE nS := by
  have nY := q.n Y (by simp)
  have ry : ∀ j, mh_r h1 Y j = mh_r h Y j := fun j => (z.2.2 Y j q.gY.2 (fun w => by unfold lfW at w; omega)).2.2
  exact ⟨fz_mg z q.gY, by rw [ry]; exact q.r0, by rw [ry]; exact q.r2, by rw [ry]; exact q.r3, by rw [ry]; exact q.r4, by rw [ry]; exact q.r6, by rw [ry]; exact q.r7, fz_mg z q.gC, fz_mg z q.gE, fz_mg z q.gT, fz_mg z q.gU, fz_mg z q.g6, fz_mg z q.g7, by rw [fz_l z q.gC]; exact q.lC, by rw [fz_l z q.gE]; exact q.lE, by rw [fz_l z q.gT]; exact q.lT, by rw [fz_l z q.gU]; exact q.lU, by rw [fz_l z q.g6]; exact q.l6, by rw [fz_l z q.g7]; exact q.l7, q.n, q.bC, q.bE, q.bS⟩
theorem lz_cT (F : CF h) (z : fz lfW h h1) : cT h1 = cT h := by
  have ec : ∀ a, (∀ i, isPl a i) → ∀ m, cnS h1 a m = cnS h a m := fun a ha m => n64_cong m (fun i _ => by rw [lz_pl F z a i (ha i)])
  unfold cT
  rw [ec 51 (fun _ => by unfold isPl; omega), ec 61 (fun _ => by unfold isPl; omega), ec 62 (fun _ => by unfold isPl; omega), ec 63 (fun _ => by unfold isPl; omega), ec 64 (fun _ => by unfold isPl; omega), ec 54 (fun _ => by unfold isPl; omega), ec 73 (fun _ => by unfold isPl; omega)]
theorem lz_cY (F : CF h) (z : fz lfW h h1) (q : SQ h Y C E TT UU SC SP nC nE nS) (y : mh_r h 2 1 = some Y) : cY h1 = cY h := by
  have nY := q.n Y (by simp)
  have n2 := (F.g 2 4 20 (by decide +kernel)).2
  unfold cY
  rw [(z.2.2 2 1 n2 (fun w => by unfold lfW at w; omega)).2.2, y]
  dsimp only
  rw [(z.2.2 Y 5 q.gY.2 (fun w => by unfold lfW at w; omega)).1]
theorem SU_lz (z : fz lfW h h1) (q : SQ h Y C E TT UU SC SP nC nE nS) (hl : lP ≤ lP') (U : SU h C E TT UU SC SP nC nE nS lP nb na sN en A t tu sum c0 p0) : SU h1 C E TT UU SC SP nC nE nS lP' nb na sN en A t tu sum c0 p0 := by
  have e : ∀ b, mg h b 100 → (b = C ∨ b = E ∨ b = TT ∨ b = UU ∨ b = SC ∨ b = SP) → mh_i h1 b = mh_i h b := fun b g hb => funext fun j => (z.2.2 b j g.2 (fun w => by
    have := q.n b (by omega)
    unfold lfW at w
    omega)).1
  have eC := e C q.gC (by simp)
  have eE := e E q.gE (by simp)
  have eT := e TT q.gT (by simp)
  have eU := e UU q.gU (by simp)
  have e6 := e SC q.g6 (by simp)
  have e7 := e SP q.g7 (by simp)
  exact ⟨U.s, by rw [e6]; exact U.c0, by rw [e6]; exact U.c1, by rw [e7]; exact U.p0, by rw [e7]; exact U.p1, by rw [eC]; exact U.c, U.w, U.z, U.m, by rw [eE]; exact U.e, by rw [eT, eU]; exact U.u, U.b1, U.b3, Nat.le_trans U.b4 hl, U.b6⟩
theorem lf_r {b j : Nat} (w : ¬ (b = 35 ∧ (j = 0 ∨ j = 1))) : mh_r (lfH h Y X nb na) b j = mh_r h b j := by
  unfold lfH
  rw [hr_si, hr_sr, if_neg (by omega), hr_si, hr_si, hr_sr, if_neg (by omega)]
theorem lf_i {b j : Nat} (w : ¬ (b = 35 ∧ (j = 2 ∨ j = 3 ∨ j = 4))) : mh_i (lfH h Y X nb na) b j = mh_i h b j := by
  unfold lfH
  rw [hi_si, if_neg (by omega), hi_sr, hi_si, if_neg (by omega), hi_si, if_neg (by omega), hi_sr]
theorem lf_z : fz lfW h (lfH h Y X nb na) := ⟨Nat.le_refl _, fun _ _ => ⟨rfl, rfl⟩, fun b j _ w => ⟨lf_i (fun v => w (by unfold lfW; omega)), rfl, lf_r (fun v => w (by unfold lfW; omega))⟩⟩
theorem lf_K (F : CF h) (S : CS h) (pp : CP h P R lP) (q : SQ h Y C E TT UU SC SP nC nE nS) (y : mh_r h 2 1 = some Y) : LK (lfH h Y X nb na) P R lP X Y C E TT UU SC SP nC nE nS nb na ∧ fD lfW h (lfH h Y X nb na) ∧ mh_i (lfH h Y X nb na) 35 4 = 0 := by
  have z := lf_z (h := h) (Y := Y) (X := X) (nb := nb) (na := na)
  have p' : CP (lfH h Y X nb na) P R lP := ⟨by rw [lf_r (by omega)]; exact pp.r9, by rw [lf_r (by omega)]; exact pp.r10, fz_mg z pp.g9, fz_mg z pp.g10, pp.l9, pp.l10, pp.d, pp.n, fun o c => pp.s o ((lz_cs F z o).mp c), pp.b⟩
  have x0 : mh_r (lfH h Y X nb na) 35 0 = some Y := by unfold lfH; rw [hr_si, hr_sr, if_neg (by omega), hr_si, hr_si, hr_sr, if_pos ⟨rfl, rfl⟩]
  have x1 : mh_r (lfH h Y X nb na) 35 1 = some X := by unfold lfH; rw [hr_si, hr_sr, if_pos ⟨rfl, rfl⟩]
  have x2 : mh_i (lfH h Y X nb na) 35 2 = Int32.ofNat nb := by unfold lfH; rw [hi_si, if_neg (by omega), hi_sr, hi_si, if_neg (by omega), hi_si, if_pos ⟨rfl, rfl⟩]
  have x3 : mh_i (lfH h Y X nb na) 35 3 = Int32.ofNat na := by unfold lfH; rw [hi_si, if_neg (by omega), hi_sr, hi_si, if_pos ⟨rfl, rfl⟩]
  have x4 : mh_i (lfH h Y X nb na) 35 4 = 0 := by unfold lfH; rw [hi_si, if_pos ⟨rfl, rfl⟩]
  have et := lz_cT F z
  have ey := lz_cY F z q y
  have e9 : ln (lfH h Y X nb na) 35 9 = ln h 35 9 := by unfold ln; rw [lf_r (by omega)]; rfl
  have eg : cG (lfH h Y X nb na) = cG h := by unfold cG; rw [e9, ey]
  have en : mh_n (lfH h Y X nb na) = mh_n h := rfl
  have es : mh_s (lfH h Y X nb na) = mh_s h := rfl
  refine ⟨⟨lz_F F z, lz_S F S z, p', lz_Q z q, x0, x1, x2, x3, by rw [lf_r (by omega)]; exact y⟩, ⟨z, ?_, ?_⟩, x4⟩
  · unfold cN; rw [en, et, eg]; exact Int.le_refl _
  · unfold cS; rw [es, et, eg, ey]; exact Int.le_refl _
theorem lg_n : mh_n (lgH h pa) = mh_n h + 2 := nrfl rfl
theorem lg_s : mh_s (lgH h pa) = mh_s h + pa + pa := nrfl rfl
theorem lg_z : fz (fun b j => b = 35 ∧ (j = 9 ∨ j = 10)) h (lgH h pa) := by
  refine ⟨by rw [lg_n]; omega, fun b hb => ?_, fun b j hb w => ?_⟩
  · have n0 : ¬ b = mh_n h := by omega
    have n1 : ∀ i, ¬ b = mh_n h + i := fun i => by omega
    unfold lgH
    simp only [hk_sr, hl_sr, hk_new, hl_new, hn_sr, hn_new, n0, n1, if_false, and_self]
  · have n0 : ¬ b = mh_n h := by omega
    have n1 : ∀ i, ¬ b = mh_n h + i := fun i => by omega
    have w9 : ¬ (b = 35 ∧ j = 9) := fun v => w ⟨v.1, Or.inl v.2⟩
    have w10 : ¬ (b = 35 ∧ j = 10) := fun v => w ⟨v.1, Or.inr v.2⟩
    unfold lgH
    simp only [hi_sr, hj_sr, hr_sr, hi_new, hj_new, hr_nw, hn_sr, hn_new, n0, n1, w9, w10, if_false, and_self]
theorem lg_K (K : LK h P R lP X Y C E TT UU SC SP nC nE nS nb na) (hN : 2644 ≤ mh_n h) (s5 : mh_i h Y 5 = Int32.ofNat pa) (hl : lP < pa) (hb : pa ≤ 60000) : LK (lgH h pa) (mh_n h) (mh_n h + 1) pa X Y C E TT UU SC SP nC nE nS nb na ∧ fD lfW h (lgH h pa) := by
  have z0 := lg_z (h := h) (pa := pa)
  have z : fz lfW h (lgH h pa) := fz_w z0 (fun b j _ w => ⟨w.1, Or.inr w.2⟩)
  have F := K.F
  have n35 := (F.g 35 5 19 (by decide +kernel)).2
  have n2 := (F.g 2 4 20 (by decide +kernel)).2
  have x9 : mh_r (lgH h pa) 35 9 = some (mh_n h) := by
    unfold lgH
    rw [hr_sr, if_neg (by omega), hr_nw, hn_sr, hn_new, if_neg (by omega), hr_sr, if_pos ⟨rfl, rfl⟩]
  have x10 : mh_r (lgH h pa) 35 10 = some (mh_n h + 1) := by
    unfold lgH
    rw [hr_sr, if_pos ⟨rfl, rfl⟩]
  have g9 : mg (lgH h pa) (mh_n h) 101 := ⟨by unfold lgH; rw [hk_sr, hk_new, hn_sr, hn_new, if_neg (by omega), hk_sr, hk_new, if_pos rfl], by rw [lg_n]; omega⟩
  have g10 : mg (lgH h pa) (mh_n h + 1) 101 := ⟨by unfold lgH; rw [hk_sr, hk_new, hn_sr, hn_new, if_pos rfl], by rw [lg_n]; omega⟩
  have l9 : mh_l (lgH h pa) (mh_n h) = pa := by unfold lgH; rw [hl_sr, hl_new, hn_sr, hn_new, if_neg (by omega), hl_sr, hl_new, if_pos rfl]
  have l10 : mh_l (lgH h pa) (mh_n h + 1) = pa := by unfold lgH; rw [hl_sr, hl_new, hn_sr, hn_new, if_pos rfl]
  have p' : CP (lgH h pa) (mh_n h) (mh_n h + 1) pa := ⟨x9, x10, g9, g10, l9, l10, by omega, fun x hx => by omega, fun o c x hx => by
    have s := (cs_so K.S ((lz_cs F z o).mp c)).1.2.2.2.2.2.1.2
    omega, hb⟩
  have r' : ∀ b j, b < mh_n h → ¬ (b = 35 ∧ (j = 9 ∨ j = 10)) → mh_r (lgH h pa) b j = mh_r h b j := fun b j hb w => (z0.2.2 b j hb w).2.2
  have i' : ∀ b j, b < mh_n h → ¬ (b = 35 ∧ (j = 9 ∨ j = 10)) → mh_i (lgH h pa) b j = mh_i h b j := fun b j hb w => (z0.2.2 b j hb w).1
  have et := lz_cT F z
  have ey := lz_cY F z K.q K.y
  have cy : cY h = pa := by
    unfold cY
    rw [K.y]
    dsimp only
    rw [s5]
    exact nn_clamp (by omega)
  have e9 : ln h 35 9 = lP := by unfold ln; rw [K.p.r9]; exact K.p.l9
  have e9' : ln (lgH h pa) 35 9 = pa := by unfold ln; rw [x9]; exact l9
  have eg : cG h = 1 := by unfold cG; rw [e9, cy, if_pos hl]
  have eg' : cG (lgH h pa) = 0 := by unfold cG; rw [e9', ey, cy, if_neg (by omega)]
  refine ⟨⟨lz_F F z, lz_S F K.S z, p', lz_Q z K.q, ?_, ?_, ?_, ?_, ?_⟩, ⟨z, ?_, ?_⟩⟩
  · rw [r' 35 0 n35 (by omega)]; exact K.r0
  · rw [r' 35 1 n35 (by omega)]; exact K.r1
  · rw [i' 35 2 n35 (by omega)]; exact K.f2
  · rw [i' 35 3 n35 (by omega)]; exact K.f3
  · rw [r' 2 1 n2 (by omega)]; exact K.y
  · unfold cN; rw [lg_n, et, eg, eg']; omega
  · unfold cS; rw [lg_s, et, eg, eg', ey, cy]; omega
theorem v_97 (F : CF h) (S : CS h) (pp : CP h P R lP) (q : SQ h Y C E TT UU SC SP nC nE nS) (y : mh_r h 2 1 = some Y) (cX : cs h X) (hp : p < 250) (b1 : mh_i h 21 p = Int32.ofNat nb) (b2 : mh_i h 22 p = Int32.ofNat na) (s5 : mh_i h Y 5 = Int32.ofNat pa) (hb : pa ≤ 60000) (hN : 2644 ≤ mh_n h) : ∃ h' P' R' lP', pa ≤ lP' ∧ LK h' P' R' lP' X Y C E TT UU SC SP nC nE nS nb na ∧ fD lfW h h' ∧ mh_i h' 35 4 = 0 ∧ (∀ x, x = P' ∨ x = R' → x = P ∨ x = R ∨ mh_n h ≤ x) ∧ ∀ Q, mcall d 97 [.ref 35, .ref 2, .int (Int32.ofNat p), .ref X] h Q = Q none h' := by
  have nY := q.n Y (by simp)
  obtain ⟨K, f, a4⟩ := lf_K (X := X) (nb := nb) (na := na) F S pp q y
  have g35 := F.g 35 5 19 (by decide +kernel)
  have g2 := F.g 2 4 20 (by decide +kernel)
  have r24 := F.f 2 4 21 (by decide +kernel)
  have r25 := F.f 2 5 22 (by decide +kernel)
  have g21 := F.g 21 100 250 (by decide +kernel)
  have g22 := F.g 22 100 250 (by decide +kernel)
  have l21 := F.l 21 100 250 (by decide +kernel)
  have l22 := F.l 22 100 250 (by decide +kernel)
  have gX := (cs_so S cX).1.1
  have gY := q.gY
  have r9 := pp.r9
  have g9 := pp.g9.1
  have g9' := pp.g9.2
  have l9 := pp.l9
  have lb := pp.b
  have Y35 : ¬ Y = 35 := by omega
  by_cases hl : pa ≤ lP
  · refine ⟨_, P, R, lP, hl, K, f, a4, fun x hx => by omega, fun Q => ?_⟩
    have hle : (pa ≤ lP) = True := eq_true hl
    clear F S pp q cX K f a4
    unfold lfH
    simp (disch := omega) only [s_97_0, s_97_1, s_97_2, s_97_5, s_97_5n, s_97_8, s_97_9, s_97_10, s_97_13, s_97_14, s_97_15, s_97_18, s_97_19, s_97_20, s_97_23, s_97_24, s_97_25, s_97_28, s_97_29, s_97_30, s_97_30n, s_97_33, s_97_34, s_97_35, s_97_38, s_97_39, s_97_42, s_97_43, s_97_44, s_97_47, s_97_50, s_97_53, s_97_54, s_97_55, s_97_58, s_97_61, s_97_63, s_97_63n, s_97_66, s_97_67, s_97_68, s_97_71, s_97_74, s_97_76, s_97_76n, s_97_79, e_97, mv_i_1, mv_l_1, mv_a_1, mv_a_2, mv_a_3, mk2_n, mk2_i, mk2_l, mk2_a, mk2_u, mk2_x, mB_T, mB_F, mS_cons, mS_nil, mSB_T, mSB_F, mca_nil, mca_i, mca_l, mca_r, mca_u, mca_x, mcat_i, mcat_l, mcat_r, mcat_u, mcat_x, mK_some, mK_none, va_rf_s, va_rf_n, lgc_eq, lgc_lt, lgc_gt, lgc_ge, lgc_le, mrd_104, mrd_105, mrd_106, mrd_107, true_and, and_true, and_self, false_and, and_false, true_or, or_true, false_or, or_false, not_true_eq_false, not_false_eq_true, mgb, mga, mgr, mN, reduceCtorEq, ↓reduceIte, eq_self, ge_iff_le, gt_iff_lt, hk_si, hk_sj, hk_sr, hl_si, hl_sj, hl_sr, hn_si, hn_sj, hn_sr, hs_si, hs_sj, hs_sr, hi_sj, hi_sr, hj_si, hj_sr, hr_si, hr_sj, hi_si, hj_sj, hr_sr, mg_si, mg_sj, mg_sr, Nat.reduceAdd, Nat.reduceMul, Nat.reduceSub, Nat.reduceLT, Nat.reduceGT, Nat.reduceEqDiff, Nat.reduceLeDiff, Nat.left_eq_add, Nat.add_eq_left, Nat.reduceMod, Nat.reduceDiv, Nat.succ_ne_self, g35, g2, r24, r25, g21, g22, l21, l22, b1, b2, y, gX, gY, r9, g9, g9', l9, s5, Y35, nn_mxT, nn_clamp, nn_le, hle]
  · have s5' : mh_i (lfH h Y X nb na) Y 5 = Int32.ofNat pa := by rw [lf_i (by omega)]; exact s5
    obtain ⟨K', f'⟩ := lg_K K hN s5' (by omega) hb
    have hn' : mh_n (lfH h Y X nb na) = mh_n h := rfl
    refine ⟨_, _, _, pa, Nat.le_refl _, K', fD_t f f', ?_, fun x hx => by omega, fun Q => ?_⟩
    · have n35 : 35 < mh_n (lfH h Y X nb na) := g35.2
      rw [((lg_z (h := lfH h Y X nb na) (pa := pa)).2.2 35 4 n35 (by omega)).1]; exact a4
    · have hle : (pa ≤ lP) = False := eq_false hl
      have n0 : ¬ Y = mh_n h := by have := gY.2; omega
      have n1 : ∀ i, ¬ Y = mh_n h + i := fun i => by have := gY.2; omega
      have n5 : ¬ 35 = mh_n h := by omega
      have n51 : ∀ i, ¬ 35 = mh_n h + i := fun i => by omega
      have ge : (0 ≤ Int32.ofNat pa) = True := by
        have e0 : (0 : Int32) = Int32.ofNat 0 := rfl
        rw [e0, nn_le (by omega) (by omega)]; exact eq_true (by omega)
      have le7 : (pa ≤ 10000000) = True := eq_true (by omega)
      clear F S pp q cX K f a4 K' f' s5'
      unfold lgH lfH
      simp (disch := omega) only [s_97_0, s_97_1, s_97_2, s_97_5, s_97_5n, s_97_8, s_97_9, s_97_10, s_97_13, s_97_14, s_97_15, s_97_18, s_97_19, s_97_20, s_97_23, s_97_24, s_97_25, s_97_28, s_97_29, s_97_30, s_97_30n, s_97_33, s_97_34, s_97_35, s_97_38, s_97_39, s_97_42, s_97_43, s_97_44, s_97_47, s_97_50, s_97_53, s_97_54, s_97_55, s_97_58, s_97_61, s_97_63, s_97_63n, s_97_66, s_97_67, s_97_68, s_97_71, s_97_74, s_97_76, s_97_76n, s_97_79, e_97, mv_i_1, mv_l_1, mv_a_1, mv_a_2, mv_a_3, mk2_n, mk2_i, mk2_l, mk2_a, mk2_u, mk2_x, mB_T, mB_F, mS_cons, mS_nil, mSB_T, mSB_F, mca_nil, mca_i, mca_l, mca_r, mca_u, mca_x, mcat_i, mcat_l, mcat_r, mcat_u, mcat_x, mK_some, mK_none, va_rf_s, va_rf_n, lgc_eq, lgc_lt, lgc_gt, lgc_ge, lgc_le, mrd_104, mrd_105, mrd_106, mrd_107, true_and, and_true, and_self, false_and, and_false, true_or, or_true, false_or, or_false, not_true_eq_false, not_false_eq_true, mgb, mga, mgr, mN, reduceCtorEq, ↓reduceIte, eq_self, ge_iff_le, gt_iff_lt, hk_si, hk_sj, hk_sr, hl_si, hl_sj, hl_sr, hn_si, hn_sj, hn_sr, hs_si, hs_sj, hs_sr, hi_sj, hi_sr, hj_si, hj_sr, hr_si, hr_sj, hi_si, hj_sj, hr_sr, mg_si, mg_sj, mg_sr, Nat.reduceAdd, Nat.reduceMul, Nat.reduceSub, Nat.reduceLT, Nat.reduceGT, Nat.reduceEqDiff, Nat.reduceLeDiff, Nat.left_eq_add, Nat.add_eq_left, Nat.reduceMod, Nat.reduceDiv, Nat.succ_ne_self, g35, g2, r24, r25, g21, g22, l21, l22, b1, b2, y, gX, gY, r9, g9, g9', l9, s5, Y35, nn_mxT, nn_clamp, nn_le, hle, ge, hk_new, hn_new, hl_new, hi_new, hr_nw, mg_new, n0, n1, n5, n51, if_false, le7]
end LFs
