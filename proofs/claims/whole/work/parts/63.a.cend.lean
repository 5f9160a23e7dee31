set_option maxRecDepth 100000
/-! the class's end: what its first part leaves -/
/-- what end's own writes reach before the analysis -/
def eE (b j : Nat) : Prop := (b = 0 ∧ (j = 8 ∨ j = 9)) ∨ (b = 2 ∧ (j < 3 ∨ 16 ≤ j)) ∨ (20 ≤ b ∧ b ≤ 32)
section EEs
variable {h h1 h2 h5 : mh_H} {Y C E TT UU SC SP nC nE nS : Nat} {B n : Nat}
theorem CF_ee (f : fz eE h h1) (hn : 2644 ≤ mh_n h) (F : CF h) : CF h1 := by
  refine ⟨fun t ht => ⟨fz_mg f (F.k t ht).1, (fz_l f (F.k t ht).1).trans (F.k t ht).2⟩, fun t ht => ?_⟩
  have q : ∀ t ∈ cfR, t.1 < 81 ∧ ¬ ((t.1 = 0 ∧ (t.2.1 = 8 ∨ t.2.1 = 9)) ∨ (t.1 = 2 ∧ (t.2.1 < 3 ∨ 16 ≤ t.2.1)) ∨ (20 ≤ t.1 ∧ t.1 ≤ 32)) := by decide +kernel
  obtain ⟨q1, q2⟩ := q t ht
  rw [(f.2.2 t.1 t.2.1 (by omega) q2).2.2]
  exact F.r t ht
theorem pl_e (f : fz eE h h1) (hn : 2644 ≤ mh_n h) {b j : Nat} (q : isPl b j) : mh_r h1 b j = mh_r h b j := by
  obtain ⟨a1, a2, a3, a4, a5⟩ := pl_81 q
  refine (f.2.2 b j (by omega) ?_).2.2
  unfold isPl at q
  unfold eE
  omega
theorem st_e {o : Nat} (a : cAd o) : ∀ y, y ≤ 2 → ∀ j, ¬ eE (o + y) j := fun y hy j => by
  unfold cAd at a
  unfold eE
  omega
theorem CS_e (f : fz eE h h1) (hn : 2644 ≤ mh_n h) (S : CS h) : CS h1 := by
  refine ⟨fun b j o hb e => ?_, fun b j b' j' o hb hb' e e' => ?_⟩
  · rw [pl_e f hn hb] at e
    obtain ⟨s, a⟩ := S.o b j o hb e
    have w := st_e a
    exact ⟨so_fz f (w 0 (by omega) 3) (w 0 (by omega) 4) s, a⟩
  · rw [pl_e f hn hb] at e
    rw [pl_e f hn hb'] at e'
    exact S.i b j b' j' o hb hb' e e'
theorem cs_e (f : fz eE h h1) (hn : 2644 ≤ mh_n h) {o : Nat} : cs h1 o ↔ cs h o := by
  constructor
  · rintro ⟨b, j, hb, e⟩
    rw [pl_e f hn hb] at e
    exact ⟨b, j, hb, e⟩
  · rintro ⟨b, j, hb, e⟩
    exact ⟨b, j, hb, (pl_e f hn hb).trans e⟩
theorem pv_e (f : fz eE h h1) (hn : 2644 ≤ mh_n h) (S : CS h) {b j : Nat} {v : Option ab} (hb : isPl b j) (w : pv h b j v) : pv h1 b j v := by
  obtain ⟨o, e, r⟩ := w
  obtain ⟨s, a⟩ := S.o b j o hb e
  exact ⟨o, (pl_e f hn hb).trans e, RS_fz f (st_e a) r⟩
theorem CP_e (f : fz eE h h1) (hn : 2644 ≤ mh_n h) {P R lP : Nat} (w : CP h P R lP) : CP h1 P R lP := by
  have r35 : ∀ j, mh_r h1 35 j = mh_r h 35 j := fun j => (f.2.2 35 j (by omega) (by unfold eE; omega)).2.2
  exact ⟨(r35 9).trans w.r9, (r35 10).trans w.r10, fz_mg f w.g9, fz_mg f w.g10, (fz_l f w.g9).trans w.l9, (fz_l f w.g10).trans w.l10, w.d, w.n, fun o ho => w.s o ((cs_e f hn).mp ho), w.b⟩
theorem nul_e (f : fz eE h h1) (hn : 2644 ≤ mh_n h) (w : nul h) : nul h1 := fun i hi => by
  rw [pl_e f hn (b := 62) (j := i) (by unfold isPl; omega), pl_e f hn (b := 63) (j := i) (by unfold isPl; omega), pl_e f hn (b := 64) (j := i) (by unfold isPl; omega)]
  exact w i hi
theorem no_e (f : fz eE h h1) (hn : 2644 ≤ mh_n h) (S : CS h) {b i : Nat} (hb : isPl b i) (w : mh_r h b i = none ∨ ∃ v, pv h b i v) : mh_r h1 b i = none ∨ ∃ v, pv h1 b i v := by
  rcases w with w | ⟨v, w⟩
  · exact Or.inl ((pl_e f hn hb).trans w)
  · exact Or.inr ⟨v, pv_e f hn S hb w⟩
/-- all but the source -/
theorem BS_e (f : fz eE h h1) (b : BS h Y C E TT UU SC SP nC nE nS) {Y' C' E' TT' UU' SC' SP' nC' nE' nS' : Nat} (y : mh_r h1 2 1 = some Y') (q : SQ h1 Y' C' E' TT' UU' SC' SP' nC' nE' nS') : BS h1 Y' C' E' TT' UU' SC' SP' nC' nE' nS' := by
  have hn := b.N
  obtain ⟨P, R, lP, cp⟩ := b.p
  obtain ⟨Ho, Fa, Be, o1, o2, o3⟩ := b.o
  exact ⟨CF_ee f hn b.F, CS_e f hn b.S, ⟨P, R, lP, CP_e f hn cp⟩, q, y, Nat.le_trans hn f.1, ⟨Ho, Fa, Be, (pl_e f hn (by unfold isPl; omega)).trans o1, (pl_e f hn (by unfold isPl; omega)).trans o2, (pl_e f hn (by unfold isPl; omega)).trans o3⟩⟩
/-- the source that was there -/
theorem SQ_e (f : fz eE h h1) (q : SQ h Y C E TT UU SC SP nC nE nS) : SQ h1 Y C E TT UU SC SP nC nE nS := by
  have nY := q.n Y (by simp)
  have r : ∀ j, mh_r h1 Y j = mh_r h Y j := fun j => fz_r f q.gY (by unfold eE; omega)
  exact ⟨fz_mg f q.gY, (r 0).trans q.r0, (r 2).trans q.r2, (r 3).trans q.r3, (r 4).trans q.r4, (r 6).trans q.r6, (r 7).trans q.r7, fz_mg f q.gC, fz_mg f q.gE, fz_mg f q.gT, fz_mg f q.gU, fz_mg f q.g6, fz_mg f q.g7, (fz_l f q.gC).trans q.lC, (fz_l f q.gE).trans q.lE, (fz_l f q.gT).trans q.lT, (fz_l f q.gU).trans q.lU, (fz_l f q.g6).trans q.l6, (fz_l f q.g7).trans q.l7, q.n, q.bC, q.bE, q.bS⟩
/-- the room: numbers of States stay; the source may want longer rows -/
theorem cN_e (f : fz eE h h1) (hn : 2644 ≤ mh_n h) {m : Nat} (ey : cY h1 ≤ m) : cN h1 ≤ cN h + ((mh_n h1 : Int) - (mh_n h : Int)) + 2 ∧ cS h1 ≤ cS h + ((mh_s h1 : Int) - (mh_s h : Int)) + 2 * (m : Int) := by
  have ec : ∀ b n, (∀ j, isPl b j) → cnS h1 b n = cnS h b n := fun b n q => cnS_c (fun i => pl_e f hn (q i))
  have eT : cT h1 = cT h := by
    unfold cT
    rw [ec 51 122 (fun j => by unfold isPl; omega), ec 61 250 (fun j => by unfold isPl; omega), ec 62 250 (fun j => by unfold isPl; omega), ec 63 250 (fun j => by unfold isPl; omega), ec 64 250 (fun j => by unfold isPl; omega), ec 54 250 (fun j => by unfold isPl; omega), ec 73 250 (fun j => by unfold isPl; omega)]
  have g1 : cG h1 ≤ 1 := by unfold cG; split <;> omega
  have g2 : cG h1 * cY h1 ≤ m := by
    have := Nat.mul_le_mul g1 ey
    omega
  unfold cN cS
  rw [eT]
  constructor <;> omega
/-- the constructors and the parser touch no older cell -/
theorem fz_cH (hB : mh_n h = B) (ad : ADD (cpW B) h h5 B (cpL n)) (r5 : ∀ b j, b < B → mh_r h5 b j = mh_r h b j) (s : cps) : fz (fun _ _ => False) h (cH h5 B s) := by
  refine ⟨by rw [cH_n]; omega, fun b hb => ?_, fun b j hb _ => ?_⟩
  · obtain ⟨a1, a2, -⟩ := ad.2.1 b (by omega)
    exact ⟨(cH_k (by omega)).trans a1, (cH_l (by omega)).trans a2⟩
  · obtain ⟨-, -, a3⟩ := ad.2.1 b (by omega)
    refine ⟨(cH_i4 (by omega)).trans (a3 j).1, ?_, (cH_r (by omega) (by omega) (by omega)).trans (r5 b j (by omega))⟩
    show (if B + 24 ≤ b ∧ b < B + (24 + s.1 8) then 0 else mh_j h5 b j) = mh_j h b j
    rw [if_neg (by omega)]
    exact (a3 j).2
theorem fz_ns : fz (fun b _ => mh_n h ≤ b) h (nsH h) := by
  unfold nsH
  exact fz_t (fz_t (fz_t (fz_t (fz_t (fz_t fz_new (fz_si (Nat.le_refl _))) (fz_si (Nat.le_refl _))) (fz_si (Nat.le_refl _))) (fz_si (Nat.le_refl _))) (fz_si (Nat.le_refl _))) (fz_si (Nat.le_refl _))
theorem fz_le {e : Nat} : fz eE h (leH h e) := by
  have w : fz (fun b j => eE b j ∨ mh_n h ≤ b) h (leH h e) := by
    unfold leH
    exact fz_t (fz_t (fz_t (fz_t (fz_w fz_ns (fun b j _ z => Or.inr z)) (fz_sr (Or.inl (by unfold eE; omega)))) (fz_si (Or.inl (by unfold eE; omega)))) (fz_si (Or.inl (by unfold eE; omega)))) (fz_si (Or.inl (by unfold eE; omega)))
  exact fz_w w (fun b j hb z => z.elim id (fun q => absurd q (by omega)))
theorem leH_n {e : Nat} : mh_n (leH h e) = mh_n h + 1 ∧ mh_s (leH h e) = mh_s h + 17 := by
  unfold leH nsH
  simp only [hn_si, hn_sr, hs_si, hs_sr, hn_new, hs_new, and_self]
theorem fz_z8 : fz eE h (z8H h) := by
  unfold z8H
  exact fz_t (fz_si (by unfold eE; omega)) (fz_si (by unfold eE; omega))
theorem fz_en {e : Nat} : fz eE h (enL h e) := by
  unfold enL
  exact fz_t (fz_t (fz_t (fz_t (fz_t (fz_sr (by unfold eE; omega)) (fz_sr (by unfold eE; omega))) (fz_si (by unfold eE; omega))) (fz_si (by unfold eE; omega))) (fz_si (by unfold eE; omega))) (fz_si (by unfold eE; omega))
theorem fz_lx {k : Nat} (x : fLx k h h1) : fz eE h h1 := by
  obtain ⟨x1, x2, x3, x4, x5⟩ := x
  refine ⟨by omega, x3, fun b j hb w => ?_⟩
  unfold eE at w
  obtain ⟨a1, a2⟩ := x4 b j hb (by unfold cyW; omega)
  exact ⟨a1, a2, x5 b j hb (by omega) (by omega)⟩
/-- the END that stands alone -/
theorem le_0 (hn : 2644 ≤ mh_n h) : mh_r (leH h 0) 20 0 = some (mh_n h) ∧ mg (leH h 0) (mh_n h) 9 ∧ (∀ j, mh_i (leH h 0) (mh_n h) j = if j = 8 then -1 else 0) ∧ mh_i (leH h 0) 21 0 = 0 ∧ mh_i (leH h 0) 22 0 = 0 ∧ mh_i (leH h 0) 2 2 = 1 := by
  refine ⟨?_, ⟨?_, by rw [leH_n.1]; omega⟩, fun j => ?_, ?_, ?_, ?_⟩
  · unfold leH
    rw [hr_si, hr_si, hr_si, hr_sr, if_pos ⟨rfl, rfl⟩]
  · unfold leH nsH
    simp only [hk_si, hk_sr, hk_new, if_pos]
  · unfold leH nsH
    rw [hi_si, if_neg (by omega), hi_si, if_neg (by omega), hi_si, if_neg (by omega), hi_sr]
    simp only [hi_si, hi_new, true_and]
    by_cases c4 : j = 4
    · rw [if_pos c4, if_neg (by omega)]
    rw [if_neg c4]
    by_cases c3 : j = 3
    · rw [if_pos c3, if_neg (by omega)]
    rw [if_neg c3]
    by_cases c2 : j = 2
    · rw [if_pos c2, if_neg (by omega)]
    rw [if_neg c2]
    by_cases c1 : j = 1
    · rw [if_pos c1, if_neg (by omega)]
    rw [if_neg c1]
    by_cases c0 : j = 0
    · rw [if_pos c0, if_neg (by omega)]
    rw [if_neg c0]
    by_cases c8 : j = 8
    · rw [if_pos c8, if_pos c8]
    · rw [if_neg c8, if_neg c8, if_pos trivial]
  · unfold leH
    rw [hi_si, if_neg (by omega), hi_si, if_neg (by omega), hi_si, if_pos ⟨rfl, rfl⟩]
  · unfold leH
    rw [hi_si, if_neg (by omega), hi_si, if_pos ⟨rfl, rfl⟩]
  · unfold leH
    rw [hi_si, if_pos ⟨rfl, rfl⟩]
    rfl
end EEs
/-! the class with a program -/
def CPg (h : mh_H) (Y C E TT UU SC SP nC nE nS pa : Nat) (G : pgm) (J J2 : pin) (cnt : Nat) (fst oth : Nat → Nat) (pl : Nat → Int32) : Prop := (BS h Y C E TT UU SC SP nC nE nS) ∧ (PH h G cnt) ∧ (IC Y C E TT UU SC SP nC nE nS pa G J cnt h) ∧ (ICm Y C E TT UU SC SP nC nE nS pa G J2 cnt h) ∧ (∀ p, p + 1 < cnt → mh_i h 27 p = Int32.ofNat (fst p) ∧ fst p < cnt) ∧ (∀ p, p + 1 < cnt → G.kd p = 5 ∨ G.kd p = 6 ∨ G.kd p = 7 → mh_i h 28 p = Int32.ofNat (oth p) ∧ oth p < cnt) ∧ (nul h) ∧ (mh_r h 53 6 ≠ none) ∧ (∀ q, q < 250 → mh_r h 54 q = none ∨ ∃ v, pv h 54 q v) ∧ (∀ q, q < 250 → mh_r h 73 q = none ∨ ∃ v, pv h 73 q v) ∧ (∀ q, q < cnt → ∀ St, mh_r h 20 q = some St → mh_i h St 2 = pl q)
theorem CPg.of {h : mh_H} {Y C E TT UU SC SP nC nE nS pa : Nat} {G : pgm} {J J2 : pin} {cnt : Nat} {fst oth : Nat → Nat} {pl : Nat → Int32} (q : (BS h Y C E TT UU SC SP nC nE nS) ∧ (PH h G cnt) ∧ (IC Y C E TT UU SC SP nC nE nS pa G J cnt h) ∧ (ICm Y C E TT UU SC SP nC nE nS pa G J2 cnt h) ∧ (∀ p, p + 1 < cnt → mh_i h 27 p = Int32.ofNat (fst p) ∧ fst p < cnt) ∧ (∀ p, p + 1 < cnt → G.kd p = 5 ∨ G.kd p = 6 ∨ G.kd p = 7 → mh_i h 28 p = Int32.ofNat (oth p) ∧ oth p < cnt) ∧ (nul h) ∧ (mh_r h 53 6 ≠ none) ∧ (∀ q, q < 250 → mh_r h 54 q = none ∨ ∃ v, pv h 54 q v) ∧ (∀ q, q < 250 → mh_r h 73 q = none ∨ ∃ v, pv h 73 q v) ∧ (∀ q, q < cnt → ∀ St, mh_r h 20 q = some St → mh_i h St 2 = pl q)) : CPg h Y C E TT UU SC SP nC nE nS pa G J J2 cnt fst oth pl := q
theorem CPg.B {h : mh_H} {Y C E TT UU SC SP nC nE nS pa : Nat} {G : pgm} {J J2 : pin} {cnt : Nat} {fst oth : Nat → Nat} {pl : Nat → Int32} (q : CPg h Y C E TT UU SC SP nC nE nS pa G J J2 cnt fst oth pl) : BS h Y C E TT UU SC SP nC nE nS := q.1
theorem CPg.H {h : mh_H} {Y C E TT UU SC SP nC nE nS pa : Nat} {G : pgm} {J J2 : pin} {cnt : Nat} {fst oth : Nat → Nat} {pl : Nat → Int32} (q : CPg h Y C E TT UU SC SP nC nE nS pa G J J2 cnt fst oth pl) : PH h G cnt := q.2.1
theorem CPg.i {h : mh_H} {Y C E TT UU SC SP nC nE nS pa : Nat} {G : pgm} {J J2 : pin} {cnt : Nat} {fst oth : Nat → Nat} {pl : Nat → Int32} (q : CPg h Y C E TT UU SC SP nC nE nS pa G J J2 cnt fst oth pl) : IC Y C E TT UU SC SP nC nE nS pa G J cnt h := q.2.2.1
theorem CPg.I {h : mh_H} {Y C E TT UU SC SP nC nE nS pa : Nat} {G : pgm} {J J2 : pin} {cnt : Nat} {fst oth : Nat → Nat} {pl : Nat → Int32} (q : CPg h Y C E TT UU SC SP nC nE nS pa G J J2 cnt fst oth pl) : ICm Y C E TT UU SC SP nC nE nS pa G J2 cnt h := q.2.2.2.1
theorem CPg.F {h : mh_H} {Y C E TT UU SC SP nC nE nS pa : Nat} {G : pgm} {J J2 : pin} {cnt : Nat} {fst oth : Nat → Nat} {pl : Nat → Int32} (q : CPg h Y C E TT UU SC SP nC nE nS pa G J J2 cnt fst oth pl) : ∀ p, p + 1 < cnt → mh_i h 27 p = Int32.ofNat (fst p) ∧ fst p < cnt := q.2.2.2.2.1
theorem CPg.O {h : mh_H} {Y C E TT UU SC SP nC nE nS pa : Nat} {G : pgm} {J J2 : pin} {cnt : Nat} {fst oth : Nat → Nat} {pl : Nat → Int32} (q : CPg h Y C E TT UU SC SP nC nE nS pa G J J2 cnt fst oth pl) : ∀ p, p + 1 < cnt → G.kd p = 5 ∨ G.kd p = 6 ∨ G.kd p = 7 → mh_i h 28 p = Int32.ofNat (oth p) ∧ oth p < cnt := q.2.2.2.2.2.1
theorem CPg.u {h : mh_H} {Y C E TT UU SC SP nC nE nS pa : Nat} {G : pgm} {J J2 : pin} {cnt : Nat} {fst oth : Nat → Nat} {pl : Nat → Int32} (q : CPg h Y C E TT UU SC SP nC nE nS pa G J J2 cnt fst oth pl) : nul h := q.2.2.2.2.2.2.1
theorem CPg.n {h : mh_H} {Y C E TT UU SC SP nC nE nS pa : Nat} {G : pgm} {J J2 : pin} {cnt : Nat} {fst oth : Nat → Nat} {pl : Nat → Int32} (q : CPg h Y C E TT UU SC SP nC nE nS pa G J J2 cnt fst oth pl) : mh_r h 53 6 ≠ none := q.2.2.2.2.2.2.2.1
theorem CPg.k {h : mh_H} {Y C E TT UU SC SP nC nE nS pa : Nat} {G : pgm} {J J2 : pin} {cnt : Nat} {fst oth : Nat → Nat} {pl : Nat → Int32} (q : CPg h Y C E TT UU SC SP nC nE nS pa G J J2 cnt fst oth pl) : ∀ q, q < 250 → mh_r h 54 q = none ∨ ∃ v, pv h 54 q v := q.2.2.2.2.2.2.2.2.1
theorem CPg.c {h : mh_H} {Y C E TT UU SC SP nC nE nS pa : Nat} {G : pgm} {J J2 : pin} {cnt : Nat} {fst oth : Nat → Nat} {pl : Nat → Int32} (q : CPg h Y C E TT UU SC SP nC nE nS pa G J J2 cnt fst oth pl) : ∀ q, q < 250 → mh_r h 73 q = none ∨ ∃ v, pv h 73 q v := q.2.2.2.2.2.2.2.2.2.1
theorem CPg.p {h : mh_H} {Y C E TT UU SC SP nC nE nS pa : Nat} {G : pgm} {J J2 : pin} {cnt : Nat} {fst oth : Nat → Nat} {pl : Nat → Int32} (q : CPg h Y C E TT UU SC SP nC nE nS pa G J J2 cnt fst oth pl) : ∀ q, q < cnt → ∀ St, mh_r h 20 q = some St → mh_i h St 2 = pl q := q.2.2.2.2.2.2.2.2.2.2
section CGs
variable {W V U : Nat → Nat → Prop} {KC : Nat → Prop} {h h1 : mh_H} {Y C E TT UU SC SP nC nE nS pa cnt : Nat} {G : pgm} {J J2 : pin} {fst oth : Nat → Nat} {pl : Nat → Int32}
theorem CPg_f (f : fz W h h1) (k : WC W KC h) (P : CPg h Y C E TT UU SC SP nC nE nS pa G J J2 cnt fst oth pl) : CPg h1 Y C E TT UU SC SP nC nE nS pa G J J2 cnt fst oth pl := by
  have B := P.B
  have i27 := wc_lo f k B.F 27 100 250 (by decide +kernel) (by omega)
  have i28 := wc_lo f k B.F 28 100 250 (by decide +kernel) (by omega)
  have r20 := wc_r f k B.F 20 105 250 (by decide +kernel) (by omega)
  exact CPg.of ⟨BS_f f k B, PH_f f k B P.H, IC_f f k B P.i, ICm_f f k B P.I, fun p hp => by rw [i27]; exact P.F p hp, fun p hp kd => by rw [i28]; exact P.O p hp kd, nul_f f k B.N P.u, by rw [pl_r f k B.N (by unfold isPl; omega)]; exact P.n, fun q hq => no_f f k B (by unfold isPl; omega) (P.k q hq), fun q hq => no_f f k B (by unfold isPl; omega) (P.c q hq), fun q hq St e => by
    rw [r20] at e
    obtain ⟨St', nb, nm, na, nx, q1, q2, -⟩ := P.H.s q hq
    have es : St' = St := by rw [e] at q1; cases q1; rfl
    subst es
    rw [St_f f k B e q2]
    exact P.p q hq St' e⟩
/-- steps of the class itself; the claims that may change are given -/
theorem CPg_z (z : zS V U h h1) (hU : ∀ b j, U b j → aX h b) (hV : ∀ b j, V b j → b ≠ 53 ∧ b ≠ 54 ∧ b ≠ 62 ∧ b ≠ 63 ∧ b ≠ 64) (B1 : BS h1 Y C E TT UU SC SP nC nE nS) (cc : ∀ q, q < 250 → V 73 q → mh_r h1 73 q = none ∨ ∃ v, pv h1 73 q v) (P : CPg h Y C E TT UU SC SP nC nE nS pa G J J2 cnt fst oth pl) : CPg h1 Y C E TT UU SC SP nC nE nS pa G J J2 cnt fst oth pl := by
  have B := P.B
  have F := B.F
  have row : ∀ b, b = 27 ∨ b = 28 → ∀ j, mh_i h1 b j = mh_i h b j := fun b hb j => by
    have g : mg h b 100 := by
      rcases hb with e | e <;> subst e
      · exact F.g 27 100 250 (by decide +kernel)
      · exact F.g 28 100 250 (by decide +kernel)
    exact z.ii b 100 j g (by decide) (by decide) (by unfold eff; omega) (fun u => by have := hU b j u; have := g.1; unfold aX aI at *; omega)
  have no : ∀ b j, isPl b j → b ≠ 51 → ¬ V b j → ((mh_r h1 b j = none) ↔ mh_r h b j = none) := fun b j pl n51 nv => ⟨fun e => by
    by_cases c : mh_r h b j = none
    · exact c
    · exact absurd e (z.pn b j pl n51 c), fun e => z.pz b j pl nv e⟩
  have np : ∀ b j, isPl b j → b ≠ 51 → ¬ V b j → (mh_r h b j = none ∨ ∃ v, pv h b j v) → (mh_r h1 b j = none ∨ ∃ v, pv h1 b j v) := fun b j pl n51 nv w => by
    rcases w with w | ⟨v, w⟩
    · exact Or.inl ((no b j pl n51 nv).mpr w)
    · exact Or.inr ⟨v, z.pp b j v pl nv w⟩
  have nv : ∀ b j, b = 53 ∨ b = 54 ∨ b = 62 ∨ b = 63 ∨ b = 64 → ¬ V b j := fun b j hb q => by
    have := hV b j q
    omega
  refine CPg.of ⟨B1, PH_sX B z hU P.H, IC_pX B z hU P.i, ICm_pX B z hU P.I, fun p hp => by rw [row 27 (by omega)]; exact P.F p hp, fun p hp kd => by rw [row 28 (by omega)]; exact P.O p hp kd, fun i hi => ?_, fun e => P.n ((no 53 6 (by unfold isPl; omega) (by omega) (nv 53 6 (by omega))).mp e), fun q hq => np 54 q (by unfold isPl; omega) (by omega) (nv 54 q (by omega)) (P.k q hq), fun q hq => ?_, fun q hq St e => ?_⟩
  · have a1 := no 62 i (by unfold isPl; omega) (by omega) (nv 62 i (by omega))
    have a2 := no 63 i (by unfold isPl; omega) (by omega) (nv 63 i (by omega))
    have a3 := no 64 i (by unfold isPl; omega) (by omega) (nv 64 i (by omega))
    rcases P.u i hi with ⟨u1, u2, u3⟩ | ⟨u1, u2, u3⟩
    · exact Or.inl ⟨a1.mpr u1, a2.mpr u2, a3.mpr u3⟩
    · exact Or.inr ⟨fun e => u1 (a1.mp e), fun e => u2 (a2.mp e), fun e => u3 (a3.mp e)⟩
  · by_cases c : V 73 q
    · exact cc q hq c
    · exact np 73 q (by unfold isPl; omega) (by omega) c (P.c q hq)
  · rw [z.rr 20 105 q (F.g 20 105 250 (by decide +kernel)) (by decide) (by decide) (by unfold eff; omega) (by unfold isPl; omega)] at e
    obtain ⟨St', nb, nm, na, nx, q1, q2, -⟩ := P.H.s q hq
    have es : St' = St := by rw [e] at q1; cases q1; rfl
    subst es
    obtain ⟨n1, n2⟩ := st_neX B q2
    rw [z.ii St' 9 2 q2 (by decide) (by decide) n1 (fun u => n2 (hU _ _ u))]
    exact P.p q hq St' e
end CGs
