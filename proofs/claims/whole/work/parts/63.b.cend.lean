set_option maxRecDepth 100000
/-! the class's end, whole: no text, no program, a program -/
def CEd (h h' : mh_H) (n : Nat) : Prop := (∀ b j, (68 ≤ b ∧ b ≤ 72) ∨ (b = 67 ∧ (j = 2 ∨ j = 9 ∨ j = 10)) ∨ (b = 0 ∧ 13 ≤ j) → mh_i h' b j = mh_i h b j) ∧ (∀ b j, mg h b 102 → mh_i h' b j = mh_i h b j) ∧ (mh_r h' 0 13 = mh_r h 0 13) ∧ (mh_n h ≤ mh_n h' ∧ ∀ b, b < mh_n h → mh_k h' b = mh_k h b ∧ mh_l h' b = mh_l h b) ∧ (mh_i h' 0 1 = 0 ∧ mh_i h' 0 7 = 1 ∧ mh_i h' 0 10 = 0 ∧ mh_i h' 0 11 = 0 ∧ mh_i h' 67 3 = 0 ∧ mh_i h' 67 4 = 0 ∧ mh_i h' 67 5 = 0) ∧ (cN h' ≤ cN h + ((n / 3 + 40 : Nat) : Int)) ∧ (cS h' ≤ cS h + ((25 * n + 1300 : Nat) : Int))
theorem CEd.of {h h' : mh_H} {n : Nat} (q : (∀ b j, (68 ≤ b ∧ b ≤ 72) ∨ (b = 67 ∧ (j = 2 ∨ j = 9 ∨ j = 10)) ∨ (b = 0 ∧ 13 ≤ j) → mh_i h' b j = mh_i h b j) ∧ (∀ b j, mg h b 102 → mh_i h' b j = mh_i h b j) ∧ (mh_r h' 0 13 = mh_r h 0 13) ∧ (mh_n h ≤ mh_n h' ∧ ∀ b, b < mh_n h → mh_k h' b = mh_k h b ∧ mh_l h' b = mh_l h b) ∧ (mh_i h' 0 1 = 0 ∧ mh_i h' 0 7 = 1 ∧ mh_i h' 0 10 = 0 ∧ mh_i h' 0 11 = 0 ∧ mh_i h' 67 3 = 0 ∧ mh_i h' 67 4 = 0 ∧ mh_i h' 67 5 = 0) ∧ (cN h' ≤ cN h + ((n / 3 + 40 : Nat) : Int)) ∧ (cS h' ≤ cS h + ((25 * n + 1300 : Nat) : Int))) : CEd h h' n := q
theorem CEd.i {h h' : mh_H} {n : Nat} (q : CEd h h' n) : ∀ b j, (68 ≤ b ∧ b ≤ 72) ∨ (b = 67 ∧ (j = 2 ∨ j = 9 ∨ j = 10)) ∨ (b = 0 ∧ 13 ≤ j) → mh_i h' b j = mh_i h b j := q.1
theorem CEd.l {h h' : mh_H} {n : Nat} (q : CEd h h' n) : ∀ b j, mg h b 102 → mh_i h' b j = mh_i h b j := q.2.1
theorem CEd.r {h h' : mh_H} {n : Nat} (q : CEd h h' n) : mh_r h' 0 13 = mh_r h 0 13 := q.2.2.1
theorem CEd.k {h h' : mh_H} {n : Nat} (q : CEd h h' n) : mh_n h ≤ mh_n h' ∧ ∀ b, b < mh_n h → mh_k h' b = mh_k h b ∧ mh_l h' b = mh_l h b := q.2.2.2.1
theorem CEd.z {h h' : mh_H} {n : Nat} (q : CEd h h' n) : mh_i h' 0 1 = 0 ∧ mh_i h' 0 7 = 1 ∧ mh_i h' 0 10 = 0 ∧ mh_i h' 0 11 = 0 ∧ mh_i h' 67 3 = 0 ∧ mh_i h' 67 4 = 0 ∧ mh_i h' 67 5 = 0 := q.2.2.2.2.1
theorem CEd.N {h h' : mh_H} {n : Nat} (q : CEd h h' n) : cN h' ≤ cN h + ((n / 3 + 40 : Nat) : Int) := q.2.2.2.2.2.1
theorem CEd.S {h h' : mh_H} {n : Nat} (q : CEd h h' n) : cS h' ≤ cS h + ((25 * n + 1300 : Nat) : Int) := q.2.2.2.2.2.2
section CEs
variable {d : Nat} {h hT h5 : mh_H} {Y C E TT UU SC SP nC nE nS pa cnt : Nat} {G : pgm} {J J2 : pin} {fst oth : Nat → Nat} {pl : Nat → Int32} {B n : Nat} {Bt : Nat → Int32}
theorem e_fin (P : CPg h Y C E TT UU SC SP nC nE nS pa G J J2 cnt fst oth pl) (f : fz eE h hT) {Y' C' E' TT' UU' SC' SP' nC' nE' nS' pa' e : Nat} {G' : pgm} {J' J2' : pin} {fst' oth' : Nat → Nat} (B' : BS hT Y' C' E' TT' UU' SC' SP' nC' nE' nS') (H' : PH hT G' (e + 1)) (i' : IC Y' C' E' TT' UU' SC' SP' nC' nE' nS' pa' G' J' (e + 1) hT) (I' : ICm Y' C' E' TT' UU' SC' SP' nC' nE' nS' pa' G' J2' (e + 1) hT) (F' : ∀ p, p + 1 < e + 1 → mh_i hT 27 p = Int32.ofNat (fst' p) ∧ fst' p < e + 1) (O' : ∀ p, p + 1 < e + 1 → G'.kd p = 5 ∨ G'.kd p = 6 ∨ G'.kd p = 7 → mh_i hT 28 p = Int32.ofNat (oth' p) ∧ oth' p < e + 1) {pl' : Nat → Int32} (p' : ∀ q, q < e + 1 → ∀ St, mh_r hT 20 q = some St → mh_i hT St 2 = pl' q) (hG : G'.fx = fxJ J') {fu : Nat} {r : Nat → Nat} (wb : WB G' fu 0 e 0 0 r) (rN : cN hT ≤ cN h + ((n / 3 + 40 : Nat) : Int)) (rS : cS hT ≤ cS h + ((25 * n + 1300 : Nat) : Int)) {x1 x2 x3 x4 x5 : Option Value} {v6 : Int32} : ∃ h' w0, wW w0 = 0 ∧ CPg h' Y' C' E' TT' UU' SC' SP' nC' nE' nS' pa' G' J' J2' (e + 1) fst' oth' pl' ∧ CAZ h' G' fu (e + 1) w0 ∧ CEd h h' n ∧ zS t8V t8U hT h' ∧ (mh_i h' 0 8 = mh_i hT 0 8 ∧ mh_i h' 0 9 = mh_i hT 0 9) ∧ ∀ Q, mw (d + 8) 186 Q 140 [some (.ref 0), x1, x2, x3, x4, x5, some (.int v6)] [] hT = Q (some (.int (if 4000 < wW (DB G' fu 0 e (some A00) w0).2.1 then 3 else v6))) h' := by
  have b := P.B
  have hn := b.N
  have hnT : 2644 ≤ mh_n hT := Nat.le_trans hn f.1
  have nu := nul_e f hn P.u
  have n6 : mh_r hT 53 6 ≠ none := by rw [pl_e f hn (by unfold isPl; omega)]; exact P.n
  have kn : ∀ q, q < 250 → mh_r hT 54 q = none ∨ ∃ v, pv hT 54 q v := fun q hq => no_e f hn b.S (by unfold isPl; omega) (P.k q hq)
  have cn : ∀ q, q < 250 → mh_r hT 73 q = none ∨ ∃ v, pv hT 73 q v := fun q hq => no_e f hn b.S (by unfold isPl; omega) (P.c q hq)
  obtain ⟨h', w0, a0, z, a2, a3, a4, a5, a6, a7, a8, ⟨c1, c2, c3, c4, c5, c6, c7⟩, a10⟩ := z_186 (d := d) (I := IC Y' C' E' TT' UU' SC' SP' nC' nE' nS' pa' G' J' (e + 1)) (IC_e hG) IC_p B' H' i' nu n6 kn cn (f := fu) (r := r) wb (x1 := x1) (x2 := x2) (x3 := x3) (x4 := x4) (x5 := x5) (v6 := v6)
  have FT := B'.F
  have g0 := FT.g 0 11 15 (by decide +kernel)
  have i1 : ∀ b c j, mg hT b c → c ≠ 8 → c ≠ 101 → ¬ eff b → ¬ t8U b j → mh_i h' b j = mh_i hT b j := fun b c j g c8 c1 e u => z.ii b c j g c8 c1 e u
  have hU : ∀ b j, t8U b j → aX hT b := fun b j u => by
    unfold t8U at u
    unfold aX aI
    omega
  have row : ∀ b, b = 27 ∨ b = 28 → ∀ j, mh_i h' b j = mh_i hT b j := fun b hb j => by
    have g : mg hT b 100 := by
      rcases hb with e | e <;> subst e
      · exact FT.g 27 100 250 (by decide +kernel)
      · exact FT.g 28 100 250 (by decide +kernel)
    exact i1 b 100 j g (by decide) (by decide) (by unfold eff; omega) (by unfold t8U; omega)
  refine ⟨h', w0, a0, CPg.of ⟨a2, a3, IC_pX B' z hU i', ICm_pX B' z hU I', fun p hp => by rw [row 27 (by omega)]; exact F' p hp, fun p hp kd => by rw [row 28 (by omega)]; exact O' p hp kd, a4, a5, a6, a7, fun q hq St e => ?_⟩, a8, CEd.of ⟨fun b j hb => ?_, fun b j g => ?_, ?_, ⟨Nat.le_trans f.1 z.nn, fun b hb => ?_⟩, ⟨c6, c7, c1, c2, c3, c4, c5⟩, Int.le_trans z.rN rN, Int.le_trans z.rS rS⟩, z, ⟨i1 0 11 8 g0 (by decide) (by decide) (by unfold eff; omega) (by unfold t8U; omega), i1 0 11 9 g0 (by decide) (by decide) (by unfold eff; omega) (by unfold t8U; omega)⟩, a10⟩
  · rw [z.rr 20 105 q (FT.g 20 105 250 (by decide +kernel)) (by decide) (by decide) (by unfold eff; omega) (by unfold isPl; omega)] at e
    obtain ⟨St', nb, nm, na, nx, q1, q2, -⟩ := H'.s q hq
    have es : St' = St := by rw [e] at q1; cases q1; rfl
    subst es
    obtain ⟨n1, n2⟩ := st_neX B' q2
    rw [z.ii St' 9 2 q2 (by decide) (by decide) n1 (fun u => n2 (hU _ _ u))]
    exact p' q hq St' e
  · have g : ∃ c, mg hT b c ∧ c ≠ 8 ∧ c ≠ 101 := by
      have e' : b = 0 ∨ b = 67 ∨ b = 68 ∨ b = 69 ∨ b = 70 ∨ b = 71 ∨ b = 72 := by omega
      rcases e' with e | e | e | e | e | e | e <;> subst e
      · exact ⟨11, g0, by decide, by decide⟩
      · exact ⟨2, FT.g 67 2 13 (by decide +kernel), by decide, by decide⟩
      · exact ⟨100, FT.g 68 100 1000 (by decide +kernel), by decide, by decide⟩
      · exact ⟨100, FT.g 69 100 12 (by decide +kernel), by decide, by decide⟩
      · exact ⟨100, FT.g 70 100 384 (by decide +kernel), by decide, by decide⟩
      · exact ⟨100, FT.g 71 100 6 (by decide +kernel), by decide, by decide⟩
      · exact ⟨100, FT.g 72 100 124 (by decide +kernel), by decide, by decide⟩
    obtain ⟨c, g, g8, g1⟩ := g
    rw [i1 b c j g g8 g1 (by unfold eff; omega) (by unfold t8U; omega)]
    exact (f.2.2 b j (by omega) (by unfold eE; omega)).1
  · have gk := g.1
    have F := P.B.F
    have k0 := (F.g 0 11 15 (by decide +kernel)).1
    have kb' : b ≠ 0 ∧ b ≠ 2 ∧ b ≠ 34 ∧ b ≠ 35 ∧ b ≠ 38 ∧ b ≠ 41 ∧ b ≠ 51 ∧ b ≠ 53 ∧ b ≠ 55 ∧ b ≠ 59 ∧ b ≠ 60 ∧ b ≠ 65 ∧ b ≠ 66 ∧ b ≠ 67 ∧ ¬ (20 ≤ b ∧ b ≤ 32) := by
      have q : ∀ t ∈ cfK, t.2.1 = 102 → t.1 = 1 := by decide +kernel
      have w : ∀ x c l, (x, c, l) ∈ cfK → c ≠ 102 → b ≠ x := fun x c l m nc e => by
        have := (F.g x c l m).1
        rw [e] at gk
        exact nc (this.symm.trans gk)
      refine ⟨w 0 11 15 (by decide +kernel) (by decide), w 2 4 20 (by decide +kernel) (by decide), w 34 1 9 (by decide +kernel) (by decide), w 35 5 19 (by decide +kernel) (by decide), w 38 100 124 (by decide +kernel) (by decide), w 41 100 12 (by decide +kernel) (by decide), w 51 104 122 (by decide +kernel) (by decide), w 53 0 17 (by decide +kernel) (by decide), w 55 100 250 (by decide +kernel) (by decide), w 59 100 250 (by decide +kernel) (by decide), w 60 100 250 (by decide +kernel) (by decide), w 65 100 250 (by decide +kernel) (by decide), w 66 100 250 (by decide +kernel) (by decide), w 67 2 13 (by decide +kernel) (by decide), fun z => ?_⟩
      have e' : b = 20 ∨ b = 21 ∨ b = 22 ∨ b = 23 ∨ b = 24 ∨ b = 25 ∨ b = 26 ∨ b = 27 ∨ b = 28 ∨ b = 29 ∨ b = 30 ∨ b = 31 ∨ b = 32 := by omega
      rcases e' with e | e | e | e | e | e | e | e | e | e | e | e | e
      · exact w 20 105 250 (by decide +kernel) (by decide) e
      · exact w 21 100 250 (by decide +kernel) (by decide) e
      · exact w 22 100 250 (by decide +kernel) (by decide) e
      · exact w 23 100 250 (by decide +kernel) (by decide) e
      · exact w 24 100 250 (by decide +kernel) (by decide) e
      · exact w 25 100 250 (by decide +kernel) (by decide) e
      · exact w 26 100 250 (by decide +kernel) (by decide) e
      · exact w 27 100 250 (by decide +kernel) (by decide) e
      · exact w 28 100 250 (by decide +kernel) (by decide) e
      · exact w 29 100 250 (by decide +kernel) (by decide) e
      · exact w 30 100 4500 (by decide +kernel) (by decide) e
      · exact w 31 100 250 (by decide +kernel) (by decide) e
      · exact w 32 103 250 (by decide +kernel) (by decide) e
    rw [i1 b 102 j (fz_mg f g) (by decide) (by decide) (by unfold eff; omega) (by unfold t8U; omega)]
    exact (f.2.2 b j g.2 (by unfold eE; omega)).1
  · rw [z.rr 0 11 13 g0 (by decide) (by decide) (by unfold eff; omega) (by unfold isPl; omega)]
    exact (f.2.2 0 13 (by omega) (by unfold eE; omega)).2.2
  · obtain ⟨a1, a2⟩ := f.2.1 b hb
    obtain ⟨b1, b2⟩ := z.kk b (by have := f.1; omega)
    exact ⟨b1.trans a1, b2.trans a2⟩
theorem leH_0 {e j : Nat} (hb : 0 < mh_n h) : mh_i (leH h e) 0 j = mh_i h 0 j := by
  unfold leH nsH
  rw [hi_si, if_neg (by omega), hi_si, if_neg (by omega), hi_si, if_neg (by omega), hi_sr, hi_si, if_neg (by omega), hi_si, if_neg (by omega), hi_si, if_neg (by omega), hi_si, if_neg (by omega), hi_si, if_neg (by omega), hi_si, if_neg (by omega), hi_new, if_neg (by omega)]
theorem leH_r {e b j : Nat} (hb : b < mh_n h) (hc : ¬ (b = 20 ∧ j = e)) : mh_r (leH h e) b j = mh_r h b j := by
  unfold leH nsH
  rw [hr_si, hr_si, hr_si, hr_sr, if_neg hc]
  simp only [hr_si]
  rw [hr_nw, if_neg (by omega)]
/-- one END alone: the class's rows of it -/
theorem PH_0 {sp : Nat → Nat → Bool} {NL : List Nat} {Pt : Nat → lpt} {E0 : nv} {St : Nat} (r : mh_r hT 20 0 = some St) (g : mg hT St 9) (i : ∀ j, mh_i hT St j = if j = 8 then -1 else 0) (e1 : mh_i hT 21 0 = 0) (e2 : mh_i hT 22 0 = 0) (e3 : mh_i hT 2 2 = 1) : PH hT (pgG sp NL Pt E0 0) 1 := by
  have k0 : ∀ p, (pgG sp NL Pt E0 0).kd p = 0 := fun p => show (if p < 0 then skN (Pt p).N else 0) = 0 from if_neg (Nat.not_lt_zero p)
  have n0 : ∀ p, (pgG sp NL Pt E0 0).n p = 0 := fun p => show (if p < 0 then (Pt p).X.nb + cnZl (Pt p).L else 0) = 0 from if_neg (Nat.not_lt_zero p)
  have a0 : ∀ p, (pgG sp NL Pt E0 0).a p = 0 := fun p => show (if p < 0 then (Pt p).X.na + cnAl (Pt p).L else 0) = 0 from if_neg (Nat.not_lt_zero p)
  refine ⟨e3, by decide, fun p hp => ?_, fun p hp => ?_, fun p hp k5 => ?_, fun p hp k4 _ => ?_⟩
  · have ep : p = 0 := by omega
    subst ep
    exact ⟨St, 0, 0, 0, 0, r, g, by rw [i, k0]; rfl, by rw [e1]; rfl, by rw [i]; rfl, by rw [n0], by rw [e2]; rfl, by rw [i]; rfl, by rw [a0]⟩
  · rw [k0, n0, a0]
    decide
  · rw [k0] at k5
    exact absurd k5 (by decide)
  · rw [k0] at k4
    exact absurd k4 (by decide)
theorem DB_0 {fu : Nat} {s : Option ab} {w0 : wd} : DB G fu 0 0 s w0 = (s, w0, 0) := by
  cases fu with
  | zero => rfl
  | succ f => exact if_neg (fun z => absurd z.1 (Nat.lt_irrefl 0))
theorem cpL_s : ((cpL n).map fun c => c.2).sum ≤ 17 * n + 1000 := by
  have g : gL n ≤ 756 := by unfold gL; omega
  have e : ((cpL n).map fun c => c.2) = [5, n, n + 1, n + 1, n + 1, 16, 3 * n + 3] ++ ([n + 1, n + 1, n + 1, n + 2, n + 2, n + 1, n + 1] ++ ([n / 3 + 2, 6 * (n / 9 + 2), 14, 62, 9, 62] ++ [n / 2 + 1, n / 2 + 1, n / 2 + 1, gL n])) := rfl
  have b1 : ([5, n, n + 1, n + 1, n + 1, 16, 3 * n + 3] : List Nat).sum ≤ 7 * n + 27 := by
    simp only [List.sum_cons, List.sum_nil]
    omega
  have b2 : ([n + 1, n + 1, n + 1, n + 2, n + 2, n + 1, n + 1] : List Nat).sum ≤ 7 * n + 9 := by
    simp only [List.sum_cons, List.sum_nil]
    omega
  have b3 : ([n / 3 + 2, 6 * (n / 9 + 2), 14, 62, 9, 62] : List Nat).sum ≤ n + 161 := by
    simp only [List.sum_cons, List.sum_nil]
    omega
  have b4 : ([n / 2 + 1, n / 2 + 1, n / 2 + 1, gL n] : List Nat).sum ≤ 2 * n + 759 := by
    simp only [List.sum_cons, List.sum_nil]
    omega
  rw [e, List.sum_append, List.sum_append, List.sum_append]
  omega
/-- where the source stays, so does the room that it may want -/
theorem cN_q {h1 : mh_H} (f : fz eE h h1) (b : BS h Y C E TT UU SC SP nC nE nS) (y2 : mh_r h1 2 1 = some Y) (iY : mh_i h1 Y 5 = mh_i h Y 5) : cN h1 = cN h + ((mh_n h1 : Int) - (mh_n h : Int)) ∧ cS h1 = cS h + ((mh_s h1 : Int) - (mh_s h : Int)) := by
  have hn := b.N
  have ec : ∀ b n, (∀ j, isPl b j) → cnS h1 b n = cnS h b n := fun b n q => cnS_c (fun i => pl_e f hn (q i))
  have eT : cT h1 = cT h := by
    unfold cT
    rw [ec 51 122 (fun j => by unfold isPl; omega), ec 61 250 (fun j => by unfold isPl; omega), ec 62 250 (fun j => by unfold isPl; omega), ec 63 250 (fun j => by unfold isPl; omega), ec 64 250 (fun j => by unfold isPl; omega), ec 54 250 (fun j => by unfold isPl; omega), ec 73 250 (fun j => by unfold isPl; omega)]
  have eY : cY h1 = cY h := by
    unfold cY
    rw [y2, b.y]
    dsimp only
    rw [iY]
  obtain ⟨P, R, lP, cp⟩ := b.p
  have cp1 := CP_e f hn cp
  have eG : cG h1 = cG h := by
    have l1 : ln h1 35 9 = lP := by unfold ln; rw [cp1.r9]; exact cp1.l9
    have l0 : ln h 35 9 = lP := by unfold ln; rw [cp.r9]; exact cp.l9
    unfold cG
    rw [l1, l0, eY]
  unfold cN cS
  rw [eT, eG, eY]
  constructor <;> omega
/-- no program -/
theorem end_0 (P : CPg h Y C E TT UU SC SP nC nE nS pa G J J2 cnt fst oth pl) (f : fz eE h hT) {Y' C' E' TT' UU' SC' SP' nC' nE' nS' pa' : Nat} (B' : BS hT Y' C' E' TT' UU' SC' SP' nC' nE' nS') (hpa : mh_i hT Y' 5 = Int32.ofNat pa' ∧ pa' ≤ 60000) {St : Nat} (r : mh_r hT 20 0 = some St) (g : mg hT St 9) (i : ∀ j, mh_i hT St j = if j = 8 then -1 else 0) (q4 : mh_i hT 21 0 = 0) (q5 : mh_i hT 22 0 = 0) (q6 : mh_i hT 2 2 = 1) (rN : cN hT ≤ cN h + ((n / 3 + 40 : Nat) : Int)) (rS : cS hT ≤ cS h + ((25 * n + 1300 : Nat) : Int)) {sp : Nat → Nat → Bool} {NL : List Nat} {Pt : Nat → lpt} {E0 : nv} {fst' oth' : Nat → Nat} {x1 x2 x3 x4 x5 : Option Value} {v6 : Int32} : ∃ h' w0, wW w0 = 0 ∧ CPg h' Y' C' E' TT' UU' SC' SP' nC' nE' nS' pa' (pgG sp NL Pt E0 0) (pJ sp NL Pt E0) (pJ2 sp NL Pt E0) 1 fst' oth' (fun _ => 0) ∧ CAZ h' (pgG sp NL Pt E0 0) 0 1 w0 ∧ CEd h h' n ∧ (mh_i h' 0 8 = mh_i hT 0 8 ∧ mh_i h' 0 9 = mh_i hT 0 9) ∧ ∀ Q, mw (d + 8) 186 Q 140 [some (.ref 0), x1, x2, x3, x4, x5, some (.int v6)] [] hT = Q (some (.int v6)) h' := by
  obtain ⟨h', w0, a0, a1, a2, a3, -, a5, a6⟩ := e_fin (d := d) (n := n) (e := 0) (G' := pgG sp NL Pt E0 0) (J' := pJ sp NL Pt E0) (J2' := pJ2 sp NL Pt E0) (fst' := fst') (oth' := oth') (pa' := pa') P f B' (PH_0 r g i q4 q5 q6) ⟨hpa, fun p hp => absurd hp (by omega)⟩ ⟨hpa, fun p hp => absurd hp (by omega)⟩ (fun p hp => absurd hp (by omega)) (fun p hp => absurd hp (by omega)) (pl' := fun _ => 0) (fun q hq S e => by
    have q0 : q = 0 := by omega
    subst q0
    rw [r] at e
    cases e
    exact i 2) rfl (fu := 0) (r := fun _ => 0) rfl rN rS (x1 := x1) (x2 := x2) (x3 := x3) (x4 := x4) (x5 := x5) (v6 := v6)
  refine ⟨h', w0, a0, a1, a2, a3, a5, fun Q => (a6 Q).trans ?_⟩
  rw [DB_0]
  have : ¬ 4000 < wW (((some A00, w0, 0) : rs3).2.1) := by
    show ¬ 4000 < wW w0
    omega
  rw [if_neg this]
theorem ar_N {x : Int} {a k m : Nat} (s8 : k ≤ m / 3 + 2) : x + (((a + (24 + k) + 1 : Nat) : Int) - (a : Int)) ≤ x + ((m / 3 + 40 : Nat) : Int) := by omega
theorem ar_S {x : Int} {a k m z : Nat} (s8 : k ≤ m / 3 + 2) (cl : z ≤ 17 * m + 1000) : x + (((a + z + 17 * k + 17 : Nat) : Int) - (a : Int)) ≤ x + ((25 * m + 1300 : Nat) : Int) := by omega
theorem cF_1 (P : CPg h Y C E TT UU SC SP nC nE nS pa G J J2 cnt fst oth pl) {hL : mh_H} (f2 : fz eE h hL) (FT : CF hL) {St : Nat} (q1 : mh_r hL 20 0 = some St) (q2 : mg hL St 9) (q3 : ∀ j, mh_i hL St j = if j = 8 then -1 else 0) (q4 : mh_i hL 21 0 = 0) (q5 : mh_i hL 22 0 = 0) (q6 : mh_i hL 2 2 = 1) (hSt : St ≠ 0) (y2 : mh_r hL 2 1 = some Y) (i8 : mh_i hL 0 8 = 0) {k z : Nat} (nN : mh_n hL = mh_n h + (24 + k) + 1) (nS' : mh_s hL = mh_s h + z + 17 * k + 17) (s8 : k ≤ n / 3 + 2) (cl : z ≤ 17 * n + 1000) {p9 : Nat} (hp : p9 < 1000000) {sp : Nat → Nat → Bool} {NL : List Nat} {Pt : Nat → lpt} {E0 : nv} {fst' oth' : Nat → Nat} {x1 x2 x3 x4 : Option Value} : ∃ h' w0, wW w0 = 0 ∧ CPg h' Y C E TT UU SC SP nC nE nS pa (pgG sp NL Pt E0 0) (pJ sp NL Pt E0) (pJ2 sp NL Pt E0) 1 fst' oth' (fun _ => 0) ∧ CAZ h' (pgG sp NL Pt E0 0) 0 1 w0 ∧ CEd h h' n ∧ (mh_i h' 0 8 = 0 ∧ mh_i h' 0 9 = Int32.ofNat p9) ∧ ∀ Q, mw (d + 13) 186 Q 78 [some (.ref 0), x1, x2, x3, x4, some (.int (Int32.ofNat p9)), some (.int 0)] [] hL = Q (some (.int 1)) h' := by
  have b := P.B
  have f3 : fz eE h (mh_si hL 0 9 (Int32.ofNat p9)) := fz_t f2 (fz_si (Or.inl ⟨rfl, Or.inr rfl⟩))
  have nY := b.q.n Y (by simp)
  have iY : mh_i (mh_si hL 0 9 (Int32.ofNat p9)) Y 5 = mh_i h Y 5 := fz_i f3 b.q.gY (by unfold eE; omega)
  have y3 : mh_r (mh_si hL 0 9 (Int32.ofNat p9)) 2 1 = some Y := y2
  have B' := BS_e f3 b y3 (SQ_e f3 b.q)
  obtain ⟨eq1, eq2⟩ := cN_q f3 b y3 iY
  have n1 : mh_n (mh_si hL 0 9 (Int32.ofNat p9)) = mh_n hL := hn_si
  have n2 : mh_s (mh_si hL 0 9 (Int32.ofNat p9)) = mh_s hL := hs_si
  have rN : cN (mh_si hL 0 9 (Int32.ofNat p9)) ≤ cN h + ((n / 3 + 40 : Nat) : Int) := by
    rw [eq1, n1, nN]
    exact ar_N s8
  have rS : cS (mh_si hL 0 9 (Int32.ofNat p9)) ≤ cS h + ((25 * n + 1300 : Nat) : Int) := by
    rw [eq2, n2, nS']
    exact ar_S s8 cl
  have i0 : ∀ b j, b ≠ 0 → mh_i (mh_si hL 0 9 (Int32.ofNat p9)) b j = mh_i hL b j := fun b j hb => by rw [hi_si, if_neg (fun w => hb w.1)]
  have pi := P.i.1
  obtain ⟨h', w0, a0, a1, a2, a3, ⟨a4, a5⟩, a6⟩ := end_0 (d := d + 5) (n := n) (sp := sp) (NL := NL) (Pt := Pt) (E0 := E0) (fst' := fst') (oth' := oth') (pa' := pa) (St := St) P f3 B' ⟨iY.trans pi.1, pi.2⟩ q1 q2 (fun j => (i0 St j hSt).trans (q3 j)) ((i0 21 0 (by decide)).trans q4) ((i0 22 0 (by decide)).trans q5) ((i0 2 2 (by decide)).trans q6) rN rS (x1 := x1) (x2 := x2) (x3 := x3) (x4 := x4) (x5 := some (.int (Int32.ofNat p9))) (v6 := 1)
  have e8 : mh_i (mh_si hL 0 9 (Int32.ofNat p9)) 0 8 = mh_i hL 0 8 := by rw [hi_si, if_neg (by omega)]
  have e9 : mh_i (mh_si hL 0 9 (Int32.ofNat p9)) 0 9 = Int32.ofNat p9 := by rw [hi_si, if_pos ⟨rfl, rfl⟩]
  exact ⟨h', w0, a0, a1, a2, a3, ⟨a4.trans (e8.trans i8), a5.trans e9⟩, fun Q => (y_186f (d := d + 12) FT hp Q).trans (a6 Q)⟩
/-- a fault in the text -/
theorem end_cF (P : CPg h Y C E TT UU SC SP nC nE nS pa G J J2 cnt fst oth pl) (hB : mh_n h = B) (mb : mbf h) {fed : Nat} (e1 : mh_i h 0 1 = Int32.ofNat fed) (hf : n ≤ fed) (hfd : fed ≤ 16400) (hn : n ≤ 10300) (hb : ∀ i, i < n → mh_i h 1 i &&& 255 = Bt i) (hv : ∀ i, i < n → ∃ m, m < 256 ∧ Bt i = Int32.ofNat m) {N : Nat} (hN : 8 * (toks Bt n).length + 6 ≤ N + 1) {j : Nat} (e : pgZ (tkK (toks Bt n)) (tkPl (toks Bt n)) (fun i => nvl Bt (n - tkPl (toks Bt n) i) (tkPl (toks Bt n) i) 0) (N + 1) (toks Bt n).length 0 = (j, none)) {sp : Nat → Nat → Bool} {NL : List Nat} {Pt : Nat → lpt} {E0 : nv} {fst' oth' : Nat → Nat} : ∃ h' w0, wW w0 = 0 ∧ CPg h' Y C E TT UU SC SP nC nE nS pa (pgG sp NL Pt E0 0) (pJ sp NL Pt E0) (pJ2 sp NL Pt E0) 1 fst' oth' (fun _ => 0) ∧ CAZ h' (pgG sp NL Pt E0 0) 0 1 w0 ∧ CEd h h' n ∧ (mh_i h' 0 8 = 0 ∧ mh_i h' 0 9 = Int32.ofNat (tkPl (toks Bt n) j)) ∧ ∀ Q, mcall (d + 13) 186 [.ref 0, .int (Int32.ofNat n)] h Q = Q (some (.int 1)) h' := by
  have hN2 := P.B.N
  have R := x_186 (d := d) (n := n) (Bt := Bt) (N := N) P.B.F hB (by omega) mb e1 hf hfd (by omega) hb hv hN
  rw [e] at R
  obtain ⟨jl, h5, s', CB, r5, ad, s8, run⟩ := R
  have f1 : fz eE h (z8H (cH h5 B s')) := fz_t (fz_w (fz_cH hB ad r5 s') (fun _ _ _ z => z.elim)) fz_z8
  have plj := tkPl_n (Bt := Bt) (n := n) j
  have nH : mh_n (z8H (cH h5 B s')) = B + (24 + s'.1 8) := z8_n.trans cH_n
  have sH : mh_s (z8H (cH h5 B s')) = mh_s h5 + 17 * s'.1 8 := (z8_k (y := 0)).2.2.trans rfl
  have i08 : mh_i (z8H (cH h5 B s')) 0 8 = 0 := by
    unfold z8H
    rw [hi_si, if_neg (by omega), hi_si, if_pos ⟨rfl, rfl⟩]
  have y1 : mh_r (z8H (cH h5 B s')) 2 1 = some Y := by
    rw [z8_r, cH_r (by omega) (by omega) (by omega), r5 2 1 (by omega)]
    exact P.B.y
  have n8 : 2644 ≤ mh_n (z8H (cH h5 B s')) := by omega
  obtain ⟨q1, q2, q3, q4, q5, q6⟩ := le_0 n8
  obtain ⟨ml1, ml2⟩ := leH_n (h := z8H (cH h5 B s')) (e := 0)
  have s5 := ad.1.2
  have f2 : fz eE h (leH (z8H (cH h5 B s')) 0) := fz_t f1 fz_le
  obtain ⟨h', w0, a0, a1, a2, a3, a4, a5⟩ := cF_1 (d := d) (n := n) P f2 (CF_ee f2 hN2 P.B.F) q1 q2 q3 q4 q5 q6 (by omega) ((leH_r (by omega) (by omega)).trans y1) ((leH_0 (by omega)).trans i08) (by rw [ml1, nH, hB]) (by rw [ml2, sH, s5]) s8 cpL_s (p9 := tkPl (toks Bt n) j) (by omega) (sp := sp) (NL := NL) (Pt := Pt) (E0 := E0) (fst' := fst') (oth' := oth')
  exact ⟨h', w0, a0, a1, a2, a3, a4, fun Q => (run Q).trans (a5 Q)⟩
end CEs
