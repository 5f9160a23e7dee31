set_option maxRecDepth 100000
/-! each point of a layout is in order -/
/-- what a point has -/
def PTp (sp : Nat → Nat → Bool) (NL : List Nat) (Pt : Nat → lpt) (E0 : nv) (D : lyD) (q : Nat) : Prop := ((Pt q).X.nb + cnZl (Pt q).L ≤ 12 ∧ (Pt q).X.na + cnAl (Pt q).L ≤ 6) ∧ (PIK D (Pt q).N (Pt q).C (Pt q).L (Pt q).X) ∧ (LIV sp NL (Pt q).L) ∧ (EQx (bsF sp NL Pt E0 250 (Pt q).X) (Pt q).X) ∧ (∀ y, (Pt q).X.ta = some y → y < (Pt q).X.nb) ∧ (nmK (fun a => nix sp NL a < NL.length) (.branch (Pt q).N (Pt q).C (.leaf ())) ∧ gbQ (Pt q).N (Pt q).C) ∧ ((Pt q).X.fu < D.c)
theorem PTp.of {sp : Nat → Nat → Bool} {NL : List Nat} {Pt : Nat → lpt} {E0 : nv} {D : lyD} {q : Nat} (qZ : ((Pt q).X.nb + cnZl (Pt q).L ≤ 12 ∧ (Pt q).X.na + cnAl (Pt q).L ≤ 6) ∧ (PIK D (Pt q).N (Pt q).C (Pt q).L (Pt q).X) ∧ (LIV sp NL (Pt q).L) ∧ (EQx (bsF sp NL Pt E0 250 (Pt q).X) (Pt q).X) ∧ (∀ y, (Pt q).X.ta = some y → y < (Pt q).X.nb) ∧ (nmK (fun a => nix sp NL a < NL.length) (.branch (Pt q).N (Pt q).C (.leaf ())) ∧ gbQ (Pt q).N (Pt q).C) ∧ ((Pt q).X.fu < D.c)) : PTp sp NL Pt E0 D q := qZ
theorem PTp.b {sp : Nat → Nat → Bool} {NL : List Nat} {Pt : Nat → lpt} {E0 : nv} {D : lyD} {q : Nat} (qZ : PTp sp NL Pt E0 D q) : (Pt q).X.nb + cnZl (Pt q).L ≤ 12 ∧ (Pt q).X.na + cnAl (Pt q).L ≤ 6 := qZ.1
theorem PTp.k {sp : Nat → Nat → Bool} {NL : List Nat} {Pt : Nat → lpt} {E0 : nv} {D : lyD} {q : Nat} (qZ : PTp sp NL Pt E0 D q) : PIK D (Pt q).N (Pt q).C (Pt q).L (Pt q).X := qZ.2.1
theorem PTp.l {sp : Nat → Nat → Bool} {NL : List Nat} {Pt : Nat → lpt} {E0 : nv} {D : lyD} {q : Nat} (qZ : PTp sp NL Pt E0 D q) : LIV sp NL (Pt q).L := qZ.2.2.1
theorem PTp.Q {sp : Nat → Nat → Bool} {NL : List Nat} {Pt : Nat → lpt} {E0 : nv} {D : lyD} {q : Nat} (qZ : PTp sp NL Pt E0 D q) : EQx (bsF sp NL Pt E0 250 (Pt q).X) (Pt q).X := qZ.2.2.2.1
theorem PTp.t {sp : Nat → Nat → Bool} {NL : List Nat} {Pt : Nat → lpt} {E0 : nv} {D : lyD} {q : Nat} (qZ : PTp sp NL Pt E0 D q) : ∀ y, (Pt q).X.ta = some y → y < (Pt q).X.nb := qZ.2.2.2.2.1
theorem PTp.n {sp : Nat → Nat → Bool} {NL : List Nat} {Pt : Nat → lpt} {E0 : nv} {D : lyD} {q : Nat} (qZ : PTp sp NL Pt E0 D q) : nmK (fun a => nix sp NL a < NL.length) (.branch (Pt q).N (Pt q).C (.leaf ())) ∧ gbQ (Pt q).N (Pt q).C := qZ.2.2.2.2.2.1
theorem PTp.f {sp : Nat → Nat → Bool} {NL : List Nat} {Pt : Nat → lpt} {E0 : nv} {D : lyD} {q : Nat} (qZ : PTp sp NL Pt E0 D q) : (Pt q).X.fu < D.c := qZ.2.2.2.2.2.2
section RAs
variable {sp : Nat → Nat → Bool} {NL : List Nat} {D : lyD} {Pt : Nat → lpt} {E0 : nv} {e0 : Nat}
theorem RW_at (H : PGH sp NL D) (he : e0 ≤ 249) (ow : ∀ q o, q < e0 → (Pt q).X.ow = some o → o < q) : ∀ f fb t k w s p e b L X, LYR D Pt f fb t k w s p e L b X → e ≤ e0 → RWx sp NL Pt E0 D L X t p → ∀ q, p ≤ q → q < e → PTp sp NL Pt E0 D q := by
  intro f
  induction f with
  | zero =>
    intro fb t k w s p e b L X y _ _ q h1 h2
    cases t with
    | leaf _ => exact absurd (show p = e from y) (by omega)
    | branch n cs r => exact absurd y (fun z => z)
  | succ f ih =>
    intro fb t k w s p e b L X y hee R q h1 h2
    cases t with
    | leaf _ => exact absurd (show p = e from y) (by omega)
    | branch n cs r =>
      obtain ⟨⟨y1, y1'⟩, ⟨a1, a2, a3, a4, a5, a6, a7, a8⟩, ⟨y3, y4⟩, y5, y6, y7⟩ := y
      obtain ⟨gb, sy, nk⟩ := R.g
      obtain ⟨gq, gb8, gbr⟩ := gb
      have nk0 := nk
      obtain ⟨nk1, nk2, nk3⟩ := nk
      have sy0 := sy
      obtain ⟨-, sy2, sy3⟩ := sy
      obtain ⟨b1, b2⟩ := R.b
      have Q := R.Q
      have LI := R.L
      have hX := R.f
      have tz := R.z
      rw [ts_B] at tz
      have sps := H.s
      have lS : (∃ c cc q, cs = .branch c cc q) ∨ (tK n ≠ 8 ∧ tK n ≠ 9) := by
        rcases y6 with ⟨kk, -⟩ | ⟨kk, c, cc, b1, bs1, q, ec, -⟩ | ⟨kk, c, cc, b1, bs1, ec, -⟩ | ⟨-, n8, n9, -⟩
        · exact Or.inr ⟨by omega, by omega⟩
        · exact Or.inl ⟨c, cc, _, ec⟩
        · exact Or.inl ⟨c, cc, _, ec⟩
        · exact Or.inr ⟨n8, n9⟩
      have PK := PIK_of (r := r) y5 gq sy0 b1 b2 lS
      clear lS sy0
      have st9 : bsF sp NL Pt E0 249 X = bsF sp NL Pt E0 250 X := bs_2 (n := e0) ow 249 250 X (fun o ho => by have := R.o o ho; omega)
      by_cases c0 : q = p
      · subst c0
        refine PTp.of ⟨by rw [a3, a4]; exact R.b, by rw [a1, a2, a3, a4]; exact PK, by rw [a3]; exact LI, by rw [a4]; exact Q, by rw [a4]; exact R.t, ⟨by rw [a1, a2]; exact ⟨nk1, nk2, trivial⟩, by rw [a1, a2]; exact gq⟩, by rw [a4]; exact hX⟩
      · by_cases c1 : (Pt p).E ≤ q
        · have nxb : (X.nb + cnZl (nxE n cs L) ≤ 12 ∧ X.na + cnAl (nxE n cs L) ≤ 6) ∧ LIV sp NL (nxE n cs L) := by
            rcases PK with ⟨kk, a, t, ec, ka, hlt, -⟩ | ⟨kk, a, q, ec, ka, kq, h6, q1, q2⟩ | ⟨kk, -⟩ | ⟨kk, -⟩ | ⟨kk, -⟩ | ⟨kk, -⟩ | ⟨kk, -⟩ | ⟨kk, -⟩
            · subst ec
              have en : nxE n (.branch a (.leaf ()) t) L = ((tV a).toNat, 0) :: L := by unfold nxE; rw [if_pos kk]
              rw [en, cnZ_0, cnA_0]
              refine ⟨⟨by omega, b2⟩, fun x z q => ?_⟩
              rcases List.mem_cons.mp q with q | q
              · cases q
                exact ⟨nk2.1 ka, Nat.zero_le _⟩
              · exact LI x z q
            · subst ec
              have en : nxE n (.branch a (.leaf ()) (.branch q (.leaf ()) (.leaf ()))) L = ((tV a).toNat, max 1 (tV q).toNat) :: L := by unfold nxE; rw [if_neg (by omega), if_pos kk]
              have q3 : max 1 (tV q).toNat = (tV q).toNat := by omega
              rw [en, q3, cnZ_n (by omega), cnA_n (by omega)]
              refine ⟨⟨b1, by omega⟩, fun x z u => ?_⟩
              rcases List.mem_cons.mp u with u | u
              · cases u
                exact ⟨nk2.1 ka, by omega⟩
              · exact LI x z u
            all_goals
              have en : nxE n cs L = L := by unfold nxE; rw [if_neg (by omega), if_neg (by omega)]
              rw [en]
              exact ⟨⟨b1, b2⟩, LI⟩
          exact ih _ _ _ _ _ _ _ _ _ _ y7 hee (RWx.of ⟨Q, nxb.2, fun o ho => by have := R.o o ho; omega, hX, nxb.1, ⟨gbr, sy3, nk3⟩, by omega, R.t⟩) q c1 h2
        · have lt : q < (Pt p).E := by omega
          have bB' : tK n ≠ 7 → bsF sp NL Pt E0 250 (lyB X p) = bsF sp NL Pt E0 250 X := fun z => by
            rw [bs_s (f := 249) (X := lyB X p) (o := p) rfl, a1, a4, a3, st9, if_neg z]
          have RB : tK n ≠ 7 → ∀ bs p', p + 1 ≤ p' → gbM bs 0 → syT bs → nmK (fun a => nix sp NL a < NL.length) bs → ts bs ≤ 26000 → RWx sp NL Pt E0 D L (lyB X p) bs p' := fun z bs p' hp g1 g2 g3 g4 => RWx.of ⟨by rw [bB' z]; exact EQx.of ⟨Q.n, Q.a, Q.r, Q.f, Q.t, Q.T⟩, LI, fun o ho => by cases ho; omega, hX, ⟨b1, b2⟩, ⟨g1, g2, g3⟩, g4, R.t⟩
          rcases y6 with ⟨kk, a', ff', t', g', ec', hg', gX', z⟩ | ⟨k8, c', cc', b1', bs1, q', ec', m1, m2, z3, z4⟩ | ⟨k9, c', cc', b1', bs1, ec', z⟩ | ⟨-, -, -, z⟩
          · obtain ⟨⟨h1, h2, h3, h4⟩, h5, h6, h7, h8, h9⟩ := H.f g' (by omega)
            have bC : bsF sp NL Pt E0 250 (lyC D X L p g' a') = (addC sp NL (bsF sp NL Pt E0 250 X) L).go g' (lyC D X L p g' a').ta := by
              rw [bs_s (f := 249) (X := lyC D X L p g' a') (o := p) rfl, a1, a4, a3, st9, if_pos kk]
              rfl
            have all0 : cnZl (D.FP g') = (D.FP g').length ∧ cnAl (D.FP g') = 0 := by
              revert h6
              generalize D.FP g' = F
              induction F with
              | nil => exact fun _ => ⟨rfl, rfl⟩
              | cons x F ihF =>
                obtain ⟨x1, x2⟩ := x
                intro w
                have z0 := w x1 x2 List.mem_cons_self
                subst z0
                obtain ⟨i1, i2⟩ := ihF (fun u v q => w u v (List.mem_cons_of_mem _ q))
                rw [cnZ_0, cnA_0, i1, i2]
                exact ⟨rfl, rfl⟩
            rcases PK with ⟨v, -⟩ | ⟨v, -⟩ | ⟨v, -⟩ | ⟨v, -⟩ | ⟨-, a, ff, t, g, ec, kf, ka, la, gt, wt, hg, gX, hl, h12, -⟩ | ⟨v, -⟩ | ⟨v, -⟩ | ⟨v, -⟩
            · omega
            · omega
            · omega
            · omega
            · subst ec
              cases ec'
              rw [hg] at hg'
              cases hg'
              have ll : tlc t' = (D.FP g').length := by
                rw [h7] at hl
                exact (nn_eq (a := tlc t') (b := (D.FP g').length) (by omega) (by omega)) ▸ hl
              refine ih _ _ _ _ _ _ _ _ _ _ z (by omega) (RWx.of ⟨by rw [bC]; exact EQ_c Q, h5, fun o ho => by cases ho; omega, by show g' < D.c; omega, ?_, ⟨h1, h2, h3⟩, h4, fun y hy => ?_⟩) q (by omega) lt
              · show X.nb + cnZl L + cnZl (D.FP g') ≤ 12 ∧ X.na + cnAl L + cnAl (D.FP g') ≤ 6
                rw [all0.1, all0.2]
                omega
              · have hy' : (if tK a' = 13 then some (X.nb + lkN (loE D.sp L) (tV a')) else none) = some y := hy
                by_cases k13 : tK a' = 13
                · rw [if_pos k13] at hy'
                  obtain ⟨sl, l1⟩ := la k13
                  have es : lkN (loE D.sp L) (tV a') = sl := by unfold lkN; rw [l1]
                  rw [es] at hy'
                  cases hy'
                  have := (loE_b L sl 0 l1).1 rfl
                  show X.nb + sl < X.nb + cnZl L
                  omega
                · rw [if_neg k13] at hy'
                  cases hy'
            · omega
            · omega
            · omega
          · subst ec'
            have n7 : tK n ≠ 7 := by omega
            have gbc := gb8 (Or.inl k8)
            obtain ⟨-, -, -, syb, syq⟩ := sy2
            obtain ⟨-, -, -, nkb, nkq⟩ := nk2
            rw [ts_B, ts_B] at tz
            have g2 : gbM bs1 0 ∧ gbM q' 2 := gbc
            by_cases c2 : q < (Pt p).M
            · exact ih _ _ _ _ _ _ _ _ _ _ z3 (by omega) (RB n7 bs1 (p + 1) (Nat.le_refl _) g2.1 syb nkb (by omega)) q (by omega) c2
            · rcases z4 with ⟨eq, z4⟩ | ⟨b2', bs2, eq, z4⟩
              · omega
              · subst eq
                rw [ts_B] at tz
                exact ih _ _ _ _ _ _ _ _ _ _ z4 (by omega) (RB n7 bs2 (Pt p).M (by omega) g2.2.1 syq.2.1 nkq.2.1 (by omega)) q (by omega) lt
          · subst ec'
            have n7 : tK n ≠ 7 := by omega
            have gbc := gb8 (Or.inr k9)
            obtain ⟨-, -, -, syb, syq⟩ := sy2
            obtain ⟨-, -, -, nkb, nkq⟩ := nk2
            rw [ts_B, ts_B] at tz
            have g2 : gbM bs1 0 ∧ gbM (.leaf ()) 2 := gbc
            exact ih _ _ _ _ _ _ _ _ _ _ z (by omega) (RB n7 bs1 (p + 1) (Nat.le_refl _) g2.1 syb nkb (by omega)) q (by omega) lt
          · omega
end RAs
