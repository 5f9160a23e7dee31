set_option maxRecDepth 100000
/-! what is wrong with statements, with the last function's return; findWrong IS lyW -/
def wfR (D : lyD) (Sf : cps) (fu : Nat) : Nat → Bool → tr → Nat → cen → Nat → Prop
  | _, _, .leaf _, _, _, _ => True
  | 0, _, .branch _ _ _, _, _, _ => False
  | f + 1, fb, .branch n cs r, s, L, b => (Sf.2 (24 + s) 5, Sf.2 (24 + s) 6) = wn (0, 0) (if tK n = 11 ∧ (fb && decide (ts r = 0)) = true ∧ fu + 1 = D.c then (7, tP n) else wrS D.sp D.H fu L b (fb && decide (ts r = 0)) n cs) ∧ (∀ c cc b1 bs1 q, cs = .branch c cc (.branch b1 bs1 q) → tK n = 8 ∨ tK n = 9 → wfR D Sf fu f false bs1 (s + 1) L 0 ∧ ∀ b2 bs2, q = .branch b2 bs2 (.leaf ()) → wfR D Sf fu f false bs2 (s + 1 + stLq bs1) L 0) ∧ wfR D Sf fu f fb r (s + stS n cs) (nxE n cs L) (b + ((nxE n cs L).length - L.length))
/-- which statement is the last function's return -/
def ixF (s : cps) : Option Nat := if s.1 9 = 0 ∨ s.2 15 (6 * (s.1 9 - 1) + 5) = -1 then none else some (s.2 15 (6 * (s.1 9 - 1) + 5)).toNatClampNeg
section WFl
variable {D : lyD} {Sc : cps} {fu : Nat} {i j ix : Nat}
theorem fi_o (h : ∀ ix, ixF Sc = some ix → i = ix → j ≠ 5 ∧ j ≠ 6) : (fiS Sc).2 (24 + i) j = Sc.2 (24 + i) j := by
  have a : (fiA Sc).2 (24 + i) j = Sc.2 (24 + i) j := by
    unfold fiA
    rw [u2_2, if_neg (by omega), u2_2, if_neg (by omega)]
  unfold fiS
  unfold ixF at h
  by_cases c : Sc.1 9 = 0 ∨ Sc.2 15 (6 * (Sc.1 9 - 1) + 5) = -1
  · rw [if_pos c]; exact a
  · rw [if_neg c]
    rw [if_neg c] at h
    have h' := h _ rfl
    rw [u2_2, if_neg (fun z => by have := h' (by omega); omega), u2_2, if_neg (fun z => by have := h' (by omega); omega)]
    exact a
theorem fi_5 (h : ixF Sc = some ix) : (fiS Sc).2 (24 + ix) 5 = 7 ∧ (fiS Sc).2 (24 + ix) 6 = Sc.2 (24 + ix) 2 := by
  unfold ixF at h
  unfold fiS
  by_cases c : Sc.1 9 = 0 ∨ Sc.2 15 (6 * (Sc.1 9 - 1) + 5) = -1
  · rw [if_pos c] at h; cases h
  · rw [if_neg c] at h
    rw [if_neg c]
    cases h
    exact ⟨by rw [u2_2, if_neg (by omega), u2_2, if_pos ⟨rfl, rfl⟩], by rw [u2_2, if_pos ⟨rfl, rfl⟩]⟩
/-- the row of statements from s to se holds the return, or not -/
def RXp (D : lyD) (Sc : cps) (fu : Nat) (fb : Bool) (t : tr) (s se : Nat) : Prop := ((fb = false ∨ fu + 1 ≠ D.c) ∧ ∀ ix, ixF Sc = some ix → ¬ (s ≤ ix ∧ ix < se)) ∨ (fb = true ∧ fu + 1 = D.c ∧ ((∃ ix, ixF Sc = some ix ∧ se = ix + 1 ∧ (0 < ts t → gvT t = true)) ∨ (ixF Sc = none ∧ (0 < ts t → gvT t = false))))
theorem stLq_1 : ∀ t : tr, 0 < ts t → 0 < stLq t := by
  intro t h
  cases t with
  | leaf _ => exact absurd h (by show ¬ 0 < 0; decide)
  | branch n cs r =>
    show 0 < 1 + (if tK n = 8 ∨ tK n = 9 then stMd cs 1 else 0) + stMd r 0
    omega
theorem wf_of (hs : D.sp = D.sp) (hH : D.H = Sc.2 15) : ∀ N fb t s se L b, stR D.sp Sc fu N fb t s se L b → RXp D Sc fu fb t s se → wfR D (fiS Sc) fu N fb t s L b := by
  intro N
  induction N with
  | zero =>
    intro fb t s se L b w _
    cases t with
    | leaf _ => trivial
    | branch n cs r => exact w
  | succ N ih =>
    intro fb t s se L b w rx
    cases t with
    | leaf _ => trivial
    | branch n cs r =>
      have eT := stR_L (N + 1) _ _ _ _ _ _ w
      obtain ⟨s1, w1, w2⟩ := w
      have e2 := stR_L _ _ _ _ _ _ _ w2
      have e1 : s1 = s + stS n cs := by rw [stLq_S] at eT; omega
      have pS : 0 < stS n cs := stLq_1 (.branch n cs (.leaf ())) (by show 0 < 1 + ts cs + 0; omega)
      obtain ⟨⟨f0, f1, f2, f3, f4, f56⟩, wk⟩ := w1
      have gv : gvT (.branch n cs r) = if ts r = 0 then decide (tK n = 11) else gvT r := rfl
      have r1 : ts r ≠ 0 → 0 < stLq r := fun z => stLq_1 r (by omega)
      have l0 : ts r = 0 → stLq r = 0 := fun z => by
        cases r with
        | leaf _ => rfl
        | branch n2 cs2 r2 => rw [ts_B] at z; omega
      refine ⟨?_, fun c cc b1 bs1 q ec kk => ?_, ?_⟩
      · rcases rx with ⟨x1, x2⟩ | ⟨x1, x2, x3⟩
        · rw [fi_o (fun ix e z => absurd ⟨by omega, by omega⟩ (x2 ix e)), fi_o (fun ix e z => absurd ⟨by omega, by omega⟩ (x2 ix e)), if_neg (fun z => by
            have z2 := z.2.1
            rw [Bool.and_eq_true] at z2
            rcases x1 with x1 | x1
            · rw [x1] at z2; exact absurd z2.1 (by decide)
            · exact x1 z.2.2), f56, hH]
        · subst x1
          rcases x3 with ⟨ix, y1, y2, y3⟩ | ⟨y1, y3⟩
          · have g := y3 (by rw [ts_B]; omega)
            rw [gv] at g
            by_cases c : ts r = 0
            · rw [if_pos c] at g
              have k11 : tK n = 11 := of_decide_eq_true g
              have s1' : stS n cs = 1 := by unfold stS; rw [stLq_p (by omega) (by omega)]; rfl
              have := l0 c
              have ei : s = ix := by omega
              subst ei
              obtain ⟨g1, g2⟩ := fi_5 y1
              rw [g1, g2, f2, if_pos ⟨k11, by rw [decide_eq_true c]; rfl, x2⟩, wn_p (b := (7, tP n)) rfl (by show ¬ 7 = 0; decide)]
              rfl
            · have := r1 c
              rw [fi_o (fun ix' e z => by rw [y1] at e; cases e; omega), fi_o (fun ix' e z => by rw [y1] at e; cases e; omega), if_neg (fun z => by
                have z2 := z.2.1
                rw [decide_eq_false c] at z2
                exact absurd z2 (by decide)), f56, hH]
          · have g := y3 (by rw [ts_B]; omega)
            rw [gv] at g
            rw [fi_o (fun ix e => by rw [y1] at e; cases e), fi_o (fun ix e => by rw [y1] at e; cases e), if_neg (fun z => by
              have z2 := z.2.1
              rw [Bool.and_eq_true, decide_eq_true_eq] at z2
              rw [if_pos z2.2, decide_eq_true z.1] at g
              cases g), f56, hH]
      · -- BLOCKs below
        subst ec
        have sub : ∀ x y, s < x → y ≤ s1 → ∀ ix, ixF Sc = some ix → ¬ (x ≤ ix ∧ ix < y) := fun x y hx hy ix e z => by
          rcases rx with ⟨-, x2⟩ | ⟨x1, x2, x3⟩
          · exact x2 ix e ⟨by omega, by omega⟩
          · rcases x3 with ⟨ix', y1, y2, y3⟩ | ⟨y1, -⟩
            · rw [y1] at e
              cases e
              have g := y3 (by rw [ts_B]; omega)
              rw [gv] at g
              by_cases c : ts r = 0
              · rw [if_pos c] at g
                have := of_decide_eq_true g
                omega
              · have := r1 c
                omega
            · rw [y1] at e; cases e
        rcases wk with ⟨z, -⟩ | ⟨z, -⟩ | ⟨z, -⟩ | ⟨z, -⟩ | ⟨z, -⟩ | ⟨z, c', cc', b1', bs1', q', k2, c0, c1, ec', -, -, -, -, -, -, v1, v2⟩ | ⟨z, c', cc', b1', bs1', c0, c1, ec', -, -, -, -, -, v1⟩ | ⟨z, -⟩ | ⟨z, -⟩
        · omega
        · omega
        · omega
        · omega
        · omega
        · cases ec'
          have ek := stR_L _ _ _ _ _ _ _ v1
          have ek2 : k2 ≤ s1 := by
            rcases v2 with ⟨-, v2⟩ | ⟨b2, bs2, -, v2⟩
            · omega
            · have := stR_L _ _ _ _ _ _ _ v2
              omega
          refine ⟨ih false bs1 (s + 1) k2 L 0 v1 (Or.inl ⟨Or.inl rfl, sub _ _ (by omega) ek2⟩), fun b2 bs2 eq => ?_⟩
          rcases v2 with ⟨v2, -⟩ | ⟨b2', bs2', v2, v3⟩
          · rw [v2] at eq; cases eq
          · rw [v2] at eq
            cases eq
            rw [← ek]
            exact ih false bs2 k2 s1 L 0 v3 (Or.inl ⟨Or.inl rfl, sub _ _ (by omega) (Nat.le_refl _)⟩)
        · cases ec'
          refine ⟨ih false bs1 (s + 1) s1 L 0 v1 (Or.inl ⟨Or.inl rfl, sub _ _ (by omega) (Nat.le_refl _)⟩), fun b2 bs2 eq => by cases eq⟩
        · omega
        · omega
      · rw [← e1]
        refine ih fb r s1 se _ _ w2 ?_
        rcases rx with ⟨x1, x2⟩ | ⟨x1, x2, x3⟩
        · exact Or.inl ⟨x1, fun ix e z => x2 ix e ⟨by omega, z.2⟩⟩
        · refine Or.inr ⟨x1, x2, ?_⟩
          rcases x3 with ⟨ix, y1, y2, y3⟩ | ⟨y1, y3⟩
          · refine Or.inl ⟨ix, y1, y2, fun hr => ?_⟩
            have g := y3 (by rw [ts_B]; omega)
            rw [gv, if_neg (by omega)] at g
            exact g
          · refine Or.inr ⟨y1, fun hr => ?_⟩
            have g := y3 (by rw [ts_B]; omega)
            rw [gv, if_neg (by omega)] at g
            exact g
end WFl
section FWl
variable {d : Nat} {h : mh_H} {B n m : Nat} {D : lyD} {Sc Sf : cps} {p s s1 b nn N' : Nat} {cs : tr} {X : lcx} {L : cen} {rl : Bool}
theorem wn_e {w : Nat × Nat} : wn (0, 0) w = if w.1 = 0 then (0, 0) else (Int32.ofNat w.1, Int32.ofNat w.2) := by
  by_cases c : w.1 = 0
  · rw [if_pos c]; exact wn_o c
  · rw [if_neg c]; exact wn_p rfl c
/-- findWrong -/
theorem u_90 (C : CLC h B n m D Sf) (ec : mh_i h 2 2 = Int32.ofNat p) (hp : p ≤ 249) (bs : BSE h X.nb X.na) (hs : s < Sf.1 8) (fo : ∀ i j, j ≠ 5 → j ≠ 6 → Sf.2 (24 + i) j = Sc.2 (24 + i) j) (st : stN D.sp Sc X.fu (fun bs x y L' => stR D.sp Sc X.fu N' false bs x y L' 0) nn cs s s1 L b rl) (wf : (Sf.2 (24 + s) 5, Sf.2 (24 + s) 6) = wn (0, 0) (wrM D nn cs L b rl X)) (hH : D.H = Sc.2 15) (hX : X.fu < D.c) (hts : ts cs < 100000) (hb : X.nb + cnZl L ≤ 12 ∧ X.na + cnAl L ≤ 6) (FPl : ∀ g, g < D.c → ∃ par, par < 50000 ∧ D.H (6 * g + 1) = Int32.ofNat par) (htw : ∀ g, g < D.c → ¬ D.H (6 * g + 2) = -1 → ∃ a, a < m ∧ D.H (6 * g + 2) = Int32.ofNat a) : ∀ Q, mcall (d + 1) 90 [.ref 2, .ref (B + (24 + s))] h Q = if (lyW D nn cs p L b rl X).1 = 0 then Q none h else Q none (ntY h (Int32.ofNat (lyW D nn cs p L b rl X).1) (Int32.ofNat (lyW D nn cs p L b rl X).2)) := by
  intro Q
  obtain ⟨q1, gS, q3⟩ := C.q s hs
  obtain ⟨⟨f0, f1, f2, f3, f4, -⟩, wk⟩ := st
  have sv : ∀ j, j ≠ 5 → j ≠ 6 → mh_i h (B + (24 + s)) j = Sc.2 (24 + s) j := fun j h5 h6 => (q3 j).trans (fo s j h5 h6)
  have S0 := (sv 0 (by decide) (by decide)).trans f0
  have S2 := (sv 2 (by decide) (by decide)).trans f2
  have S3 := (sv 3 (by decide) (by decide)).trans f3
  have S4 := (sv 4 (by decide) (by decide)).trans f4
  have S5 := q3 5
  have S6 := q3 6
  have a0 := s_90w (d := d) C gS ec (by omega) S2 S5 S6 Q
  rw [a0]
  by_cases p9 : p = 249
  · have w11 : lyW D nn cs p L b rl X = (11, tP nn) := if_pos p9
    rw [if_pos p9, w11, if_neg (by show ¬ 11 = 0; decide)]
    rfl
  rw [if_neg p9]
  have lwf := lyW_f (D := D) (n := nn) (cs := cs) (L := L) (b := b) (rl := rl) (X := X) p9
  rw [wn_e] at wf
  by_cases c0 : (wrM D nn cs L b rl X).1 = 0
  · rw [if_pos c0] at wf
    have w5 : Sf.2 (24 + s) 5 = 0 := congrArg Prod.fst wf
    rw [if_neg (fun z => z w5), lwf, fw_y c0]
    have kdN : skN nn ≤ 61 := by
      unfold skN
      have := tK_b (x := nn)
      split <;> omega
    have a1 := s_90a (d := d) C bs gS S3 S4 Q
    rw [a1]
    by_cases c7 : tK nn = 7
    · rw [if_pos c7]
      rcases wk with ⟨z, -⟩ | ⟨z, -⟩ | ⟨z, -⟩ | ⟨z, -⟩ | ⟨-, a, ff, t, x, e, -, s8, s14, s11, -⟩ | ⟨z, -⟩ | ⟨z, -⟩ | ⟨z, -⟩ | ⟨z, -⟩
      · omega
      · omega
      · omega
      · omega
      · subst e
        have wc : wrM D nn (.branch a (.leaf ()) (.branch ff (.leaf ()) t)) L b rl X = wrC D.sp D.H X.fu (loE D.sp L) a ff t := by
          unfold wrM wrS
          rw [if_neg (fun z => by omega), if_neg (by omega), if_neg (by omega), if_neg (by omega), if_pos c7]
        rw [wc] at c0
        obtain ⟨g, hg⟩ := wrC_g0 c0
        have gX : g < X.fu := (fsr_b _ _ hg).1
        rw [← hH, hg] at s14
        have s14' : Sc.2 (24 + s) 14 = Int32.ofNat g := s14
        obtain ⟨par, p1, p2⟩ := FPl g (by omega)
        -- as many SUMs as parameters
        have et : Int32.ofNat (tlc t) = D.H (6 * g + 1) := by
          by_cases z : Int32.ofNat (tlc t) = D.H (6 * g + 1)
          · exact z
          · exfalso
            generalize hW : fw (if tK a = 13 then (lkW (loE D.sp L) (tV a) false, tP a) else (0, 0)) (if fmH D.sp D.H X.fu (tV ff).toNat = none then (4, tP ff) else (0, 0)) = W at *
            by_cases cw : W.1 = 0
            · rw [wrC_s hW cw hg, if_pos z] at c0
              exact absurd c0 (by show ¬ 5 = 0; decide)
            · rw [wrC_n hW cw] at c0
              exact cw c0
        have kd4 : skN nn = 4 := by unfold skN; rw [if_neg (by omega)]; omega
        rw [kd4] at S0
        have S0' : mh_i h (B + (24 + s)) 0 = 4 := S0
        have S14 := (sv 14 (by decide) (by decide)).trans s14'
        rw [s_90c (d := d) C gS S0' S2 S14 (by omega) p2 (by omega) (htw g (by omega)) Q]
        show _ = if (lyWc D nn t L X (fmH D.sp D.H X.fu (tV ff).toNat)).1 = 0 then Q none h else Q none (ntY h (Int32.ofNat (lyWc D nn t L X (fmH D.sp D.H X.fu (tV ff).toNat)).1) (Int32.ofNat (lyWc D nn t L X (fmH D.sp D.H X.fu (tV ff).toNat)).2))
        rw [hg]
        have eW : lyWc D nn t L X (some g) = if ¬ D.H (6 * g + 2) = -1 then (2, D.P (D.H (6 * g + 2)).toNatClampNeg) else if 12 < X.nb + cnZl L + tlc t then (10, tP nn) else (0, 0) := rfl
        rw [eW]
        by_cases ct : D.H (6 * g + 2) = -1
        · have nct : ¬ ¬ D.H (6 * g + 2) = -1 := fun z => z ct
          rw [if_neg nct, if_neg nct]
          have tpar : (12 < cnZl L + X.nb + par) ↔ (12 < X.nb + cnZl L + tlc t) := by
            rw [p2] at et
            rw [ts_B, ts_B] at hts
            have tb := tlc_le t
            have e := (nn_eq (a := tlc t) (b := par) (by omega) (by omega)) ▸ et
            omega
          by_cases c12 : 12 < X.nb + cnZl L + tlc t
          · rw [if_pos (tpar.mpr c12), if_pos c12, if_neg (by show ¬ 10 = 0; decide)]
            rfl
          · rw [if_neg (fun z => c12 (tpar.mp z)), if_neg c12, if_pos rfl]
        · rw [if_pos ct, if_pos ct, if_neg (by show ¬ 2 = 0; decide)]
          rfl
      · omega
      · omega
      · omega
      · omega
    rw [if_neg c7]
    by_cases c3 : tK nn = 3
    · rw [if_pos c3]
      rcases wk with ⟨-, a, t, e, -, s7, s9, -⟩ | ⟨z, -⟩ | ⟨z, -⟩ | ⟨z, -⟩ | ⟨z, -⟩ | ⟨z, -⟩ | ⟨z, -⟩ | ⟨z, -⟩ | ⟨z, -⟩
      · have kd1 : skN nn = 1 := by unfold skN; rw [if_pos (Or.inl c3)]
        rw [kd1] at S0
        have S0' : mh_i h (B + (24 + s)) 0 = 1 := S0
        have S9 : mh_i h (B + (24 + s)) 9 = Int32.ofNat 0 := (sv 9 (by decide) (by decide)).trans s9
        rw [s_90v (d := d) C gS S0' S2 S9 (by decide) (by omega) (by omega) Q, if_pos rfl]
        by_cases c12 : X.nb + cnZl L = 12
        · rw [if_pos c12, if_pos (by omega), if_neg (by show ¬ 10 = 0; decide)]
          rfl
        · rw [if_neg c12, if_neg (by omega), if_pos rfl]
      all_goals omega
    rw [if_neg c3]
    by_cases c4 : tK nn = 4
    · rw [if_pos c4]
      rcases wk with ⟨z, -⟩ | ⟨-, a, q0, e, -, s7, s9⟩ | ⟨z, -⟩ | ⟨z, -⟩ | ⟨z, -⟩ | ⟨z, -⟩ | ⟨z, -⟩ | ⟨z, -⟩ | ⟨z, -⟩
      · omega
      · subst e
        have kd1 : skN nn = 1 := by unfold skN; rw [if_pos (Or.inr c4)]
        rw [kd1] at S0
        have S0' : mh_i h (B + (24 + s)) 0 = 1 := S0
        have S9 := (sv 9 (by decide) (by decide)).trans s9
        have z64 : (tV q0).toNat ≤ 64 := by
          have e0 : wrM D nn (.branch a (.leaf ()) (.branch q0 (.leaf ()) (.leaf ()))) L b rl X = fw (if twE D.sp b L (tV a).toNat = true then (2, tP a) else (0, 0)) (if tV q0 < 1 ∨ 64 < tV q0 then (9, tP q0) else (0, 0)) := by
            unfold wrM wrS
            rw [if_neg (fun z => by omega), if_neg (by omega), if_pos c4]
          rw [e0] at c0
          by_cases y : tV q0 < 1 ∨ 64 < tV q0
          · exfalso
            rw [if_pos y] at c0
            unfold fw at c0
            by_cases y2 : (if twE D.sp b L (tV a).toNat = true then (2, tP a) else ((0, 0) : Nat × Nat)).1 = 0
            · rw [if_pos y2] at c0; exact absurd c0 (by show ¬ 9 = 0; decide)
            · rw [if_neg y2] at c0; exact y2 c0
          · omega
        rw [s_90v (d := d) C gS S0' S2 S9 (by omega) (by omega) (by omega) Q, if_neg (by omega)]
        by_cases c6 : X.na + cnAl L = 6
        · rw [if_pos c6, if_pos (by omega), if_neg (by show ¬ 13 = 0; decide)]
          rfl
        · rw [if_neg c6, if_neg (by omega), if_pos rfl]
      all_goals omega
    rw [if_neg c4, if_pos rfl]
    have kdo : skN nn ≠ 4 ∧ skN nn ≠ 1 := by
      unfold skN
      rw [if_neg (by omega)]
      rcases wk with ⟨z, -⟩ | ⟨z, -⟩ | ⟨z, -⟩ | ⟨z, -⟩ | ⟨z, -⟩ | ⟨z, -⟩ | ⟨z, -⟩ | ⟨z, -⟩ | ⟨z, -⟩ <;> omega
    exact s_90o (d := d) C gS S0 (by omega) kdo.1 kdo.2 Q
  · rw [if_neg c0] at wf
    have w5 : Sf.2 (24 + s) 5 = Int32.ofNat (wrM D nn cs L b rl X).1 := congrArg Prod.fst wf
    have w6 : Sf.2 (24 + s) 6 = Int32.ofNat (wrM D nn cs L b rl X).2 := congrArg Prod.snd wf
    have wb : (wrM D nn cs L b rl X).1 < 100 := by
      unfold wrM
      split
      · show 7 < 100; decide
      · exact wrS_lt
    have n5 : ¬ Sf.2 (24 + s) 5 = 0 := by
      rw [w5, show (0 : Int32) = Int32.ofNat 0 from rfl, nn_eq (by omega) (by omega)]
      exact c0
    rw [if_pos n5, lwf, fw_n c0, if_neg c0, w5, w6]
end FWl
