set_option maxRecDepth 100000
/-! where points lead: SUC, and what slots are there -/
/-- what comes behind a row -/
def bhX (Pt : Nat → lpt) (e : Nat) (X : lcx) : Nat := match X.ow with
  | none => e
  | some o => if tK (Pt o).N = 9 then o else bh Pt e o
/-- slots of a point that follows: no more than these -/
def shLe (G : pgm) (n a : Nat) (rm : Nat → Nat) (q : Nat) : Prop := G.n q ≤ n ∧ G.a q ≤ a ∧ ∀ x, x < G.a q → G.rm q x = rm x
/-- slots where a point leads -/
def SHp (G : pgm) (J : pin) (fst oth : Nat → Nat) (e p : Nat) : Prop := (fst p ≤ e ∧ shLe G (afN (J.c p) (G.n p) (J.t p)) (afA (J.c p) (G.a p)) (afR (J.c p) (G.a p) (J.sz p) (G.rm p)) (fst p)) ∧ (J.c p = 7 → oth p ≤ e ∧ shLe G (G.n p) (G.a p) (G.rm p) (oth p))
section SUs
variable {sp : Nat → Nat → Bool} {NL : List Nat} {D : lyD} {Pt : Nat → lpt} {E0 : nv} {e0 n : Nat} {L : cen} {X : lcx}
theorem rA_o {a z s : Nat} (hs : s < X.na + cnAl L) : X.rA ((a, z) :: L) s = X.rA L s := by
  show (if s < X.na then X.rS s else aSz ((a, z) :: L) (s - X.na)) = (if s < X.na then X.rS s else aSz L (s - X.na))
  by_cases c : s < X.na
  · rw [if_pos c, if_pos c]
  · rw [if_neg c, if_neg c]
    show (if ¬ z = 0 ∧ cnAl L = s - X.na then z else aSz L (s - X.na)) = _
    rw [if_neg (by omega)]
theorem LYR_1 {f : Nat} {fb : Bool} {t : tr} {k w s p e b : Nat} (y : LYR D Pt f fb t k w s p e L b X) (h : p < e) : (Pt p).L = L ∧ (Pt p).X = X := by
  cases f with
  | zero =>
    cases t with
    | leaf _ => exact absurd (show p = e from y) (by omega)
    | branch n cs r => exact absurd y (fun z => z)
  | succ f =>
    cases t with
    | leaf _ => exact absurd (show p = e from y) (by omega)
    | branch n cs r => exact ⟨y.2.1.2.2.1, y.2.1.2.2.2.1⟩
theorem sk_i (h3 : 3 ≤ tK n ∧ tK n ≤ 11) : (skN n = 4 ↔ tK n = 7) ∧ (skN n = 5 ↔ tK n = 8) ∧ (skN n = 6 ↔ tK n = 9) := by
  unfold skN
  split
  · exact ⟨⟨fun z => by omega, fun z => by omega⟩, ⟨fun z => by omega, fun z => by omega⟩, ⟨fun z => by omega, fun z => by omega⟩⟩
  · exact ⟨⟨fun z => by omega, fun z => by omega⟩, ⟨fun z => by omega, fun z => by omega⟩, ⟨fun z => by omega, fun z => by omega⟩⟩
theorem SUC_of (ow : ∀ q o, q < e0 → (Pt q).X.ow = some o → o < q) (K3 : ∀ q, q < e0 → 3 ≤ tK (Pt q).N ∧ tK (Pt q).N ≤ 11) : ∀ f fb t k w s p e b L X, LYR D Pt f fb t k w s p e L b X → e ≤ e0 → SUC (pgG sp NL Pt E0 e0) (fstP Pt e0) (othP Pt e0) f p e (bhX Pt e0 X) := by
  intro f
  induction f with
  | zero => exact fun _ _ _ _ _ _ _ _ _ _ _ _ => trivial
  | succ f ih =>
    intro fb t k w s p e b L X y hee
    cases t with
    | leaf _ => exact fun h => absurd (show p = e from y) (by omega)
    | branch n cs r =>
      intro hpe
      obtain ⟨⟨y1, y1'⟩, ⟨a1, a2, a3, a4, a5, a6, a7, a8⟩, ⟨y3, y4⟩, y5, y6, y7⟩ := y
      have hp : p < e0 := by omega
      obtain ⟨k4, k5, k6⟩ := sk_i (K3 p hp)
      have Gk : (pgG sp NL Pt E0 e0).kd p = skN (Pt p).N := by show (if p < e0 then skN (Pt p).N else 0) = _; rw [if_pos hp]
      have GE : (pgG sp NL Pt E0 e0).E p = (Pt p).E := rfl
      have GM : (pgG sp NL Pt E0 e0).M p = (Pt p).M := rfl
      rw [Gk, GE, GM]
      have bp : bh Pt e0 p = if (Pt p).E < e then (Pt p).E else bhX Pt e0 X := by
        rw [bh_e ow hp, a5, a4]
        rfl
      have rest := ih _ _ _ _ _ _ _ _ _ _ y7 hee
      have bB : tK (Pt p).N ≠ 9 → ∀ X' : lcx, X'.ow = some p → bhX Pt e0 X' = if (Pt p).E < e then (Pt p).E else bhX Pt e0 X := fun z X' ho => by
        unfold bhX
        rw [ho]
        show (if tK (Pt p).N = 9 then p else bh Pt e0 p) = _
        rw [if_neg z, bp]
        rfl
      have fe : fstP Pt e0 p = if p + 1 < (if tK (Pt p).N = 8 then (Pt p).M else (Pt p).E) then p + 1 else if tK (Pt p).N = 9 then p else bh Pt e0 p := rfl
      have oe : othP Pt e0 p = if tK (Pt p).N = 8 ∧ (Pt p).M < (Pt p).E then (Pt p).M else bh Pt e0 p := rfl
      rw [a1] at k4 k5 k6 bB fe oe ⊢
      refine ⟨?_, rest⟩
      rcases y6 with ⟨kk, a, ff, t, g, ec, -, -, z⟩ | ⟨kk, c, cc, b1, bs1, q, ec, m1, m2, z3, z4⟩ | ⟨kk, c, cc, b1, bs1, ec, z⟩ | ⟨n7, n8, n9, z⟩
      · rw [if_pos (k4.mpr kk)]
        have sub := ih _ _ _ _ _ _ _ _ _ _ z (by omega)
        rw [bB (by omega) _ rfl] at sub
        refine ⟨?_, sub⟩
        rw [fe, if_neg (show ¬ tK n = 8 by omega), if_neg (show ¬ tK n = 9 by omega), bp]
      · rw [if_neg (fun z => by have := k4.mp z; omega), if_pos (k5.mpr kk)]
        have s1 := ih _ _ _ _ _ _ _ _ _ _ z3 (by omega)
        rw [bB (by omega) _ rfl] at s1
        refine ⟨?_, ?_, s1, ?_⟩
        · rw [fe, if_pos kk, if_neg (show ¬ tK n = 9 by omega), bp]
        · rw [oe, bp]
          by_cases cm : (Pt p).M < (Pt p).E
          · rw [if_pos ⟨kk, cm⟩, if_pos cm]
          · rw [if_neg (fun z => cm z.2), if_neg cm]
        · rcases z4 with ⟨-, z4⟩ | ⟨b2, bs2, -, z4⟩
          · rw [z4]
            cases f with
            | zero => trivial
            | succ f => exact fun h => absurd h (Nat.lt_irrefl _)
          · have s2 := ih _ _ _ _ _ _ _ _ _ _ z4 (by omega)
            rw [bB (by omega) _ rfl] at s2
            exact s2
      · rw [if_neg (fun z => by have := k4.mp z; omega), if_neg (fun z => by have := k5.mp z; omega), if_pos (k6.mpr kk)]
        have sub := ih _ _ _ _ _ _ _ _ _ _ z (by omega)
        have bW : bhX Pt e0 (lyB X p) = p := by
          show (if tK (Pt p).N = 9 then p else bh Pt e0 p) = p
          rw [a1, if_pos kk]
        rw [bW] at sub
        refine ⟨?_, ?_, sub⟩
        · rw [fe, if_neg (show ¬ tK n = 8 by omega), if_pos kk]
        · rw [oe, if_neg (fun z => by omega), bp]
      · rw [if_neg (fun z => n7 (k4.mp z)), if_neg (fun z => n8 (k5.mp z)), if_neg (fun z => n9 (k6.mp z)), fe, if_neg n8, if_neg (by omega), if_neg n9, bp]
theorem shLe_w {G : pgm} {n a n' a' q : Nat} {rm rm' : Nat → Nat} (w : shLe G n a rm q) (h1 : n ≤ n') (h2 : a ≤ a') (h3 : ∀ x, x < a → rm' x = rm x) : shLe G n' a' rm' q := ⟨Nat.le_trans w.1 h1, Nat.le_trans w.2.1 h2, fun x hx => (w.2.2 x hx).trans (h3 x (Nat.lt_of_lt_of_le hx w.2.1)).symm⟩
theorem jC_i (h3 : 3 ≤ tK n ∧ tK n ≤ 11) {cs : tr} : (tK n = 3 ∧ (jC n cs = 1 ∨ jC n cs = 2)) ∨ (tK n = 4 ∧ jC n cs = 3) ∨ (tK n = 5 ∧ jC n cs = 4) ∨ (tK n = 6 ∧ jC n cs = 5) ∨ (tK n = 7 ∧ jC n cs = 6) ∨ ((tK n = 8 ∨ tK n = 9) ∧ jC n cs = 7) ∨ (tK n = 10 ∧ jC n cs = 8) ∨ (tK n = 11 ∧ jC n cs = 9) := by
  unfold jC
  by_cases k3 : tK n = 3
  · rw [if_pos k3]
    by_cases c : ts (tT cs) = 0
    · rw [if_pos c]; exact Or.inl ⟨k3, Or.inr rfl⟩
    · rw [if_neg c]; exact Or.inl ⟨k3, Or.inl rfl⟩
  rw [if_neg k3]
  by_cases k4 : tK n = 4
  · rw [if_pos k4]; exact Or.inr (Or.inl ⟨k4, rfl⟩)
  rw [if_neg k4]
  by_cases k5 : tK n = 5
  · rw [if_pos k5]; exact Or.inr (Or.inr (Or.inl ⟨k5, rfl⟩))
  rw [if_neg k5]
  by_cases k6 : tK n = 6
  · rw [if_pos k6]; exact Or.inr (Or.inr (Or.inr (Or.inl ⟨k6, rfl⟩)))
  rw [if_neg k6]
  by_cases k7 : tK n = 7
  · rw [if_pos k7]; exact Or.inr (Or.inr (Or.inr (Or.inr (Or.inl ⟨k7, rfl⟩))))
  rw [if_neg k7]
  by_cases k8 : tK n = 8 ∨ tK n = 9
  · rw [if_pos k8]; exact Or.inr (Or.inr (Or.inr (Or.inr (Or.inr (Or.inl ⟨k8, rfl⟩)))))
  rw [if_neg k8]
  by_cases k10 : tK n = 10
  · rw [if_pos k10]; exact Or.inr (Or.inr (Or.inr (Or.inr (Or.inr (Or.inr (Or.inl ⟨k10, rfl⟩))))))
  · rw [if_neg k10]; exact Or.inr (Or.inr (Or.inr (Or.inr (Or.inr (Or.inr (Or.inr ⟨by omega, rfl⟩))))))
theorem SH_of (ow : ∀ q o, q < e0 → (Pt q).X.ow = some o → o < q) (K3 : ∀ q, q < e0 → 3 ≤ tK (Pt q).N ∧ tK (Pt q).N ≤ 11) (K4 : ∀ q, q < e0 → tK (Pt q).N = 4 → ∃ a v c1 c2, (Pt q).C = .branch a c1 (.branch v c2 (.leaf ())) ∧ 1 ≤ tV v) (K7 : ∀ q, q < e0 → tK (Pt q).N = 7 → ∀ a ff t g, (Pt q).C = .branch a (.leaf ()) (.branch ff (.leaf ()) t) → fmH D.sp D.H (Pt q).X.fu (tV ff).toNat = some g → cnZl (D.FP g) = tlc t ∧ cnAl (D.FP g) = 0) : ∀ f fb t k w s p e b L X, LYR D Pt f fb t k w s p e L b X → e ≤ e0 → bhX Pt e0 X ≤ e0 → shLe (pgG sp NL Pt E0 e0) (X.nb + cnZl L) (X.na + cnAl L) (X.rA L) (bhX Pt e0 X) → ∀ q, p ≤ q → q < e → SHp (pgG sp NL Pt E0 e0) (pJ sp NL Pt E0) (fstP Pt e0) (othP Pt e0) e0 q := by
  have atG : ∀ q, q < e0 → (pgG sp NL Pt E0 e0).n q = (Pt q).X.nb + cnZl (Pt q).L ∧ (pgG sp NL Pt E0 e0).a q = (Pt q).X.na + cnAl (Pt q).L ∧ (pgG sp NL Pt E0 e0).rm q = (Pt q).X.rA (Pt q).L := fun q hq => ⟨if_pos hq, if_pos hq, rfl⟩
  intro f
  induction f with
  | zero =>
    intro fb t k w s p e b L X y _ _ _ q h1 h2
    cases t with
    | leaf _ => exact absurd (show p = e from y) (by omega)
    | branch n cs r => exact absurd y (fun z => z)
  | succ f ih =>
    intro fb t k w s p e b L X y hee hb hs q h1 h2
    cases t with
    | leaf _ => exact absurd (show p = e from y) (by omega)
    | branch n cs r =>
      obtain ⟨⟨y1, y1'⟩, ⟨a1, a2, a3, a4, a5, a6, a7, a8⟩, ⟨y3, y4⟩, y5, y6, y7⟩ := y
      have hp : p < e0 := by omega
      have k3 := K3 p hp
      have k4 := K4 p hp
      have k7 := K7 p hp
      have bp : bh Pt e0 p = if (Pt p).E < e then (Pt p).E else bhX Pt e0 X := by
        rw [bh_e ow hp, a5, a4]
        rfl
      have key : nxE n cs L = L ∨ ∃ u, nxE n cs L = u :: L := by
        unfold nxE
        split
        · split
          · exact Or.inr ⟨_, rfl⟩
          · exact Or.inl rfl
        · split
          · split
            · exact Or.inr ⟨_, rfl⟩
            · exact Or.inl rfl
          · exact Or.inl rfl
      have mono : X.nb + cnZl L ≤ X.nb + cnZl (nxE n cs L) ∧ X.na + cnAl L ≤ X.na + cnAl (nxE n cs L) ∧ ∀ x, x < X.na + cnAl L → X.rA (nxE n cs L) x = X.rA L x := by
        rcases key with e | ⟨⟨a, z⟩, e⟩
        · rw [e]; exact ⟨Nat.le_refl _, Nat.le_refl _, fun _ _ => rfl⟩
        · rw [e]
          refine ⟨?_, ?_, fun x hx => rA_o hx⟩
          · by_cases c : z = 0
            · subst c; rw [cnZ_0]; omega
            · rw [cnZ_n c]; omega
          · by_cases c : z = 0
            · subst c; rw [cnA_0]; omega
            · rw [cnA_n c]; omega
      -- behind the statement
      have bnx : bh Pt e0 p ≤ e0 ∧ shLe (pgG sp NL Pt E0 e0) (X.nb + cnZl (nxE n cs L)) (X.na + cnAl (nxE n cs L)) (X.rA (nxE n cs L)) (bh Pt e0 p) := by
        rw [bp]
        by_cases c : (Pt p).E < e
        · rw [if_pos c]
          obtain ⟨l1, l2⟩ := LYR_1 y7 c
          obtain ⟨g1, g2, g3⟩ := atG (Pt p).E (by omega)
          rw [l1, l2] at g1 g2 g3
          exact ⟨by omega, Nat.le_of_eq g1, Nat.le_of_eq g2, fun x _ => by rw [g3]⟩
        · rw [if_neg c]
          exact ⟨hb, shLe_w hs mono.1 mono.2.1 mono.2.2⟩
      obtain ⟨p1, p2, p3⟩ := atG p hp
      rw [a3, a4] at p1 p2 p3
      by_cases c0 : q = p
      · subst c0
        have Jc : (pJ sp NL Pt E0).c q = jC n cs := by show jC (Pt q).N (Pt q).C = _; rw [a1, a2]
        have Jt : (pJ sp NL Pt E0).t q = jT n (rn sp NL cs) := by show jT (Pt q).N (rn sp NL (Pt q).C) = _; rw [a1, a2]
        have Jz : (pJ sp NL Pt E0).sz q = if tK n = 4 then (tV (hd1 (tT cs))).toNat else 0 := by show (if tK (Pt q).N = 4 then (tV (hd1 (tT (Pt q).C))).toNat else 0) = _; rw [a1, a2]
        unfold SHp
        rw [Jc, Jt, Jz, p1, p2, p3]
        have fe : fstP Pt e0 q = if q + 1 < (if tK (Pt q).N = 8 then (Pt q).M else (Pt q).E) then q + 1 else if tK (Pt q).N = 9 then q else bh Pt e0 q := rfl
        have oe : othP Pt e0 q = if tK (Pt q).N = 8 ∧ (Pt q).M < (Pt q).E then (Pt q).M else bh Pt e0 q := rfl
        rw [a1] at fe oe k3 k4 k7
        rw [a2] at k4 k7
        rw [a4] at k7
        rw [fe, oe]
        obtain ⟨bn1, bn2⟩ := bnx
        rcases y6 with ⟨kk, a, ff, t, g, ec, hg, -, z⟩ | ⟨kk, c, cc, b1, bs1, q', ec, m1, m2, z3, z4⟩ | ⟨kk, c, cc, b1, bs1, ec, z⟩ | ⟨n7, n8, n9, z⟩
        · have jc : jC n cs = 6 := by rcases jC_i k3 (cs := cs) with h | h | h | h | h | h | h | h <;> omega
          have nx : nxE n cs L = L := by unfold nxE; rw [if_neg (by omega), if_neg (by omega)]
          rw [nx] at bn2
          obtain ⟨f1, f2⟩ := k7 kk a ff t g ec hg
          have jt : tl (jT n (rn sp NL cs)) = tlc t := by
            rw [ec]
            unfold jT
            rw [if_neg (by omega), if_pos kk]
            show tl (rn sp NL t) = _
            rw [tl_rn, tl_tlc]
          rw [jc, show ((6 : Nat) = 7) = False from by decide]
          refine ⟨?_, fun z => absurd z (fun q => q)⟩
          have aN : afN 6 (X.nb + cnZl L) (jT n (rn sp NL cs)) = X.nb + cnZl L + tlc t := by
            unfold afN
            rw [if_neg (by decide), if_pos rfl, jt]
          have aA : afA 6 (X.na + cnAl L) = X.na + cnAl L := if_neg (by decide)
          have aR : ∀ z, afR 6 (X.na + cnAl L) z (X.rA L) = X.rA L := fun z => if_neg (by decide)
          rw [aN, aA, aR, if_neg (show ¬ tK n = 8 by omega), if_neg (show ¬ tK n = 9 by omega)]
          by_cases c : q + 1 < (Pt q).E
          · rw [if_pos c]
            obtain ⟨l1, l2⟩ := LYR_1 z c
            obtain ⟨g1, g2, g3⟩ := atG (q + 1) (by omega)
            rw [l1, l2] at g1 g2 g3
            have g1' : (pgG sp NL Pt E0 e0).n (q + 1) = X.nb + cnZl L + cnZl (D.FP g) := g1
            have g2' : (pgG sp NL Pt E0 e0).a (q + 1) = X.na + cnAl L + cnAl (D.FP g) := g2
            rw [f1] at g1'
            rw [f2, Nat.add_zero] at g2'
            refine ⟨by omega, Nat.le_of_eq g1', Nat.le_of_eq g2', fun x hx => ?_⟩
            rw [g2'] at hx
            rw [g3]
            exact if_pos hx
          · rw [if_neg c]
            exact ⟨bn1, shLe_w bn2 (by omega) (Nat.le_refl _) (fun _ _ => rfl)⟩
        · have jc : jC n cs = 7 := by rcases jC_i k3 (cs := cs) with h | h | h | h | h | h | h | h <;> omega
          have nx : nxE n cs L = L := by unfold nxE; rw [if_neg (by omega), if_neg (by omega)]
          rw [nx] at bn2
          rw [jc]
          have aN : afN 7 (X.nb + cnZl L) (jT n (rn sp NL cs)) = X.nb + cnZl L := by unfold afN; rw [if_neg (by decide), if_neg (by decide)]
          have aA : afA 7 (X.na + cnAl L) = X.na + cnAl L := if_neg (by decide)
          have aR : ∀ z, afR 7 (X.na + cnAl L) z (X.rA L) = X.rA L := fun z => if_neg (by decide)
          have inB : ∀ r, q < r → r < e → (Pt r).L = L → (Pt r).X = lyB X q → shLe (pgG sp NL Pt E0 e0) (X.nb + cnZl L) (X.na + cnAl L) (X.rA L) r := fun r _ r2 l1 l2 => by
            obtain ⟨g1, g2, g3⟩ := atG r (by omega)
            rw [l1, l2] at g1 g2 g3
            exact ⟨Nat.le_of_eq g1, Nat.le_of_eq g2, fun x _ => by rw [g3]; rfl⟩
          rw [aN, aA, aR, if_pos kk, if_neg (show ¬ tK n = 9 by omega)]
          refine ⟨?_, fun _ => ?_⟩
          · by_cases c : q + 1 < (Pt q).M
            · rw [if_pos c]
              obtain ⟨l1, l2⟩ := LYR_1 z3 c
              exact ⟨by omega, inB _ (by omega) (by omega) l1 l2⟩
            · rw [if_neg c]
              exact ⟨bn1, bn2⟩
          · by_cases c : (Pt q).M < (Pt q).E
            · rw [if_pos ⟨kk, c⟩]
              rcases z4 with ⟨-, z4⟩ | ⟨b2, bs2, -, z4⟩
              · omega
              · obtain ⟨l1, l2⟩ := LYR_1 z4 c
                exact ⟨by omega, inB _ (by omega) (by omega) l1 l2⟩
            · rw [if_neg (fun z => c z.2)]
              exact ⟨bn1, bn2⟩
        · have jc : jC n cs = 7 := by rcases jC_i k3 (cs := cs) with h | h | h | h | h | h | h | h <;> omega
          have nx : nxE n cs L = L := by unfold nxE; rw [if_neg (by omega), if_neg (by omega)]
          rw [nx] at bn2
          rw [jc]
          have aN : afN 7 (X.nb + cnZl L) (jT n (rn sp NL cs)) = X.nb + cnZl L := by unfold afN; rw [if_neg (by decide), if_neg (by decide)]
          have aA : afA 7 (X.na + cnAl L) = X.na + cnAl L := if_neg (by decide)
          have aR : ∀ z, afR 7 (X.na + cnAl L) z (X.rA L) = X.rA L := fun z => if_neg (by decide)
          rw [aN, aA, aR, if_neg (show ¬ tK n = 8 by omega), if_pos kk, if_neg (show ¬ (tK n = 8 ∧ (Pt q).M < (Pt q).E) from fun z => by omega)]
          refine ⟨?_, fun _ => ⟨bn1, bn2⟩⟩
          by_cases c : q + 1 < (Pt q).E
          · rw [if_pos c]
            obtain ⟨l1, l2⟩ := LYR_1 z c
            obtain ⟨g1, g2, g3⟩ := atG (q + 1) (by omega)
            rw [l1, l2] at g1 g2 g3
            exact ⟨by omega, Nat.le_of_eq g1, Nat.le_of_eq g2, fun x _ => by rw [g3]; rfl⟩
          · rw [if_neg c]
            exact ⟨by omega, Nat.le_of_eq p1, Nat.le_of_eq p2, fun x _ => by rw [p3]⟩
        · rw [if_neg n8, if_neg (show ¬ q + 1 < (Pt q).E by omega), if_neg n9]
          have j7 : ¬ jC n cs = 7 := by rcases jC_i k3 (cs := cs) with h | h | h | h | h | h | h | h <;> omega
          refine ⟨⟨bn1, ?_⟩, fun z => absurd z j7⟩
          rcases jC_i k3 (cs := cs) with ⟨h1, h2⟩ | ⟨h1, h2⟩ | ⟨h1, h2⟩ | ⟨h1, h2⟩ | ⟨h1, -⟩ | ⟨h1, -⟩ | ⟨h1, h2⟩ | ⟨h1, h2⟩
          · have aN : afN (jC n cs) (X.nb + cnZl L) (jT n (rn sp NL cs)) = X.nb + cnZl L + 1 := by unfold afN; rw [if_pos h2]
            have aA : afA (jC n cs) (X.na + cnAl L) = X.na + cnAl L := if_neg (by omega)
            have aR : ∀ z, afR (jC n cs) (X.na + cnAl L) z (X.rA L) = X.rA L := fun z => if_neg (by omega)
            rw [aN, aA, aR]
            rcases cs with u | ⟨a, cc, t⟩
            · have nx : nxE n (.leaf u) L = L := by unfold nxE; rw [if_pos h1]
              rw [nx] at bn2
              exact shLe_w bn2 (by omega) (Nat.le_refl _) (fun _ _ => rfl)
            · have nx : nxE n (.branch a cc t) L = ((tV a).toNat, 0) :: L := by unfold nxE; rw [if_pos h1]
              rw [nx, cnZ_0, cnA_0] at bn2
              exact shLe_w bn2 (by omega) (Nat.le_refl _) (fun x hx => (rA_o hx).symm)
          · have aN : afN (jC n cs) (X.nb + cnZl L) (jT n (rn sp NL cs)) = X.nb + cnZl L := by unfold afN; rw [if_neg (by omega), if_neg (by omega)]
            have aA : afA (jC n cs) (X.na + cnAl L) = X.na + cnAl L + 1 := if_pos h2
            obtain ⟨a, v, c1, c2, ec, hv⟩ := k4 h1
            have nx : nxE n cs L = ((tV a).toNat, max 1 (tV v).toNat) :: L := by rw [ec]; unfold nxE; rw [if_neg (by omega), if_pos h1]
            have mx : max 1 (tV v).toNat = (tV v).toNat := by omega
            have hdv : hd1 (tT cs) = v := by rw [ec]; rfl
            rw [nx, mx, cnZ_n (by omega), cnA_n (by omega)] at bn2
            rw [aN, aA, if_pos h1, hdv]
            refine shLe_w bn2 (Nat.le_refl _) (by omega) (fun x hx => ?_)
            have aR : afR (jC n cs) (X.na + cnAl L) (tV v).toNat (X.rA L) = fun x => if x = X.na + cnAl L then (tV v).toNat else X.rA L x := if_pos h2
            rw [aR]
            show (if x = X.na + cnAl L then (tV v).toNat else X.rA L x) = _
            by_cases cx : x = X.na + cnAl L
            · rw [if_pos cx]
              show _ = (if x < X.na then X.rS x else aSz (((tV a).toNat, (tV v).toNat) :: L) (x - X.na))
              rw [if_neg (by omega)]
              show _ = (if ¬ (tV v).toNat = 0 ∧ cnAl L = x - X.na then (tV v).toNat else aSz L (x - X.na))
              rw [if_pos ⟨by omega, by omega⟩]
            · rw [if_neg cx]
              exact (rA_o (by omega)).symm
          all_goals first | omega | skip
          all_goals
            have aN : afN (jC n cs) (X.nb + cnZl L) (jT n (rn sp NL cs)) = X.nb + cnZl L := by unfold afN; rw [if_neg (by omega), if_neg (by omega)]
            have aA : afA (jC n cs) (X.na + cnAl L) = X.na + cnAl L := if_neg (by omega)
            have aR : ∀ z, afR (jC n cs) (X.na + cnAl L) z (X.rA L) = X.rA L := fun z => if_neg (by omega)
            have nx : nxE n cs L = L := by unfold nxE; rw [if_neg (by omega), if_neg (by omega)]
            rw [nx] at bn2
            rw [aN, aA, aR]
            exact bn2
      · by_cases c1 : (Pt p).E ≤ q
        · exact ih _ _ _ _ _ _ _ _ _ _ y7 hee hb (shLe_w hs mono.1 mono.2.1 mono.2.2) q c1 h2
        · have lt : q < (Pt p).E := by omega
          obtain ⟨bn1, bn2⟩ := bnx
          rw [a1] at k3
          rcases y6 with ⟨kk, a, ff, t, g, ec, hg, -, z⟩ | ⟨kk, c, cc, b1, bs1, q', ec, m1, m2, z3, z4⟩ | ⟨kk, c, cc, b1, bs1, ec, z⟩ | ⟨-, -, -, z⟩
          · have nx : nxE n cs L = L := by unfold nxE; rw [if_neg (by omega), if_neg (by omega)]
            rw [nx] at bn2
            have bX : bhX Pt e0 (lyC D X L p g a) = bh Pt e0 p := by
              show (if tK (Pt p).N = 9 then p else bh Pt e0 p) = _
              rw [a1, if_neg (by omega)]
            refine ih _ _ _ _ _ _ _ _ _ _ z (by omega) (by rw [bX]; exact bn1) ?_ q (by omega) lt
            rw [bX]
            refine shLe_w bn2 (by show X.nb + cnZl L ≤ X.nb + cnZl L + cnZl (D.FP g); omega) (by show X.na + cnAl L ≤ X.na + cnAl L + cnAl (D.FP g); omega) (fun x hx => ?_)
            exact if_pos hx
          · have nx : nxE n cs L = L := by unfold nxE; rw [if_neg (by omega), if_neg (by omega)]
            rw [nx] at bn2
            have bX : bhX Pt e0 (lyB X p) = bh Pt e0 p := by
              show (if tK (Pt p).N = 9 then p else bh Pt e0 p) = _
              rw [a1, if_neg (by omega)]
            by_cases c2 : q < (Pt p).M
            · exact ih _ _ _ _ _ _ _ _ _ _ z3 (by omega) (by rw [bX]; exact bn1) (by rw [bX]; exact bn2) q (by omega) c2
            · rcases z4 with ⟨-, z4⟩ | ⟨b2, bs2, -, z4⟩
              · omega
              · exact ih _ _ _ _ _ _ _ _ _ _ z4 (by omega) (by rw [bX]; exact bn1) (by rw [bX]; exact bn2) q (by omega) lt
          · have bX : bhX Pt e0 (lyB X p) = p := by
              show (if tK (Pt p).N = 9 then p else bh Pt e0 p) = _
              rw [a1, if_pos kk]
            exact ih _ _ _ _ _ _ _ _ _ _ z (by omega) (by rw [bX]; omega) (by rw [bX]; exact ⟨Nat.le_of_eq p1, Nat.le_of_eq p2, fun x _ => by rw [p3]; rfl⟩) q (by omega) lt
          · omega
end SUs
