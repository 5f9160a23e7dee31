set_option maxRecDepth 100000
/-! the class's Ranges over any heap -/
abbrev SQ (h : mh_H) (Y C E TT UU SC SP nC nE nS : Nat) : Prop := (mg h Y 7) ∧ (mh_r h Y 0 = some C) ∧ (mh_r h Y 2 = some E) ∧ (mh_r h Y 3 = some TT) ∧ (mh_r h Y 4 = some UU) ∧ (mh_r h Y 6 = some SC) ∧ (mh_r h Y 7 = some SP) ∧ (mg h C 100) ∧ (mg h E 100) ∧ (mg h TT 100) ∧ (mg h UU 100) ∧ (mg h SC 100) ∧ (mg h SP 100) ∧ (mh_l h C = nC) ∧ (mh_l h E = nE) ∧ (mh_l h TT = nE) ∧ (mh_l h UU = nE) ∧ (mh_l h SC = nS) ∧ (mh_l h SP = nS) ∧ (∀ x, x = Y ∨ x = C ∨ x = E ∨ x = TT ∨ x = UU ∨ x = SC ∨ x = SP → (9 ≤ x ∧ x ≤ 19) ∨ 2644 ≤ x) ∧ (nC < 1000000) ∧ (nE < 1000000) ∧ (nS < 1000000)
theorem SQ.gY {h : mh_H} {Y C E TT UU SC SP nC nE nS : Nat} (q : SQ h Y C E TT UU SC SP nC nE nS) : mg h Y 7 := q.1
theorem SQ.r0 {h : mh_H} {Y C E TT UU SC SP nC nE nS : Nat} (q : SQ h Y C E TT UU SC SP nC nE nS) : mh_r h Y 0 = some C := q.2.1
theorem SQ.r2 {h : mh_H} {Y C E TT UU SC SP nC nE nS : Nat} (q : SQ h Y C E TT UU SC SP nC nE nS) : mh_r h Y 2 = some E := q.2.2.1
theorem SQ.r3 {h : mh_H} {Y C E TT UU SC SP nC nE nS : Nat} (q : SQ h Y C E TT UU SC SP nC nE nS) : mh_r h Y 3 = some TT := q.2.2.2.1
theorem SQ.r4 {h : mh_H} {Y C E TT UU SC SP nC nE nS : Nat} (q : SQ h Y C E TT UU SC SP nC nE nS) : mh_r h Y 4 = some UU := q.2.2.2.2.1
theorem SQ.r6 {h : mh_H} {Y C E TT UU SC SP nC nE nS : Nat} (q : SQ h Y C E TT UU SC SP nC nE nS) : mh_r h Y 6 = some SC := q.2.2.2.2.2.1
theorem SQ.r7 {h : mh_H} {Y C E TT UU SC SP nC nE nS : Nat} (q : SQ h Y C E TT UU SC SP nC nE nS) : mh_r h Y 7 = some SP := q.2.2.2.2.2.2.1
theorem SQ.gC {h : mh_H} {Y C E TT UU SC SP nC nE nS : Nat} (q : SQ h Y C E TT UU SC SP nC nE nS) : mg h C 100 := q.2.2.2.2.2.2.2.1
theorem SQ.gE {h : mh_H} {Y C E TT UU SC SP nC nE nS : Nat} (q : SQ h Y C E TT UU SC SP nC nE nS) : mg h E 100 := q.2.2.2.2.2.2.2.2.1
theorem SQ.gT {h : mh_H} {Y C E TT UU SC SP nC nE nS : Nat} (q : SQ h Y C E TT UU SC SP nC nE nS) : mg h TT 100 := q.2.2.2.2.2.2.2.2.2.1
theorem SQ.gU {h : mh_H} {Y C E TT UU SC SP nC nE nS : Nat} (q : SQ h Y C E TT UU SC SP nC nE nS) : mg h UU 100 := q.2.2.2.2.2.2.2.2.2.2.1
theorem SQ.g6 {h : mh_H} {Y C E TT UU SC SP nC nE nS : Nat} (q : SQ h Y C E TT UU SC SP nC nE nS) : mg h SC 100 := q.2.2.2.2.2.2.2.2.2.2.2.1
theorem SQ.g7 {h : mh_H} {Y C E TT UU SC SP nC nE nS : Nat} (q : SQ h Y C E TT UU SC SP nC nE nS) : mg h SP 100 := q.2.2.2.2.2.2.2.2.2.2.2.2.1
theorem SQ.lC {h : mh_H} {Y C E TT UU SC SP nC nE nS : Nat} (q : SQ h Y C E TT UU SC SP nC nE nS) : mh_l h C = nC := q.2.2.2.2.2.2.2.2.2.2.2.2.2.1
theorem SQ.lE {h : mh_H} {Y C E TT UU SC SP nC nE nS : Nat} (q : SQ h Y C E TT UU SC SP nC nE nS) : mh_l h E = nE := q.2.2.2.2.2.2.2.2.2.2.2.2.2.2.1
theorem SQ.lT {h : mh_H} {Y C E TT UU SC SP nC nE nS : Nat} (q : SQ h Y C E TT UU SC SP nC nE nS) : mh_l h TT = nE := q.2.2.2.2.2.2.2.2.2.2.2.2.2.2.2.1
theorem SQ.lU {h : mh_H} {Y C E TT UU SC SP nC nE nS : Nat} (q : SQ h Y C E TT UU SC SP nC nE nS) : mh_l h UU = nE := q.2.2.2.2.2.2.2.2.2.2.2.2.2.2.2.2.1
theorem SQ.l6 {h : mh_H} {Y C E TT UU SC SP nC nE nS : Nat} (q : SQ h Y C E TT UU SC SP nC nE nS) : mh_l h SC = nS := q.2.2.2.2.2.2.2.2.2.2.2.2.2.2.2.2.2.1
theorem SQ.l7 {h : mh_H} {Y C E TT UU SC SP nC nE nS : Nat} (q : SQ h Y C E TT UU SC SP nC nE nS) : mh_l h SP = nS := q.2.2.2.2.2.2.2.2.2.2.2.2.2.2.2.2.2.2.1
theorem SQ.n {h : mh_H} {Y C E TT UU SC SP nC nE nS : Nat} (q : SQ h Y C E TT UU SC SP nC nE nS) : ∀ x, x = Y ∨ x = C ∨ x = E ∨ x = TT ∨ x = UU ∨ x = SC ∨ x = SP → (9 ≤ x ∧ x ≤ 19) ∨ 2644 ≤ x := q.2.2.2.2.2.2.2.2.2.2.2.2.2.2.2.2.2.2.2.1
theorem SQ.bC {h : mh_H} {Y C E TT UU SC SP nC nE nS : Nat} (q : SQ h Y C E TT UU SC SP nC nE nS) : nC < 1000000 := q.2.2.2.2.2.2.2.2.2.2.2.2.2.2.2.2.2.2.2.2.1
theorem SQ.bE {h : mh_H} {Y C E TT UU SC SP nC nE nS : Nat} (q : SQ h Y C E TT UU SC SP nC nE nS) : nE < 1000000 := q.2.2.2.2.2.2.2.2.2.2.2.2.2.2.2.2.2.2.2.2.2.1
theorem SQ.bS {h : mh_H} {Y C E TT UU SC SP nC nE nS : Nat} (q : SQ h Y C E TT UU SC SP nC nE nS) : nS < 1000000 := q.2.2.2.2.2.2.2.2.2.2.2.2.2.2.2.2.2.2.2.2.2.2
/-- all that stands while a statement is looked at: the source, the State X by which ranges are found -/
abbrev RG (h : mh_H) (P R lP X Y C E TT UU SC SP nC nE nS nb na : Nat) (A : ab) : Prop := (CF h) ∧ (CS h) ∧ (CP h P R lP) ∧ (SQ h Y C E TT UU SC SP nC nE nS) ∧ (mh_r h 35 0 = some Y) ∧ (mh_r h 35 1 = some X) ∧ (cs h X) ∧ (RS h X (some A)) ∧ (ab_T A) ∧ (mh_i h 35 2 = Int32.ofNat nb) ∧ (mh_i h 35 3 = Int32.ofNat na) ∧ (mh_r h 2 1 = some Y)
theorem RG.F {h : mh_H} {P R lP X Y C E TT UU SC SP nC nE nS nb na : Nat} {A : ab} (q : RG h P R lP X Y C E TT UU SC SP nC nE nS nb na A) : CF h := q.1
theorem RG.S {h : mh_H} {P R lP X Y C E TT UU SC SP nC nE nS nb na : Nat} {A : ab} (q : RG h P R lP X Y C E TT UU SC SP nC nE nS nb na A) : CS h := q.2.1
theorem RG.p {h : mh_H} {P R lP X Y C E TT UU SC SP nC nE nS nb na : Nat} {A : ab} (q : RG h P R lP X Y C E TT UU SC SP nC nE nS nb na A) : CP h P R lP := q.2.2.1
theorem RG.q {h : mh_H} {P R lP X Y C E TT UU SC SP nC nE nS nb na : Nat} {A : ab} (q : RG h P R lP X Y C E TT UU SC SP nC nE nS nb na A) : SQ h Y C E TT UU SC SP nC nE nS := q.2.2.2.1
theorem RG.r0 {h : mh_H} {P R lP X Y C E TT UU SC SP nC nE nS nb na : Nat} {A : ab} (q : RG h P R lP X Y C E TT UU SC SP nC nE nS nb na A) : mh_r h 35 0 = some Y := q.2.2.2.2.1
theorem RG.r1 {h : mh_H} {P R lP X Y C E TT UU SC SP nC nE nS nb na : Nat} {A : ab} (q : RG h P R lP X Y C E TT UU SC SP nC nE nS nb na A) : mh_r h 35 1 = some X := q.2.2.2.2.2.1
theorem RG.x {h : mh_H} {P R lP X Y C E TT UU SC SP nC nE nS nb na : Nat} {A : ab} (q : RG h P R lP X Y C E TT UU SC SP nC nE nS nb na A) : cs h X := q.2.2.2.2.2.2.1
theorem RG.k {h : mh_H} {P R lP X Y C E TT UU SC SP nC nE nS nb na : Nat} {A : ab} (q : RG h P R lP X Y C E TT UU SC SP nC nE nS nb na A) : RS h X (some A) := q.2.2.2.2.2.2.2.1
theorem RG.T {h : mh_H} {P R lP X Y C E TT UU SC SP nC nE nS nb na : Nat} {A : ab} (q : RG h P R lP X Y C E TT UU SC SP nC nE nS nb na A) : ab_T A := q.2.2.2.2.2.2.2.2.1
theorem RG.f2 {h : mh_H} {P R lP X Y C E TT UU SC SP nC nE nS nb na : Nat} {A : ab} (q : RG h P R lP X Y C E TT UU SC SP nC nE nS nb na A) : mh_i h 35 2 = Int32.ofNat nb := q.2.2.2.2.2.2.2.2.2.1
theorem RG.f3 {h : mh_H} {P R lP X Y C E TT UU SC SP nC nE nS nb na : Nat} {A : ab} (q : RG h P R lP X Y C E TT UU SC SP nC nE nS nb na A) : mh_i h 35 3 = Int32.ofNat na := q.2.2.2.2.2.2.2.2.2.2.1
theorem RG.y {h : mh_H} {P R lP X Y C E TT UU SC SP nC nE nS nb na : Nat} {A : ab} (q : RG h P R lP X Y C E TT UU SC SP nC nE nS nb na A) : mh_r h 2 1 = some Y := q.2.2.2.2.2.2.2.2.2.2.2
/-- a SUM of the source -/
abbrev SU (h : mh_H) (C E TT UU SC SP nC nE nS lP nb na : Nat) (sN : Int → Prop) (en : Int → Nat) (A : ab) (t : tr) (tu : Bool) (sum c0 p0 : Nat) : Prop := (sum + 1 < nS) ∧ (mh_i h SC sum = Int32.ofNat c0) ∧ (mh_i h SC (sum + 1) = Int32.ofNat (c0 + cl t false)) ∧ (mh_i h SP sum = Int32.ofNat p0) ∧ (mh_i h SP (sum + 1) = Int32.ofNat (p0 + pn t false)) ∧ (cd en nb na A.rm (mh_i h C) t false c0) ∧ (wS sN en A t false) ∧ (pz t false) ∧ (pn t false ≤ 6000) ∧ (pe (mh_i h E) t false p0 c0) ∧ (ptr nb (fun i => mh_i h TT (p0 + i)) (fun i => mh_i h UU (p0 + i)) (pt en A t false tu)) ∧ (3 * (c0 + cl t false) ≤ nC) ∧ (p0 + pn t false ≤ nE) ∧ (p0 + pn t false ≤ lP) ∧ (sh t false ≤ 124)
theorem SU.s {h : mh_H} {C E TT UU SC SP nC nE nS lP nb na : Nat} {sN : Int → Prop} {en : Int → Nat} {A : ab} {t : tr} {tu : Bool} {sum c0 p0 : Nat} (q : SU h C E TT UU SC SP nC nE nS lP nb na sN en A t tu sum c0 p0) : sum + 1 < nS := q.1
theorem SU.c0 {h : mh_H} {C E TT UU SC SP nC nE nS lP nb na : Nat} {sN : Int → Prop} {en : Int → Nat} {A : ab} {t : tr} {tu : Bool} {sum c0 p0 : Nat} (q : SU h C E TT UU SC SP nC nE nS lP nb na sN en A t tu sum c0 p0) : mh_i h SC sum = Int32.ofNat c0 := q.2.1
theorem SU.c1 {h : mh_H} {C E TT UU SC SP nC nE nS lP nb na : Nat} {sN : Int → Prop} {en : Int → Nat} {A : ab} {t : tr} {tu : Bool} {sum c0 p0 : Nat} (q : SU h C E TT UU SC SP nC nE nS lP nb na sN en A t tu sum c0 p0) : mh_i h SC (sum + 1) = Int32.ofNat (c0 + cl t false) := q.2.2.1
theorem SU.p0 {h : mh_H} {C E TT UU SC SP nC nE nS lP nb na : Nat} {sN : Int → Prop} {en : Int → Nat} {A : ab} {t : tr} {tu : Bool} {sum c0 p0 : Nat} (q : SU h C E TT UU SC SP nC nE nS lP nb na sN en A t tu sum c0 p0) : mh_i h SP sum = Int32.ofNat p0 := q.2.2.2.1
theorem SU.p1 {h : mh_H} {C E TT UU SC SP nC nE nS lP nb na : Nat} {sN : Int → Prop} {en : Int → Nat} {A : ab} {t : tr} {tu : Bool} {sum c0 p0 : Nat} (q : SU h C E TT UU SC SP nC nE nS lP nb na sN en A t tu sum c0 p0) : mh_i h SP (sum + 1) = Int32.ofNat (p0 + pn t false) := q.2.2.2.2.1
theorem SU.c {h : mh_H} {C E TT UU SC SP nC nE nS lP nb na : Nat} {sN : Int → Prop} {en : Int → Nat} {A : ab} {t : tr} {tu : Bool} {sum c0 p0 : Nat} (q : SU h C E TT UU SC SP nC nE nS lP nb na sN en A t tu sum c0 p0) : cd en nb na A.rm (mh_i h C) t false c0 := q.2.2.2.2.2.1
theorem SU.w {h : mh_H} {C E TT UU SC SP nC nE nS lP nb na : Nat} {sN : Int → Prop} {en : Int → Nat} {A : ab} {t : tr} {tu : Bool} {sum c0 p0 : Nat} (q : SU h C E TT UU SC SP nC nE nS lP nb na sN en A t tu sum c0 p0) : wS sN en A t false := q.2.2.2.2.2.2.1
theorem SU.z {h : mh_H} {C E TT UU SC SP nC nE nS lP nb na : Nat} {sN : Int → Prop} {en : Int → Nat} {A : ab} {t : tr} {tu : Bool} {sum c0 p0 : Nat} (q : SU h C E TT UU SC SP nC nE nS lP nb na sN en A t tu sum c0 p0) : pz t false := q.2.2.2.2.2.2.2.1
theorem SU.m {h : mh_H} {C E TT UU SC SP nC nE nS lP nb na : Nat} {sN : Int → Prop} {en : Int → Nat} {A : ab} {t : tr} {tu : Bool} {sum c0 p0 : Nat} (q : SU h C E TT UU SC SP nC nE nS lP nb na sN en A t tu sum c0 p0) : pn t false ≤ 6000 := q.2.2.2.2.2.2.2.2.1
theorem SU.e {h : mh_H} {C E TT UU SC SP nC nE nS lP nb na : Nat} {sN : Int → Prop} {en : Int → Nat} {A : ab} {t : tr} {tu : Bool} {sum c0 p0 : Nat} (q : SU h C E TT UU SC SP nC nE nS lP nb na sN en A t tu sum c0 p0) : pe (mh_i h E) t false p0 c0 := q.2.2.2.2.2.2.2.2.2.1
theorem SU.u {h : mh_H} {C E TT UU SC SP nC nE nS lP nb na : Nat} {sN : Int → Prop} {en : Int → Nat} {A : ab} {t : tr} {tu : Bool} {sum c0 p0 : Nat} (q : SU h C E TT UU SC SP nC nE nS lP nb na sN en A t tu sum c0 p0) : ptr nb (fun i => mh_i h TT (p0 + i)) (fun i => mh_i h UU (p0 + i)) (pt en A t false tu) := q.2.2.2.2.2.2.2.2.2.2.1
theorem SU.b1 {h : mh_H} {C E TT UU SC SP nC nE nS lP nb na : Nat} {sN : Int → Prop} {en : Int → Nat} {A : ab} {t : tr} {tu : Bool} {sum c0 p0 : Nat} (q : SU h C E TT UU SC SP nC nE nS lP nb na sN en A t tu sum c0 p0) : 3 * (c0 + cl t false) ≤ nC := q.2.2.2.2.2.2.2.2.2.2.2.1
theorem SU.b3 {h : mh_H} {C E TT UU SC SP nC nE nS lP nb na : Nat} {sN : Int → Prop} {en : Int → Nat} {A : ab} {t : tr} {tu : Bool} {sum c0 p0 : Nat} (q : SU h C E TT UU SC SP nC nE nS lP nb na sN en A t tu sum c0 p0) : p0 + pn t false ≤ nE := q.2.2.2.2.2.2.2.2.2.2.2.2.1
theorem SU.b4 {h : mh_H} {C E TT UU SC SP nC nE nS lP nb na : Nat} {sN : Int → Prop} {en : Int → Nat} {A : ab} {t : tr} {tu : Bool} {sum c0 p0 : Nat} (q : SU h C E TT UU SC SP nC nE nS lP nb na sN en A t tu sum c0 p0) : p0 + pn t false ≤ lP := q.2.2.2.2.2.2.2.2.2.2.2.2.2.1
theorem SU.b6 {h : mh_H} {C E TT UU SC SP nC nE nS lP nb na : Nat} {sN : Int → Prop} {en : Int → Nat} {A : ab} {t : tr} {tu : Bool} {sum c0 p0 : Nat} (q : SU h C E TT UU SC SP nC nE nS lP nb na sN en A t tu sum c0 p0) : sh t false ≤ 124 := q.2.2.2.2.2.2.2.2.2.2.2.2.2.2
def rgW (P R b j : Nat) : Prop := (b = 35 ∧ (j = 4 ∨ j = 8)) ∨ b = 36 ∨ b = 37 ∨ b = 38 ∨ b = P ∨ b = R
section RGs
variable {d : Nat} {h h1 : mh_H} {P R lP X Y C E TT UU SC SP nC nE nS nb na : Nat} {sN : Int → Prop} {en : Int → Nat} {A : ab} {t : tr} {tu : Bool} {sum c0 p0 : Nat}
theorem RG.g (G : RG h P R lP X Y C E TT UU SC SP nC nE nS nb na A) : mg h 35 5 := G.F.g 35 5 19 (by decide +kernel)
theorem cs_so (S : CS h) {o : Nat} (c : cs h o) : so h o ∧ cAd o := by
  obtain ⟨b, j, p, e⟩ := c
  exact S.o b j o p e
theorem RG.re (G : RG h P R lP X Y C E TT UU SC SP nC nE nS nb na A) : RE h 35 36 37 38 P R X Y C E SC SP nC nE nS nb na A := by
  have F := G.F
  have q := G.q
  have nP := G.p.n P (by simp)
  have nR := G.p.n R (by simp)
  have d := G.p.d
  have sP := G.p.s X G.x P (by simp)
  have sR := G.p.s X G.x R (by simp)
  have nC := q.n C (by simp)
  have nE := q.n E (by simp)
  have n6 := q.n SC (by simp)
  have n7 := q.n SP (by simp)
  exact ⟨⟨G.g, G.r1, F.f 35 5 36 (by decide +kernel), F.f 35 6 37 (by decide +kernel), F.f 35 7 38 (by decide +kernel), G.p.r9, G.p.r10, F.g 36 101 124 (by decide +kernel), F.g 37 101 124 (by decide +kernel), F.g 38 100 124 (by decide +kernel), G.p.g9, G.p.g10, F.l 36 101 124 (by decide +kernel), F.l 37 101 124 (by decide +kernel), F.l 38 100 124 (by decide +kernel), by omega, by omega, by omega, by omega, by omega, fun z => d z.symm⟩, ⟨G.r0, q.gY, q.r0, q.r2, q.r6, q.r7, q.gC, q.gE, q.g6, q.g7, q.lC, q.lE, q.l6, q.l7, by omega, by omega, by omega, by omega, q.bC, q.bE, q.bS⟩, fun y hy => ⟨by omega, by omega⟩, G.k, G.T, G.f2, G.f3⟩
theorem fG_rS {al H : Int32} {lw hg : Nat → Int64} {nm : Nat → Int32} {pl ph : Nat → Int64} : fG (rgW P R) h (rS h 35 36 37 38 P R al H lw hg nm pl ph) := by
  refine ⟨rfl, rfl, rfl, rfl, rfl, fun b j hw => ⟨?_, ?_⟩⟩
  · unfold rgW at hw
    rw [rS_i, if_neg (by omega), if_neg (by omega), if_neg (by omega)]
  · unfold rgW at hw
    rw [rS_j, if_neg (by omega), if_neg (by omega), if_neg (by omega), if_neg (by omega)]
theorem SQ_fG {W : Nat → Nat → Prop} (x : fG W h h1) (q : SQ h Y C E TT UU SC SP nC nE nS) : SQ h1 Y C E TT UU SC SP nC nE nS := by
  have r := fG_r x
  have l := fG_l x
  exact ⟨fG_mg x q.gY, by rw [r]; exact q.r0, by rw [r]; exact q.r2, by rw [r]; exact q.r3, by rw [r]; exact q.r4, by rw [r]; exact q.r6, by rw [r]; exact q.r7, fG_mg x q.gC, fG_mg x q.gE, fG_mg x q.gT, fG_mg x q.gU, fG_mg x q.g6, fG_mg x q.g7, by rw [l]; exact q.lC, by rw [l]; exact q.lE, by rw [l]; exact q.lT, by rw [l]; exact q.lU, by rw [l]; exact q.l6, by rw [l]; exact q.l7, q.n, q.bC, q.bE, q.bS⟩
theorem RG_fG {W : Nat → Nat → Prop} (x : fG W h h1) (w : ∀ y, y ≤ 2 → ∀ j, ¬ W (X + y) j) (w2 : ¬ W 35 2) (w3 : ¬ W 35 3) (G : RG h P R lP X Y C E TT UU SC SP nC nE nS nb na A) : RG h1 P R lP X Y C E TT UU SC SP nC nE nS nb na A := by
  have r := fG_r x
  exact ⟨CF_fG x G.F, CS_fG x G.S, CP_fG x G.p, SQ_fG x G.q, by rw [r]; exact G.r0, by rw [r]; exact G.r1, (cs_fG x).mpr G.x, RS_fz (fG_z x) w G.k, G.T, by rw [fG_i x w2]; exact G.f2, by rw [fG_i x w3]; exact G.f3, by rw [r]; exact G.y⟩
theorem SU_fG {W : Nat → Nat → Prop} (x : fG W h h1) (w : ∀ b, b = C ∨ b = E ∨ b = TT ∨ b = UU ∨ b = SC ∨ b = SP → ∀ j, ¬ W b j) (U : SU h C E TT UU SC SP nC nE nS lP nb na sN en A t tu sum c0 p0) : SU h1 C E TT UU SC SP nC nE nS lP nb na sN en A t tu sum c0 p0 := by
  have e : ∀ b, b = C ∨ b = E ∨ b = TT ∨ b = UU ∨ b = SC ∨ b = SP → mh_i h1 b = mh_i h b := fun b hb => funext fun j => fG_i x (w b hb j)
  exact ⟨U.s, by rw [e SC (by simp)]; exact U.c0, by rw [e SC (by simp)]; exact U.c1, by rw [e SP (by simp)]; exact U.p0, by rw [e SP (by simp)]; exact U.p1, by rw [e C (by simp)]; exact U.c, U.w, U.z, U.m, by rw [e E (by simp)]; exact U.e, by rw [e TT (by simp), e UU (by simp)]; exact U.u, U.b1, U.b3, U.b4, U.b6⟩
/-- what the class's ranges are done by, over any heap -/
theorem v_99 (G : RG h P R lP X Y C E TT UU SC SP nC nE nS nb na A) (U : SU h C E TT UU SC SP nC nE nS lP nb na sN en A t tu sum c0 p0) : ∃ h', fG (rgW P R) h h' ∧ mh_i h' 35 4 = mh_i h 35 4 ||| (ev en A t none).2 ∧ ((∃ a b, (ev en A t none).1 = some (a, b) ∧ (mh_j h' 36 0).toInt = a ∧ (mh_j h' 37 0).toInt = b ∧ prt (mh_j h' P) (mh_j h' R) p0 (pt en A t false tu) ∧ (∀ j, (j < p0 ∨ p0 + pn t false ≤ j) → mh_j h' P j = mh_j h P j ∧ mh_j h' R j = mh_j h R j) ∧ ∀ Q, mcall (d + 3) 99 [.ref 35, .int (Int32.ofNat sum)] h Q = Q (some (.int 1)) h') ∨ ((ev en A t none).1 = none ∧ ∀ Q, mcall (d + 3) 99 [.ref 35, .int (Int32.ofNat sum)] h Q = Q (some (.int 0)) h')) := by
  have re := G.re
  have nP := G.p.n P (by simp)
  have nR := G.p.n R (by simp)
  have dd := G.p.d
  have idn : rS h 35 36 37 38 P R (mh_i h 35 4) (mh_i h 35 8) (mh_j h 36) (mh_j h 37) (mh_i h 38) (mh_j h P) (mh_j h R) = h := rS_id (by omega) (by omega) (by omega) (by omega) (by omega) (fun z => dd z.symm)
  have bC := G.q.bC
  have bE := G.q.bE
  have b1 := U.b1
  have b3 := U.b3
  have lPb := G.p.b
  have b4 := U.b4
  have key := q_99 (d := d) (al := mh_i h 35 4) (H0 := mh_i h 35 8) (lw := mh_j h 36) (hg := mh_j h 37) (nm := mh_i h 38) (pl := mh_j h P) (ph := mh_j h R) re G.p.l9 G.p.l10 tu U.s U.c0 U.c1 U.p0 U.p1 U.c U.w U.e b1 (by omega) b3 b4 (by omega) U.b6
  rw [idn] at key
  rcases key with ⟨lw', hg', nm', pl', ph', a, b, e1, e2, e3, e4, e5, e6⟩ | ⟨e1, H', lw', hg', nm', pl', ph', e6⟩
  · refine ⟨_, fG_rS, ?_, Or.inl ⟨a, b, e1, ?_, ?_, ?_, ?_, e6⟩⟩
    · rw [rS_i, if_pos ⟨rfl, rfl⟩]
    · rw [rS_j, if_pos rfl]; exact e2
    · rw [rS_j, if_neg (by omega), if_pos rfl]; exact e3
    · have f1 : mh_j (rS h 35 36 37 38 P R (mh_i h 35 4 ||| (ev en A t none).2) (Int32.ofNat 1) lw' hg' nm' pl' ph') P = pl' := funext fun j => by rw [rS_j, if_neg (by omega), if_neg (by omega), if_pos rfl]
      have f2 : mh_j (rS h 35 36 37 38 P R (mh_i h 35 4 ||| (ev en A t none).2) (Int32.ofNat 1) lw' hg' nm' pl' ph') R = ph' := funext fun j => by rw [rS_j, if_neg (by omega), if_neg (by omega), if_neg (fun z => dd z.symm), if_pos rfl]
      rw [f1, f2]; exact e4
    · intro j hj
      rw [rS_j, if_neg (by omega), if_neg (by omega), if_pos rfl, rS_j, if_neg (by omega), if_neg (by omega), if_neg (fun z => dd z.symm), if_pos rfl]
      exact e5 j hj
  · refine ⟨_, fG_rS, ?_, Or.inr ⟨e1, e6⟩⟩
    rw [rS_i, if_pos ⟨rfl, rfl⟩]
end RGs
