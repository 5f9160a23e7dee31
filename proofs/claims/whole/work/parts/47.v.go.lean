set_option maxRecDepth 100000
/-! the class's machine: a run -/
def gdW (b j : Nat) : Prop := (69 ≤ b ∧ b ≤ 72) ∨ (b = 67 ∧ (j = 3 ∨ j = 4 ∨ j = 5 ∨ j = 9 ∨ j = 10 ∨ j = 12))
theorem gd_md : ∀ b j, mdW b j → gdW b j := fun b j z => by unfold mdW at z; unfold gdW; omega
theorem gdX {h : mh_H} : ∀ b j, gdW b j → aX h b := fun b j z => by unfold gdW at z; unfold aX; omega
/-- what stays through a run -/
def CRI (h : mh_H) (Y C E TT UU SC SP nC nE nS pa : Nat) (G : pgm) (J : pin) (cnt gv : Nat) (kn cl : Nat → Option ab) (fst oth : Nat → Nat) (al : Nat → Int32) (m : Bool) : Prop := (BS h Y C E TT UU SC SP nC nE nS) ∧ (PH h G cnt) ∧ (ICm Y C E TT UU SC SP nC nE nS pa G J cnt h) ∧ (CLH h G cnt cl fst oth) ∧ (∀ q, q < cnt → pv h 54 q (kn q)) ∧ (CSH G cnt kn) ∧ (CSH G cnt cl) ∧ (mh_i h 53 3 = kb m) ∧ (∀ q, q < cnt → mh_i h 55 q = al q) ∧ (mh_i h 67 2 = Int32.ofNat gv ∧ gv ≤ 1000)
theorem CRI.of {h : mh_H} {Y C E TT UU SC SP nC nE nS pa : Nat} {G : pgm} {J : pin} {cnt gv : Nat} {kn cl : Nat → Option ab} {fst oth : Nat → Nat} {al : Nat → Int32} {m : Bool} (q : (BS h Y C E TT UU SC SP nC nE nS) ∧ (PH h G cnt) ∧ (ICm Y C E TT UU SC SP nC nE nS pa G J cnt h) ∧ (CLH h G cnt cl fst oth) ∧ (∀ q, q < cnt → pv h 54 q (kn q)) ∧ (CSH G cnt kn) ∧ (CSH G cnt cl) ∧ (mh_i h 53 3 = kb m) ∧ (∀ q, q < cnt → mh_i h 55 q = al q) ∧ (mh_i h 67 2 = Int32.ofNat gv ∧ gv ≤ 1000)) : CRI h Y C E TT UU SC SP nC nE nS pa G J cnt gv kn cl fst oth al m := q
theorem CRI.B {h : mh_H} {Y C E TT UU SC SP nC nE nS pa : Nat} {G : pgm} {J : pin} {cnt gv : Nat} {kn cl : Nat → Option ab} {fst oth : Nat → Nat} {al : Nat → Int32} {m : Bool} (q : CRI h Y C E TT UU SC SP nC nE nS pa G J cnt gv kn cl fst oth al m) : BS h Y C E TT UU SC SP nC nE nS := q.1
theorem CRI.H {h : mh_H} {Y C E TT UU SC SP nC nE nS pa : Nat} {G : pgm} {J : pin} {cnt gv : Nat} {kn cl : Nat → Option ab} {fst oth : Nat → Nat} {al : Nat → Int32} {m : Bool} (q : CRI h Y C E TT UU SC SP nC nE nS pa G J cnt gv kn cl fst oth al m) : PH h G cnt := q.2.1
theorem CRI.I {h : mh_H} {Y C E TT UU SC SP nC nE nS pa : Nat} {G : pgm} {J : pin} {cnt gv : Nat} {kn cl : Nat → Option ab} {fst oth : Nat → Nat} {al : Nat → Int32} {m : Bool} (q : CRI h Y C E TT UU SC SP nC nE nS pa G J cnt gv kn cl fst oth al m) : ICm Y C E TT UU SC SP nC nE nS pa G J cnt h := q.2.2.1
theorem CRI.L {h : mh_H} {Y C E TT UU SC SP nC nE nS pa : Nat} {G : pgm} {J : pin} {cnt gv : Nat} {kn cl : Nat → Option ab} {fst oth : Nat → Nat} {al : Nat → Int32} {m : Bool} (q : CRI h Y C E TT UU SC SP nC nE nS pa G J cnt gv kn cl fst oth al m) : CLH h G cnt cl fst oth := q.2.2.2.1
theorem CRI.k {h : mh_H} {Y C E TT UU SC SP nC nE nS pa : Nat} {G : pgm} {J : pin} {cnt gv : Nat} {kn cl : Nat → Option ab} {fst oth : Nat → Nat} {al : Nat → Int32} {m : Bool} (q : CRI h Y C E TT UU SC SP nC nE nS pa G J cnt gv kn cl fst oth al m) : ∀ q, q < cnt → pv h 54 q (kn q) := q.2.2.2.2.1
theorem CRI.s {h : mh_H} {Y C E TT UU SC SP nC nE nS pa : Nat} {G : pgm} {J : pin} {cnt gv : Nat} {kn cl : Nat → Option ab} {fst oth : Nat → Nat} {al : Nat → Int32} {m : Bool} (q : CRI h Y C E TT UU SC SP nC nE nS pa G J cnt gv kn cl fst oth al m) : CSH G cnt kn := q.2.2.2.2.2.1
theorem CRI.t {h : mh_H} {Y C E TT UU SC SP nC nE nS pa : Nat} {G : pgm} {J : pin} {cnt gv : Nat} {kn cl : Nat → Option ab} {fst oth : Nat → Nat} {al : Nat → Int32} {m : Bool} (q : CRI h Y C E TT UU SC SP nC nE nS pa G J cnt gv kn cl fst oth al m) : CSH G cnt cl := q.2.2.2.2.2.2.1
theorem CRI.f {h : mh_H} {Y C E TT UU SC SP nC nE nS pa : Nat} {G : pgm} {J : pin} {cnt gv : Nat} {kn cl : Nat → Option ab} {fst oth : Nat → Nat} {al : Nat → Int32} {m : Bool} (q : CRI h Y C E TT UU SC SP nC nE nS pa G J cnt gv kn cl fst oth al m) : mh_i h 53 3 = kb m := q.2.2.2.2.2.2.2.1
theorem CRI.a {h : mh_H} {Y C E TT UU SC SP nC nE nS pa : Nat} {G : pgm} {J : pin} {cnt gv : Nat} {kn cl : Nat → Option ab} {fst oth : Nat → Nat} {al : Nat → Int32} {m : Bool} (q : CRI h Y C E TT UU SC SP nC nE nS pa G J cnt gv kn cl fst oth al m) : ∀ q, q < cnt → mh_i h 55 q = al q := q.2.2.2.2.2.2.2.2.1
theorem CRI.g {h : mh_H} {Y C E TT UU SC SP nC nE nS pa : Nat} {G : pgm} {J : pin} {cnt gv : Nat} {kn cl : Nat → Option ab} {fst oth : Nat → Nat} {al : Nat → Int32} {m : Bool} (q : CRI h Y C E TT UU SC SP nC nE nS pa G J cnt gv kn cl fst oth al m) : mh_i h 67 2 = Int32.ofNat gv ∧ gv ≤ 1000 := q.2.2.2.2.2.2.2.2.2
/-- what follows has no more slots than a step leaves -/
def SHN (G : pgm) (J : pin) (cnt : Nat) (fst oth : Nat → Nat) : Prop := (∀ p, p + 1 < cnt → fst p < cnt ∧ G.n (fst p) ≤ afN (J.c p) (G.n p) (J.t p) ∧ G.a (fst p) ≤ afA (J.c p) (G.a p) ∧ ∀ x, x < G.a (fst p) → G.rm (fst p) x = afR (J.c p) (G.a p) (J.sz p) (G.rm p) x) ∧ (∀ p, p + 1 < cnt → J.c p = 7 → oth p < cnt ∧ G.n (oth p) ≤ G.n p ∧ G.a (oth p) ≤ G.a p ∧ ∀ x, x < G.a (oth p) → G.rm (oth p) x = G.rm p x) ∧ (∀ p, p + 1 < cnt → wT (J.c p) (J.sN p) (J.en p) (A0 (G.n p) (G.a p) (G.rm p)) (J.t p)) ∧ (∀ p, p < cnt → ∀ x, x < G.a p → G.rm p x ≤ 64) ∧ (∀ p, p + 1 < cnt → J.c p = 3 → J.sz p ≤ 64) ∧ (∀ p, p + 1 < cnt → J.c p = 5 → J.x p < G.a p)
theorem SHN.of {G : pgm} {J : pin} {cnt : Nat} {fst oth : Nat → Nat} (q : (∀ p, p + 1 < cnt → fst p < cnt ∧ G.n (fst p) ≤ afN (J.c p) (G.n p) (J.t p) ∧ G.a (fst p) ≤ afA (J.c p) (G.a p) ∧ ∀ x, x < G.a (fst p) → G.rm (fst p) x = afR (J.c p) (G.a p) (J.sz p) (G.rm p) x) ∧ (∀ p, p + 1 < cnt → J.c p = 7 → oth p < cnt ∧ G.n (oth p) ≤ G.n p ∧ G.a (oth p) ≤ G.a p ∧ ∀ x, x < G.a (oth p) → G.rm (oth p) x = G.rm p x) ∧ (∀ p, p + 1 < cnt → wT (J.c p) (J.sN p) (J.en p) (A0 (G.n p) (G.a p) (G.rm p)) (J.t p)) ∧ (∀ p, p < cnt → ∀ x, x < G.a p → G.rm p x ≤ 64) ∧ (∀ p, p + 1 < cnt → J.c p = 3 → J.sz p ≤ 64) ∧ (∀ p, p + 1 < cnt → J.c p = 5 → J.x p < G.a p)) : SHN G J cnt fst oth := q
theorem SHN.f {G : pgm} {J : pin} {cnt : Nat} {fst oth : Nat → Nat} (q : SHN G J cnt fst oth) : ∀ p, p + 1 < cnt → fst p < cnt ∧ G.n (fst p) ≤ afN (J.c p) (G.n p) (J.t p) ∧ G.a (fst p) ≤ afA (J.c p) (G.a p) ∧ ∀ x, x < G.a (fst p) → G.rm (fst p) x = afR (J.c p) (G.a p) (J.sz p) (G.rm p) x := q.1
theorem SHN.o {G : pgm} {J : pin} {cnt : Nat} {fst oth : Nat → Nat} (q : SHN G J cnt fst oth) : ∀ p, p + 1 < cnt → J.c p = 7 → oth p < cnt ∧ G.n (oth p) ≤ G.n p ∧ G.a (oth p) ≤ G.a p ∧ ∀ x, x < G.a (oth p) → G.rm (oth p) x = G.rm p x := q.2.1
theorem SHN.w {G : pgm} {J : pin} {cnt : Nat} {fst oth : Nat → Nat} (q : SHN G J cnt fst oth) : ∀ p, p + 1 < cnt → wT (J.c p) (J.sN p) (J.en p) (A0 (G.n p) (G.a p) (G.rm p)) (J.t p) := q.2.2.1
theorem SHN.r {G : pgm} {J : pin} {cnt : Nat} {fst oth : Nat → Nat} (q : SHN G J cnt fst oth) : ∀ p, p < cnt → ∀ x, x < G.a p → G.rm p x ≤ 64 := q.2.2.2.1
theorem SHN.z {G : pgm} {J : pin} {cnt : Nat} {fst oth : Nat → Nat} (q : SHN G J cnt fst oth) : ∀ p, p + 1 < cnt → J.c p = 3 → J.sz p ≤ 64 := q.2.2.2.2.1
theorem SHN.x {G : pgm} {J : pin} {cnt : Nat} {fst oth : Nat → Nat} (q : SHN G J cnt fst oth) : ∀ p, p + 1 < cnt → J.c p = 5 → J.x p < G.a p := q.2.2.2.2.2
/-- one step of a program -/
def sJ (G : pgm) (J : pin) (N : Nat → Int32) (gv : Nat) (p : Nat) (V P : Nat → Int32) (c : Nat) : so5 := s_st (J.en p) (J.t p) (J.x p) (J.tk p) (G.n p) (G.a p) (G.rm p) N gv V P c (J.c p)
/-- the class at a pure state of the run -/
def CRS (h : mh_H) (G : pgm) (gv : Nat) (s : rst) : Prop := (mh_i h 67 4 = Int32.ofNat s.p) ∧ (mh_i h 67 3 = Int32.ofNat (min s.c gv)) ∧ (mh_i h 67 10 = s.w) ∧ (mh_i h 67 9 = s.o) ∧ (mh_i h 67 5 = Int32.ofNat s.d) ∧ (AG (G.n s.p) (G.a s.p) (G.rm s.p) (mh_i h 69) s.V (mh_i h 70) s.P) ∧ (∀ x, x < G.a s.p → mh_i h 71 x = Int32.ofNat (G.rm s.p x))
theorem CRS.of {h : mh_H} {G : pgm} {gv : Nat} {s : rst} (q : (mh_i h 67 4 = Int32.ofNat s.p) ∧ (mh_i h 67 3 = Int32.ofNat (min s.c gv)) ∧ (mh_i h 67 10 = s.w) ∧ (mh_i h 67 9 = s.o) ∧ (mh_i h 67 5 = Int32.ofNat s.d) ∧ (AG (G.n s.p) (G.a s.p) (G.rm s.p) (mh_i h 69) s.V (mh_i h 70) s.P) ∧ (∀ x, x < G.a s.p → mh_i h 71 x = Int32.ofNat (G.rm s.p x))) : CRS h G gv s := q
theorem CRS.p {h : mh_H} {G : pgm} {gv : Nat} {s : rst} (q : CRS h G gv s) : mh_i h 67 4 = Int32.ofNat s.p := q.1
theorem CRS.c {h : mh_H} {G : pgm} {gv : Nat} {s : rst} (q : CRS h G gv s) : mh_i h 67 3 = Int32.ofNat (min s.c gv) := q.2.1
theorem CRS.w {h : mh_H} {G : pgm} {gv : Nat} {s : rst} (q : CRS h G gv s) : mh_i h 67 10 = s.w := q.2.2.1
theorem CRS.o {h : mh_H} {G : pgm} {gv : Nat} {s : rst} (q : CRS h G gv s) : mh_i h 67 9 = s.o := q.2.2.2.1
theorem CRS.d {h : mh_H} {G : pgm} {gv : Nat} {s : rst} (q : CRS h G gv s) : mh_i h 67 5 = Int32.ofNat s.d := q.2.2.2.2.1
theorem CRS.g {h : mh_H} {G : pgm} {gv : Nat} {s : rst} (q : CRS h G gv s) : AG (G.n s.p) (G.a s.p) (G.rm s.p) (mh_i h 69) s.V (mh_i h 70) s.P := q.2.2.2.2.2.1
theorem CRS.z {h : mh_H} {G : pgm} {gv : Nat} {s : rst} (q : CRS h G gv s) : ∀ x, x < G.a s.p → mh_i h 71 x = Int32.ofNat (G.rm s.p x) := q.2.2.2.2.2.2
section GOs
variable {d : Nat} {h h1 : mh_H} {Y C E TT UU SC SP nC nE nS pa p gv cnt : Nat} {G : pgm} {J : pin} {kn cl : Nat → Option ab} {fst oth : Nat → Nat} {al : Nat → Int32} {m tru : Bool}
theorem gd_i (f : fG gdW h h1) {b : Nat} (hb : b < 67 ∨ 72 < b ∨ b = 68) : mh_i h1 b = mh_i h b := funext fun j => (f.2.2.2.2.2 b j (by unfold gdW; omega)).1
theorem MPC_G (f : fG gdW h h1) {nb na St : Nat} {sN : Int → Prop} {en : Int → Nat} {A : ab} {t : tr} (hC : C < 67 ∨ 72 < C) (hS : SC < 67 ∨ 72 < SC) (nSt : St < 67 ∨ 72 < St) (w : MPC h Y C SC nC nS nb na St sN en A t) : MPC h1 Y C SC nC nS nb na St sN en A t := by
  obtain ⟨k0, ce, KA, WA, nK, M, b1, b2, w⟩ := w
  have eC := gd_i f (b := C) (by omega)
  have eS := gd_i f (b := SC) (by omega)
  have eK := gd_i f (b := KA) (by omega)
  have eW := gd_i f (b := WA) (by omega)
  have eT := gd_i f (b := St) (by omega)
  have rm : relM h1 C SC nC nS nb na sN en A = relM h C SC nC nS nb na sN en A := by
    funext WW cs k
    unfold relM mS1
    rw [eC, eS]
  refine ⟨k0, ce, KA, WA, nK, MC.of ⟨by rw [fG_me f]; exact M.g, by rw [eT]; exact M.s12, by rw [eT]; exact M.s13, by rw [f.2.2.1]; exact M.r9, by rw [fG_me f]; exact M.gK, by rw [f.2.1]; exact M.lK, by rw [f.2.2.1]; exact M.r10, by rw [fG_me f]; exact M.gW, by rw [f.2.1]; exact M.lW, M.b, M.ne⟩, b1, b2, ?_⟩
  rw [eK, eW, rm]
  exact w
theorem CRI_G (f : fG gdW h h1) (R : CRI h Y C E TT UU SC SP nC nE nS pa G J cnt gv kn cl fst oth al m) : CRI h1 Y C E TT UU SC SP nC nE nS pa G J cnt gv kn cl fst oth al m := by
  obtain ⟨z, B1⟩ := zS_G R.B f gdX
  have cb := R.H.b
  have qn := R.B.q.n
  have nC' := qn C (by simp)
  have nS' := qn SC (by simp)
  have I1 := IC_pX R.B z gdX (ICm_IC R.I)
  refine CRI.of ⟨B1, PH_sX R.B z gdX R.H, ⟨I1.1, fun p hp => ?_⟩, CLH_s R.B z (fun _ _ y => y.elim) gdX R.L, fun q hq => z.pp 54 q _ (by unfold isPl; omega) (fun y => y) (R.k q hq), R.s, R.t, by rw [gd_i f (by omega)]; exact R.f, fun q hq => by rw [gd_i f (by omega)]; exact R.a q hq, ⟨by rw [(f.2.2.2.2.2 67 2 (by unfold gdW; omega)).1]; exact R.g.1, R.g.2⟩⟩
  obtain ⟨St, nb, na, nm, q1, q2, q3, q4, q5, q6, q7, q8⟩ := R.I.2 p hp
  obtain ⟨n1, n2⟩ := st_neX R.B q2
  have nSt : St < 67 ∨ 72 < St := by
    unfold aX at n2
    have k67 := (R.B.F.g 67 2 13 (by decide +kernel)).1
    have := q2.1
    omega
  refine ⟨St, nb, na, nm, by rw [f.2.2.1]; exact q1, by rw [fG_me f]; exact q2, by rw [gd_i f (by omega)]; exact q3, by rw [gd_i f (by omega)]; exact q4, by rw [gd_i f (by omega)]; exact q5, q6, PTC_zX R.B z gdX q2 q7, fun y => MPC_G f (by omega) (by omega) nSt (q8 y)⟩
theorem v_28l (S : SHN G J cnt fst oth) {N : Nat → Int32} : ∀ k stp (h : mh_H) (s : rst), stp + k < 1000000 → s.d + k < 1000000 → CRI h Y C E TT UU SC SP nC nE nS pa G J cnt gv kn cl fst oth al m → CRS h G gv s → s.p < cnt → mh_i h 68 = N → ∃ h', fG gdW h h' ∧ CRS h' G gv (rgo (sJ G J N gv) fst oth m tru kn cl al (cnt - 1) k s) ∧ (rgo (sJ G J N gv) fst oth m tru kn cl al (cnt - 1) k s).p < cnt ∧ ∀ Q, mw (d + 6) 28 Q 29 [some (.ref 67), some (.int (Int32.ofNat (stp + k))), some (.ref 53), some (if tru = true then .ref 73 else .null), some (.int (Int32.ofNat (cnt - 1))), some (.int (Int32.ofNat stp))] [] h = Q (some (.int (rAn (cnt - 1) (rgo (sJ G J N gv) fst oth m tru kn cl al (cnt - 1) k s)))) h' := by
  -- its end
  have FIN : ∀ k stp (h : mh_H) (s : rst), CRI h Y C E TT UU SC SP nC nE nS pa G J cnt gv kn cl fst oth al m → CRS h G gv s → s.p < cnt → stp + k < 1000000 → (k = 0 ∨ s.p = cnt - 1 ∨ ¬ s.w = 0) → ∀ Q, mw (d + 6) 28 Q 29 [some (.ref 67), some (.int (Int32.ofNat (stp + k))), some (.ref 53), some (if tru = true then .ref 73 else .null), some (.int (Int32.ofNat (cnt - 1))), some (.int (Int32.ofNat stp))] [] h = Q (some (.int (rAn (cnt - 1) s))) h := fun k stp h s R T hp hb e Q => by
    have cb := R.H.b
    have g := R.B.F.g 67 2 13 (by decide +kernel)
    have p4 := T.p
    have w10 := T.w
    have le : (stp + k ≤ stp) = (k = 0) := propext ⟨fun z => by omega, fun z => by omega⟩
    have eq : (Int32.ofNat s.p = Int32.ofNat (cnt - 1)) = (s.p = cnt - 1) := nn_eq (by omega) (by omega)
    unfold rAn
    clear R T
    rcases Classical.propComplete (s.w = 0) with cw | cw <;> rcases Classical.propComplete (s.p = cnt - 1) with cp | cp <;> rcases Classical.propComplete (k = 0) with ck | ck
    all_goals first
      | exact absurd e (fun z => by rcases z with z | z | z; exact of_eq_false ck z; exact of_eq_false cp z; exact z (of_eq_true cw))
      | (simp (disch := omega) only [s_28_0, s_28_1, s_28_4, s_28_5, s_28_6, s_28_9, s_28_10, s_28_13, s_28_16, s_28_17, s_28_18, s_28_20, s_28_21, s_28_22, s_28_23, s_28_26, s_28_27, s_28_29, s_28_31, s_28_32, s_28_35, s_28_36, s_28_39, s_28_41, s_28_44, s_28_45, s_28_48, s_28_51, s_28_52, s_28_53, s_28_56, s_28_57, s_28_58, s_28_61, s_28_62, s_28_63, s_28_66, s_28_69, s_28_70, s_28_73, s_28_74, s_28_77, s_28_78, s_28_81, s_28_84, s_28_85, s_28_86, s_28_87, s_28_90, s_28_93, s_28_94, s_28_97, s_28_100, s_28_101, s_28_104, s_28_105, s_28_108, s_28_108x, s_28_109, s_28_110, s_28_113, s_28_114, s_28_117, s_28_118, s_28_119, s_28_122, s_28_123, s_28_124, s_28_127, s_28_130, s_28_133, s_28_134, s_28_137, s_28_140, s_28_141, s_28_144, s_28_145, s_28_146, s_28_149, s_28_151, s_28_154, s_28_155, s_28_158, s_28_160, e_28, mv_i_1, mv_l_1, mv_a_1, mv_a_2, mv_a_3, mk2_n, mk2_i, mk2_l, mk2_a, mk2_u, mk2_x, mB_T, mB_F, mS_cons, mS_nil, mSB_T, mSB_F, mca_nil, mca_i, mca_l, mca_r, mca_u, mca_x, mcat_i, mcat_l, mcat_r, mcat_u, mcat_x, mK_some, mK_none, va_rf_s, va_rf_n, lgc_eq, lgc_lt, lgc_gt, lgc_ge, lgc_le, mrd_104, mrd_105, mrd_106, mrd_107, true_and, and_true, and_self, false_and, and_false, true_or, or_true, false_or, or_false, not_true_eq_false, not_false_eq_true, mgb, mga, mgr, mN, reduceCtorEq, ↓reduceIte, eq_self, ge_iff_le, gt_iff_lt, hk_si, hk_sj, hk_sr, hl_si, hl_sj, hl_sr, hn_si, hn_sj, hn_sr, hs_si, hs_sj, hs_sr, hi_sj, hi_sr, hj_si, hj_sr, hr_si, hr_sj, hi_si, hj_sj, hr_sr, mg_si, mg_sj, mg_sr, Nat.reduceAdd, Nat.reduceMul, Nat.reduceSub, Nat.reduceLT, Nat.reduceGT, Nat.reduceEqDiff, Nat.reduceLeDiff, Nat.left_eq_add, Nat.add_eq_left, Nat.reduceMod, Nat.reduceDiv, Nat.succ_ne_self, g, p4, w10, nn_le, le, ck, eq, cp, cw])
  intro k
  induction k with
  | zero =>
    intro stp h s hb hd R T hp hN
    exact ⟨h, fG_id, T, hp, FIN 0 stp h s R T hp hb (Or.inl rfl)⟩
  | succ k ih =>
    intro stp h s hb hd R T hp hN
    have e : rgo (sJ G J N gv) fst oth m tru kn cl al (cnt - 1) (k + 1) s = if s.p = cnt - 1 ∨ ¬ s.w = 0 then s else if (sJ G J N gv s.p s.V s.P s.c).w = 0 then rgo (sJ G J N gv) fst oth m tru kn cl al (cnt - 1) k ((if (sJ G J N gv s.p s.V s.P s.c).b = true then fst s.p else oth s.p), (sJ G J N gv s.p s.V s.P s.c).c, (sJ G J N gv s.p s.V s.P s.c).V, (sJ G J N gv s.p s.V s.P s.c).P, s.o + ar m tru (kn (if (sJ G J N gv s.p s.V s.P s.c).b = true then fst s.p else oth s.p)) (cl (if (sJ G J N gv s.p s.V s.P s.c).b = true then fst s.p else oth s.p)) (sJ G J N gv s.p s.V s.P s.c).V (sJ G J N gv s.p s.V s.P s.c).P, s.d + 1, 0) else (s.p, (sJ G J N gv s.p s.V s.P s.c).c, (sJ G J N gv s.p s.V s.P s.c).V, (sJ G J N gv s.p s.V s.P s.c).P, s.o + (if m = true ∨ ¬ (al s.p &&& (sJ G J N gv s.p s.V s.P s.c).w) = 0 then 0 else 1), s.d + 1, (sJ G J N gv s.p s.V s.P s.c).w) := rfl
    rw [e]
    by_cases c1 : s.p = cnt - 1 ∨ ¬ s.w = 0
    · rw [if_pos c1]
      exact ⟨h, fG_id, T, hp, FIN (k + 1) stp h s R T hp hb (Or.inr c1)⟩
    rw [if_neg c1]
    have cb := R.H.b
    have hp1 : s.p + 1 < cnt := by omega
    have w0 : s.w = 0 := Classical.byContradiction (fun z => c1 (Or.inr z))
    -- done is counted
    have f0 : fG gdW h (mh_si h 67 5 (Int32.ofNat (s.d + 1))) := fG_si (Or.inr ⟨rfl, by omega⟩)
    have R0 := CRI_G f0 R
    obtain ⟨h0, eh0⟩ : ∃ h0, mh_si h 67 5 (Int32.ofNat (s.d + 1)) = h0 := ⟨_, rfl⟩
    rw [eh0] at f0 R0
    have i0 : ∀ b j, ¬ (b = 67 ∧ j = 5) → mh_i h0 b j = mh_i h b j := fun b j z => by rw [← eh0, hi_si, if_neg z]
    have i05 : mh_i h0 67 5 = Int32.ofNat (s.d + 1) := by rw [← eh0, hi_si, if_pos ⟨rfl, rfl⟩]
    have N0 : mh_i h0 68 = N := by funext j; rw [i0 _ _ (by omega), hN]
    obtain ⟨St, nb2, nm2, na2, nx2, m1, m2, -⟩ := R0.H.s s.p hp
    obtain ⟨l27, hf⟩ := R0.L.f s.p hp1
    obtain ⟨h1, q1, run1⟩ := v_30 (d := d) (p := s.p) (c := s.c) (f1 := fst s.p) (o1 := oth s.p) R0.B R0.H R0.I hp1 m1 (by rw [i0 _ _ (by omega)]; exact T.p) R0.g.1 R0.g.2 (by rw [i0 _ _ (by omega), T.w, w0]) (by rw [i0 _ _ (by omega)]; exact T.c) l27 (fun c7 => by
      obtain ⟨St', nb', na', nm', -, -, -, -, -, kk, -⟩ := R0.I.2 s.p hp1
      exact (R0.L.o s.p hp1 (by unfold kdp at kk; omega)).1) (S.r s.p hp) (S.z s.p hp1) (fun x hx => by rw [i0 _ _ (by omega)]; exact T.z x hx)
    rw [N0] at q1
    have Vz : mh_i h0 69 = mh_i h 69 := funext fun j => i0 _ _ (by omega)
    have Pz : mh_i h0 70 = mh_i h 70 := funext fun j => i0 _ _ (by omega)
    rw [Vz, Pz] at q1
    have cR : 1 ≤ J.c s.p ∧ J.c s.p ≤ 9 := by
      obtain ⟨St', nb', na', nm', -, -, -, -, -, kk, -⟩ := R0.I.2 s.p hp1
      unfold kdp at kk
      omega
    have SEq : SE (afN (J.c s.p) (G.n s.p) (J.t s.p)) (afA (J.c s.p) (G.a s.p)) (afR (J.c s.p) (G.a s.p) (J.sz s.p) (G.rm s.p)) (s_st (J.en s.p) (J.t s.p) (J.x s.p) (J.tk s.p) (G.n s.p) (G.a s.p) (G.rm s.p) N gv (mh_i h 69) (mh_i h 70) s.c (J.c s.p)) (sJ G J N gv s.p s.V s.P s.c) := s_st_ag (A := A0 (G.n s.p) (G.a s.p) (G.rm s.p)) (sN := J.sN s.p) T.g (S.w s.p hp1) (S.r s.p hp) cR (S.x s.p hp1) (S.z s.p hp1)
    obtain ⟨z1, z2, z3, z4⟩ := SEq
    obtain ⟨q, eq⟩ : ∃ q, sJ G J N gv s.p s.V s.P s.c = q := ⟨_, rfl⟩
    rw [eq] at z1 z2 z3 z4 ⊢
    have f1 := fG_w q1.f gd_md
    have R1 := CRI_G f1 R0
    have i1 : ∀ b j, ¬ mdW b j → mh_i h1 b j = mh_i h0 b j := fun b j z => (q1.f.2.2.2.2.2 b j z).1
    have g := R.B.F.g 67 2 13 (by decide +kernel)
    have r0 := R.B.F.f 67 0 2 (by decide +kernel)
    have g2 := R0.B.F.g 2 4 20 (by decide +kernel)
    have r23 := R0.B.F.f 2 3 20 (by decide +kernel)
    have g20 := (R0.B.F.g 20 105 250 (by decide +kernel)).1
    have g20' := (R0.B.F.g 20 105 250 (by decide +kernel)).2
    have l20 := R0.B.F.l 20 105 250 (by decide +kernel)
    have r00 := R0.B.F.f 67 0 2 (by decide +kernel)
    have g0 := R0.B.F.g 67 2 13 (by decide +kernel)
    have g1 := R1.B.F.g 67 2 13 (by decide +kernel)
    have p4 := T.p
    have w10 := T.w
    have p40 : mh_i h0 67 4 = Int32.ofNat s.p := by rw [i0 _ _ (by omega)]; exact p4
    have d5 := T.d
    have ed : Int32.ofNat s.d + 1 = Int32.ofNat (s.d + 1) := nn_add (a := s.d) (b := 1)
    have es : Int32.ofNat stp + 1 = Int32.ofNat (stp + 1) := nn_add (a := stp) (b := 1)
    have le : (stp + (k + 1) ≤ stp) = False := eq_false (by omega)
    have np : (s.p = cnt - 1) = False := eq_false (fun z => c1 (Or.inl z))
    have eqp : (Int32.ofNat s.p = Int32.ofNat (cnt - 1)) = (s.p = cnt - 1) := nn_eq (by omega) (by omega)
    have e00 : ((0 : Int32) = 0) = True := by decide
    have e10 : ((1 : Int32) = 0) = False := by decide
    have ks : stp + (k + 1) = stp + 1 + k := by omega
    by_cases qw : q.w = 0
    · rw [if_pos qw]
      have w1 := q1.w
      rw [z1, qw] at w1
      have p1 := q1.p
      rw [if_pos (z1.trans qw), z3] at p1
      obtain ⟨ag, szs⟩ := q1.g (z1.trans qw)
      have ag2 := AG_t ag (z4 (z1.trans qw))
      obtain ⟨p', ep'⟩ : ∃ p', (if q.b = true then fst s.p else oth s.p) = p' := ⟨_, rfl⟩
      rw [ep'] at p1 ⊢
      -- the next point
      have nx : p' < cnt ∧ G.n p' ≤ afN (J.c s.p) (G.n s.p) (J.t s.p) ∧ G.a p' ≤ afA (J.c s.p) (G.a s.p) ∧ ∀ x, x < G.a p' → G.rm p' x = afR (J.c s.p) (G.a s.p) (J.sz s.p) (G.rm s.p) x := by
        rw [← ep']
        by_cases qb : q.b = true
        · rw [if_pos qb]; exact S.f s.p hp1
        · rw [if_neg qb]
          have c7 : J.c s.p = 7 := Classical.byContradiction (fun z => qb (by
            rw [← eq]
            unfold sJ
            exact s_st_b z))
          obtain ⟨a1, a2, a3, a4⟩ := S.o s.p hp1 c7
          unfold afN afA afR
          rw [c7, if_neg (by omega), if_neg (by omega), if_neg (by omega), if_neg (by omega)]
          exact ⟨a1, a2, a3, a4⟩
      obtain ⟨n1, n2, n3, n4⟩ := nx
      have ag3 := AG_w ag2 n2 n3 n4
      have sz3 : ∀ x, x < G.a p' → mh_i h1 71 x = Int32.ofNat (G.rm p' x) := fun x hx => by rw [n4 x hx]; exact szs x (by omega)
      obtain ⟨h2, f2, o2, run2⟩ := v_29 (d := d + 4) (tr := tru) (m := m) R1.B (by omega : p' < 250) p1 R1.f (R1.k p' n1) (R1.L.c p' n1) (R1.s p' n1) (R1.t p' n1) (fun x hx => ⟨sz3 x hx, S.r p' n1 x hx⟩)
      have f2' : fG gdW h1 h2 := fG_w f2 (fun b j z => Or.inr ⟨z.1, by omega⟩)
      have i2 : ∀ b j, ¬ (b = 67 ∧ j = 9) → mh_i h2 b j = mh_i h1 b j := fun b j z => (f2.2.2.2.2.2 b j z).1
      have V2 : mh_i h2 69 = mh_i h1 69 := funext fun j => i2 _ _ (by omega)
      have P2 : mh_i h2 70 = mh_i h1 70 := funext fun j => i2 _ _ (by omega)
      have arE : ar m tru (kn p') (cl p') (mh_i h1 69) (mh_i h1 70) = ar m tru (kn p') (cl p') q.V q.P := by
        unfold ar
        rw [propext (o_has_ag (R1.s p' n1) ag3), propext (o_has_ag (R1.t p' n1) ag3)]
      have N2 : mh_i h2 68 = N := by
        funext j
        rw [i2 _ _ (by omega), i1 _ _ (by unfold mdW; omega), N0]
      have T2 : CRS h2 G gv (p', q.c, q.V, q.P, s.o + ar m tru (kn p') (cl p') q.V q.P, s.d + 1, 0) := CRS.of ⟨by rw [i2 _ _ (by omega)]; exact p1, by rw [i2 _ _ (by omega), q1.c, z2]; rfl, by rw [i2 _ _ (by omega)]; exact w1, by rw [o2, arE, i1 _ _ (by unfold mdW; omega), i0 _ _ (by omega), T.o]; rfl, by rw [i2 _ _ (by omega), i1 _ _ (by unfold mdW; omega)]; exact i05, by rw [V2, P2]; exact ag3, fun x hx => by rw [i2 _ _ (by omega)]; exact sz3 x hx⟩
      obtain ⟨h3, f3, T3, hp3, run3⟩ := ih (stp + 1) h2 _ (by omega) (by show s.d + 1 + k < 1000000; omega) (CRI_G f2' R1) T2 n1 N2
      refine ⟨h3, fG_t f0 (fG_t f1 (fG_t f2' f3)), T3, hp3, fun Q => ?_⟩
      rw [← run3 Q, ks]
      have le' : (stp + 1 + k ≤ stp) = False := eq_false (by omega)
      clear R R0 R1 T T2 T3 S ih FIN run3 q1 ag ag2 ag3 szs sz3 z4 f0 f1 f2 f2' f3 n4 i0 i1 i2
      rw [s_28_29]
      cases tru with
      | true =>
        rw [if_pos rfl] at run2 ⊢
        simp (disch := omega) only [s_28_0, s_28_1, s_28_4, s_28_5, s_28_6, s_28_9, s_28_10, s_28_13, s_28_16, s_28_17, s_28_18, s_28_20, s_28_21, s_28_22, s_28_23, s_28_26, s_28_27, s_28_31, s_28_32, s_28_35, s_28_36, s_28_39, s_28_41, s_28_44, s_28_45, s_28_48, s_28_51, s_28_52, s_28_53, s_28_56, s_28_57, s_28_58, s_28_61, s_28_62, s_28_63, s_28_66, s_28_69, s_28_70, s_28_73, s_28_74, s_28_77, s_28_78, s_28_81, s_28_84, s_28_85, s_28_86, s_28_87, s_28_90, s_28_93, s_28_94, s_28_97, s_28_100, s_28_101, s_28_104, s_28_105, s_28_108, s_28_108x, s_28_109, s_28_110, s_28_113, s_28_114, s_28_117, s_28_118, s_28_119, s_28_122, s_28_123, s_28_124, s_28_127, s_28_130, s_28_133, s_28_134, s_28_137, s_28_140, s_28_141, s_28_144, s_28_145, s_28_146, s_28_149, s_28_151, s_28_154, s_28_155, s_28_158, s_28_160, e_28, mv_i_1, mv_l_1, mv_a_1, mv_a_2, mv_a_3, mk2_n, mk2_i, mk2_l, mk2_a, mk2_u, mk2_x, mB_T, mB_F, mS_cons, mS_nil, mSB_T, mSB_F, mca_nil, mca_i, mca_l, mca_r, mca_u, mca_x, mcat_i, mcat_l, mcat_r, mcat_u, mcat_x, mK_some, mK_none, va_rf_s, va_rf_n, lgc_eq, lgc_lt, lgc_gt, lgc_ge, lgc_le, mrd_104, mrd_105, mrd_106, mrd_107, true_and, and_true, and_self, false_and, and_false, true_or, or_true, false_or, or_false, not_true_eq_false, not_false_eq_true, mgb, mga, mgr, mN, reduceCtorEq, ↓reduceIte, eq_self, ge_iff_le, gt_iff_lt, hk_si, hk_sj, hk_sr, hl_si, hl_sj, hl_sr, hn_si, hn_sj, hn_sr, hs_si, hs_sj, hs_sr, hi_sj, hi_sr, hj_si, hj_sr, hr_si, hr_sj, hi_si, hj_sj, hr_sr, mg_si, mg_sj, mg_sr, Nat.reduceAdd, Nat.reduceMul, Nat.reduceSub, Nat.reduceLT, Nat.reduceGT, Nat.reduceEqDiff, Nat.reduceLeDiff, Nat.left_eq_add, Nat.add_eq_left, Nat.reduceMod, Nat.reduceDiv, Nat.succ_ne_self, nn_le, le', g, p4, eqp, np, w10, w0, e00, d5, ed, eh0, g0, r00, g2, r23, g20, g20', l20, p40, m1, m2, run1, g1, w1, run2, es, nn_mxT, nn_clamp]
      | false =>
        rw [if_neg (by decide)] at run2 ⊢
        simp (disch := omega) only [s_28_0, s_28_1, s_28_4, s_28_5, s_28_6, s_28_9, s_28_10, s_28_13, s_28_16, s_28_17, s_28_18, s_28_20, s_28_21, s_28_22, s_28_23, s_28_26, s_28_27, s_28_31, s_28_32, s_28_35, s_28_36, s_28_39, s_28_41, s_28_44, s_28_45, s_28_48, s_28_51, s_28_52, s_28_53, s_28_56, s_28_57, s_28_58, s_28_61, s_28_62, s_28_63, s_28_66, s_28_69, s_28_70, s_28_73, s_28_74, s_28_77, s_28_78, s_28_81, s_28_84, s_28_85, s_28_86, s_28_87, s_28_90, s_28_93, s_28_94, s_28_97, s_28_100, s_28_101, s_28_104, s_28_105, s_28_108, s_28_108x, s_28_109, s_28_110, s_28_113, s_28_114, s_28_117, s_28_118, s_28_119, s_28_122, s_28_123, s_28_124, s_28_127, s_28_130, s_28_133, s_28_134, s_28_137, s_28_140, s_28_141, s_28_144, s_28_145, s_28_146, s_28_149, s_28_151, s_28_154, s_28_155, s_28_158, s_28_160, e_28, mv_i_1, mv_l_1, mv_a_1, mv_a_2, mv_a_3, mk2_n, mk2_i, mk2_l, mk2_a, mk2_u, mk2_x, mB_T, mB_F, mS_cons, mS_nil, mSB_T, mSB_F, mca_nil, mca_i, mca_l, mca_r, mca_u, mca_x, mcat_i, mcat_l, mcat_r, mcat_u, mcat_x, mK_some, mK_none, va_rf_s, va_rf_n, lgc_eq, lgc_lt, lgc_gt, lgc_ge, lgc_le, mrd_104, mrd_105, mrd_106, mrd_107, true_and, and_true, and_self, false_and, and_false, true_or, or_true, false_or, or_false, not_true_eq_false, not_false_eq_true, mgb, mga, mgr, mN, reduceCtorEq, ↓reduceIte, eq_self, ge_iff_le, gt_iff_lt, hk_si, hk_sj, hk_sr, hl_si, hl_sj, hl_sr, hn_si, hn_sj, hn_sr, hs_si, hs_sj, hs_sr, hi_sj, hi_sr, hj_si, hj_sr, hr_si, hr_sj, hi_si, hj_sj, hr_sr, mg_si, mg_sj, mg_sr, Nat.reduceAdd, Nat.reduceMul, Nat.reduceSub, Nat.reduceLT, Nat.reduceGT, Nat.reduceEqDiff, Nat.reduceLeDiff, Nat.left_eq_add, Nat.add_eq_left, Nat.reduceMod, Nat.reduceDiv, Nat.succ_ne_self, nn_le, le', g, p4, eqp, np, w10, w0, e00, d5, ed, eh0, g0, r00, g2, r23, g20, g20', l20, p40, m1, m2, run1, g1, w1, run2, es, nn_mxT, nn_clamp]
    · rw [if_neg qw]
      have w1 := q1.w
      rw [z1] at w1
      have p1 := q1.p
      rw [if_neg (fun z => qw (z1.symm.trans z))] at p1
      obtain ⟨t1, t2, t3⟩ := q1.t (fun z => qw (z1.symm.trans z))
      have qVP : q.V = s.V ∧ q.P = s.P := by
        rw [← eq]
        unfold sJ
        exact s_st_t (by
          have e9 : (s_st (J.en s.p) (J.t s.p) (J.x s.p) (J.tk s.p) (G.n s.p) (G.a s.p) (G.rm s.p) N gv s.V s.P s.c (J.c s.p)).w = q.w := by rw [← eq]; rfl
          rw [e9]; exact qw)
      have V1 : ∀ x, x < G.n s.p → mh_i h1 69 x = q.V x := fun x hx => by rw [t1 x hx, Vz, qVP.1]; exact T.g.1 x hx
      have P1 : ∀ x i, x < G.a s.p → i < G.rm s.p x → mh_i h1 70 (64 * x + i) = q.P (64 * x + i) := fun x i hx hi => by rw [t2, Pz, qVP.2]; exact T.g.2 x i hx hi
      have Z1 : ∀ x, x < G.a s.p → mh_i h1 71 x = Int32.ofNat (G.rm s.p x) := fun x hx => by rw [t3, i0 _ _ (by omega)]; exact T.z x hx
      have o1 : mh_i h1 67 9 = s.o := by rw [i1 _ _ (by unfold mdW; omega), i0 _ _ (by omega)]; exact T.o
      have d1 : mh_i h1 67 5 = Int32.ofNat (s.d + 1) := by rw [i1 _ _ (by unfold mdW; omega)]; exact i05
      have N1 : mh_i h1 68 = N := by
        funext j
        rw [i1 _ _ (by unfold mdW; omega), N0]
      have a1 := R1.a s.p hp
      have f53 := R1.f
      have g53 := R1.B.F.g 53 0 17 (by decide +kernel)
      have u1 := R1.B.F.f 53 1 55 (by decide +kernel)
      have g55 := R1.B.F.g 55 100 250 (by decide +kernel)
      have l55 := R1.B.F.l 55 100 250 (by decide +kernel)
      have w1f : (q.w = 0) = False := eq_false qw
      have le' : (stp + 1 + k ≤ stp) = False := eq_false (by omega)
      have sp250 : s.p < 250 := by omega
      have TH : ∀ (h2 : mh_H) (x : Int32), fG (fun b j => b = 67 ∧ j = 9) h1 h2 → mh_i h2 67 9 = s.o + x → CRS h2 G gv (s.p, q.c, q.V, q.P, s.o + x, s.d + 1, q.w) := fun h2 x f2 o2 => by
        have i2 : ∀ b j, ¬ (b = 67 ∧ j = 9) → mh_i h2 b j = mh_i h1 b j := fun b j z => (f2.2.2.2.2.2 b j z).1
        exact CRS.of ⟨by rw [i2 _ _ (by omega)]; exact p1, by rw [i2 _ _ (by omega), q1.c, z2]; rfl, by rw [i2 _ _ (by omega)]; exact w1, o2, by rw [i2 _ _ (by omega)]; exact d1, ⟨fun x hx => by rw [i2 _ _ (by omega)]; exact V1 x hx, fun x i hx hi => by rw [i2 _ _ (by omega)]; exact P1 x i hx hi⟩, fun x hx => by rw [i2 _ _ (by omega)]; exact Z1 x hx⟩
      have END : ∀ (h2 : mh_H) (x : Int32), fG (fun b j => b = 67 ∧ j = 9) h1 h2 → mh_i h2 67 9 = s.o + x → (∀ Q, mw (d + 6) 28 Q 29 [some (.ref 67), some (.int (Int32.ofNat (stp + 1 + k))), some (.ref 53), some (if tru = true then .ref 73 else .null), some (.int (Int32.ofNat (cnt - 1))), some (.int (Int32.ofNat stp))] [] h = mw (d + 6) 28 Q 29 [some (.ref 67), some (.int (Int32.ofNat (stp + 1 + k))), some (.ref 53), some (if tru = true then .ref 73 else .null), some (.int (Int32.ofNat (cnt - 1))), some (.int (Int32.ofNat (stp + 1)))] [] h2) → ∃ h', fG gdW h h' ∧ CRS h' G gv (s.p, q.c, q.V, q.P, s.o + x, s.d + 1, q.w) ∧ s.p < cnt ∧ ∀ Q, mw (d + 6) 28 Q 29 [some (.ref 67), some (.int (Int32.ofNat (stp + (k + 1)))), some (.ref 53), some (if tru = true then .ref 73 else .null), some (.int (Int32.ofNat (cnt - 1))), some (.int (Int32.ofNat stp))] [] h = Q (some (.int (rAn (cnt - 1) (s.p, q.c, q.V, q.P, s.o + x, s.d + 1, q.w)))) h' := fun h2 x f2 o2 run2 => by
        have f2' : fG gdW h1 h2 := fG_w f2 (fun b j z => Or.inr ⟨z.1, by omega⟩)
        have T2 := TH h2 x f2 o2
        exact ⟨h2, fG_t f0 (fG_t f1 f2'), T2, hp, fun Q => by
          rw [ks, run2 Q]
          exact FIN k (stp + 1) h2 _ (CRI_G f2' R1) T2 hp (by omega) (Or.inr (Or.inr qw)) Q⟩
      have z00 : s.o + 0 = s.o := Int32.add_zero _
      by_cases cc : m = true ∨ ¬ (al s.p &&& q.w) = 0
      · rw [if_pos cc]
        refine END h1 0 fG_id (by rw [z00]; exact o1) (fun Q => ?_)
        clear R R0 R1 T S ih FIN q1 z4 f0 f1 i0 i1 TH END V1 P1 Z1 t1 t2 t3 qVP
        rw [s_28_29]
        cases m with
        | true =>
          have f53' : mh_i h1 53 3 = 1 := f53
          simp (disch := omega) only [s_28_0, s_28_1, s_28_4, s_28_5, s_28_6, s_28_9, s_28_10, s_28_13, s_28_16, s_28_17, s_28_18, s_28_20, s_28_21, s_28_22, s_28_23, s_28_26, s_28_27, s_28_31, s_28_32, s_28_35, s_28_36, s_28_39, s_28_41, s_28_44, s_28_45, s_28_48, s_28_51, s_28_52, s_28_53, s_28_56, s_28_57, s_28_58, s_28_61, s_28_62, s_28_63, s_28_66, s_28_69, s_28_70, s_28_73, s_28_74, s_28_77, s_28_78, s_28_81, s_28_84, s_28_85, s_28_86, s_28_87, s_28_90, s_28_93, s_28_94, s_28_97, s_28_100, s_28_101, s_28_104, s_28_105, s_28_108, s_28_108x, s_28_109, s_28_110, s_28_113, s_28_114, s_28_117, s_28_118, s_28_119, s_28_122, s_28_123, s_28_124, s_28_127, s_28_130, s_28_133, s_28_134, s_28_137, s_28_140, s_28_141, s_28_144, s_28_145, s_28_146, s_28_149, s_28_151, s_28_154, s_28_155, s_28_158, s_28_160, e_28, mv_i_1, mv_l_1, mv_a_1, mv_a_2, mv_a_3, mk2_n, mk2_i, mk2_l, mk2_a, mk2_u, mk2_x, mB_T, mB_F, mS_cons, mS_nil, mSB_T, mSB_F, mca_nil, mca_i, mca_l, mca_r, mca_u, mca_x, mcat_i, mcat_l, mcat_r, mcat_u, mcat_x, mK_some, mK_none, va_rf_s, va_rf_n, lgc_eq, lgc_lt, lgc_gt, lgc_ge, lgc_le, mrd_104, mrd_105, mrd_106, mrd_107, true_and, and_true, and_self, false_and, and_false, true_or, or_true, false_or, or_false, not_true_eq_false, not_false_eq_true, mgb, mga, mgr, mN, reduceCtorEq, ↓reduceIte, eq_self, ge_iff_le, gt_iff_lt, hk_si, hk_sj, hk_sr, hl_si, hl_sj, hl_sr, hn_si, hn_sj, hn_sr, hs_si, hs_sj, hs_sr, hi_sj, hi_sr, hj_si, hj_sr, hr_si, hr_sj, hi_si, hj_sj, hr_sr, mg_si, mg_sj, mg_sr, Nat.reduceAdd, Nat.reduceMul, Nat.reduceSub, Nat.reduceLT, Nat.reduceGT, Nat.reduceEqDiff, Nat.reduceLeDiff, Nat.left_eq_add, Nat.add_eq_left, Nat.reduceMod, Nat.reduceDiv, Nat.succ_ne_self, nn_le, le', g, p4, eqp, np, w10, w0, e00, e10, d5, ed, eh0, g0, r00, g2, r23, g20, g20', l20, p40, m1, m2, run1, g1, w1, w1f, g53, f53', es, nn_mxT, nn_clamp]
        | false =>
          have f53' : mh_i h1 53 3 = 0 := f53
          have an : (al s.p &&& q.w = 0) = False := eq_false (cc.resolve_left (by decide))
          simp (disch := omega) only [s_28_0, s_28_1, s_28_4, s_28_5, s_28_6, s_28_9, s_28_10, s_28_13, s_28_16, s_28_17, s_28_18, s_28_20, s_28_21, s_28_22, s_28_23, s_28_26, s_28_27, s_28_31, s_28_32, s_28_35, s_28_36, s_28_39, s_28_41, s_28_44, s_28_45, s_28_48, s_28_51, s_28_52, s_28_53, s_28_56, s_28_57, s_28_58, s_28_61, s_28_62, s_28_63, s_28_66, s_28_69, s_28_70, s_28_73, s_28_74, s_28_77, s_28_78, s_28_81, s_28_84, s_28_85, s_28_86, s_28_87, s_28_90, s_28_93, s_28_94, s_28_97, s_28_100, s_28_101, s_28_104, s_28_105, s_28_108, s_28_108x, s_28_109, s_28_110, s_28_113, s_28_114, s_28_117, s_28_118, s_28_119, s_28_122, s_28_123, s_28_124, s_28_127, s_28_130, s_28_133, s_28_134, s_28_137, s_28_140, s_28_141, s_28_144, s_28_145, s_28_146, s_28_149, s_28_151, s_28_154, s_28_155, s_28_158, s_28_160, e_28, mv_i_1, mv_l_1, mv_a_1, mv_a_2, mv_a_3, mk2_n, mk2_i, mk2_l, mk2_a, mk2_u, mk2_x, mB_T, mB_F, mS_cons, mS_nil, mSB_T, mSB_F, mca_nil, mca_i, mca_l, mca_r, mca_u, mca_x, mcat_i, mcat_l, mcat_r, mcat_u, mcat_x, mK_some, mK_none, va_rf_s, va_rf_n, lgc_eq, lgc_lt, lgc_gt, lgc_ge, lgc_le, mrd_104, mrd_105, mrd_106, mrd_107, true_and, and_true, and_self, false_and, and_false, true_or, or_true, false_or, or_false, not_true_eq_false, not_false_eq_true, mgb, mga, mgr, mN, reduceCtorEq, ↓reduceIte, eq_self, ge_iff_le, gt_iff_lt, hk_si, hk_sj, hk_sr, hl_si, hl_sj, hl_sr, hn_si, hn_sj, hn_sr, hs_si, hs_sj, hs_sr, hi_sj, hi_sr, hj_si, hj_sr, hr_si, hr_sj, hi_si, hj_sj, hr_sr, mg_si, mg_sj, mg_sr, Nat.reduceAdd, Nat.reduceMul, Nat.reduceSub, Nat.reduceLT, Nat.reduceGT, Nat.reduceEqDiff, Nat.reduceLeDiff, Nat.left_eq_add, Nat.add_eq_left, Nat.reduceMod, Nat.reduceDiv, Nat.succ_ne_self, nn_le, le', g, p4, eqp, np, w10, w0, e00, e10, d5, ed, eh0, g0, r00, g2, r23, g20, g20', l20, p40, m1, m2, run1, g1, w1, w1f, g53, f53', u1, g55, l55, p1, a1, an, es, nn_mxT, nn_clamp]
      · rw [if_neg cc]
        refine END (mh_si h1 67 9 (s.o + 1)) 1 (fG_si ⟨rfl, rfl⟩) (by rw [hi_si, if_pos ⟨rfl, rfl⟩]) (fun Q => ?_)
        clear R R0 R1 T S ih FIN q1 z4 f0 f1 i0 i1 TH END V1 P1 Z1 t1 t2 t3 qVP
        rw [s_28_29]
        cases m with
        | true => exact absurd (Or.inl rfl) cc
        | false =>
          have f53' : mh_i h1 53 3 = 0 := f53
          have an : (al s.p &&& q.w = 0) = True := eq_true (Classical.byContradiction (fun z => cc (Or.inr z)))
          simp (disch := omega) only [s_28_0, s_28_1, s_28_4, s_28_5, s_28_6, s_28_9, s_28_10, s_28_13, s_28_16, s_28_17, s_28_18, s_28_20, s_28_21, s_28_22, s_28_23, s_28_26, s_28_27, s_28_31, s_28_32, s_28_35, s_28_36, s_28_39, s_28_41, s_28_44, s_28_45, s_28_48, s_28_51, s_28_52, s_28_53, s_28_56, s_28_57, s_28_58, s_28_61, s_28_62, s_28_63, s_28_66, s_28_69, s_28_70, s_28_73, s_28_74, s_28_77, s_28_78, s_28_81, s_28_84, s_28_85, s_28_86, s_28_87, s_28_90, s_28_93, s_28_94, s_28_97, s_28_100, s_28_101, s_28_104, s_28_105, s_28_108, s_28_108x, s_28_109, s_28_110, s_28_113, s_28_114, s_28_117, s_28_118, s_28_119, s_28_122, s_28_123, s_28_124, s_28_127, s_28_130, s_28_133, s_28_134, s_28_137, s_28_140, s_28_141, s_28_144, s_28_145, s_28_146, s_28_149, s_28_151, s_28_154, s_28_155, s_28_158, s_28_160, e_28, mv_i_1, mv_l_1, mv_a_1, mv_a_2, mv_a_3, mk2_n, mk2_i, mk2_l, mk2_a, mk2_u, mk2_x, mB_T, mB_F, mS_cons, mS_nil, mSB_T, mSB_F, mca_nil, mca_i, mca_l, mca_r, mca_u, mca_x, mcat_i, mcat_l, mcat_r, mcat_u, mcat_x, mK_some, mK_none, va_rf_s, va_rf_n, lgc_eq, lgc_lt, lgc_gt, lgc_ge, lgc_le, mrd_104, mrd_105, mrd_106, mrd_107, true_and, and_true, and_self, false_and, and_false, true_or, or_true, false_or, or_false, not_true_eq_false, not_false_eq_true, mgb, mga, mgr, mN, reduceCtorEq, ↓reduceIte, eq_self, ge_iff_le, gt_iff_lt, hk_si, hk_sj, hk_sr, hl_si, hl_sj, hl_sr, hn_si, hn_sj, hn_sr, hs_si, hs_sj, hs_sr, hi_sj, hi_sr, hj_si, hj_sr, hr_si, hr_sj, hi_si, hj_sj, hr_sr, mg_si, mg_sj, mg_sr, Nat.reduceAdd, Nat.reduceMul, Nat.reduceSub, Nat.reduceLT, Nat.reduceGT, Nat.reduceEqDiff, Nat.reduceLeDiff, Nat.left_eq_add, Nat.add_eq_left, Nat.reduceMod, Nat.reduceDiv, Nat.succ_ne_self, nn_le, le', g, p4, eqp, np, w10, w0, e00, e10, d5, ed, eh0, g0, r00, g2, r23, g20, g20', l20, p40, m1, m2, run1, g1, w1, w1f, g53, f53', u1, g55, l55, p1, a1, an, o1, es, nn_mxT, nn_clamp]
def foH (h : mh_H) : mh_H := mh_si (mh_si (mh_si (mh_si h 67 4 0) 67 5 0) 67 3 0) 67 10 0
/-- go: the class's run IS rgo -/
theorem v_28 (S : SHN G J cnt fst oth) (R : CRI h Y C E TT UU SC SP nC nE nS pa G J cnt gv kn cl fst oth al m) (z0 : G.n 0 = 0 ∧ G.a 0 = 0) {k : Nat} (hk : k ≤ 2000) {V P : Nat → Int32} : ∃ h', fG gdW h h' ∧ CRS h' G gv (rgo (sJ G J (mh_i h 68) gv) fst oth m tru kn cl al (cnt - 1) k (0, 0, V, P, mh_i h 67 9 + ar m tru (kn 0) (cl 0) V P, 0, 0)) ∧ (rgo (sJ G J (mh_i h 68) gv) fst oth m tru kn cl al (cnt - 1) k (0, 0, V, P, mh_i h 67 9 + ar m tru (kn 0) (cl 0) V P, 0, 0)).p < cnt ∧ ∀ Q, mcall (d + 6) 28 [.ref 67, .int (Int32.ofNat k), .ref 53, if tru = true then .ref 73 else .null] h Q = Q (some (.int (rAn (cnt - 1) (rgo (sJ G J (mh_i h 68) gv) fst oth m tru kn cl al (cnt - 1) k (0, 0, V, P, mh_i h 67 9 + ar m tru (kn 0) (cl 0) V P, 0, 0))))) h' := by
  have cb := R.H.b
  have f0 : fG gdW h (foH h) := fG_t (fG_si (Or.inr ⟨rfl, by omega⟩)) (fG_t (fG_si (Or.inr ⟨rfl, by omega⟩)) (fG_t (fG_si (Or.inr ⟨rfl, by omega⟩)) (fG_si (Or.inr ⟨rfl, by omega⟩))))
  have R0 := CRI_G f0 R
  have i0 : ∀ b j, ¬ (b = 67 ∧ (j = 4 ∨ j = 5 ∨ j = 3 ∨ j = 10)) → mh_i (foH h) b j = mh_i h b j := fun b j z => by
    unfold foH
    rw [hi_si, if_neg (by omega), hi_si, if_neg (by omega), hi_si, if_neg (by omega), hi_si, if_neg (by omega)]
  have a4 : mh_i (foH h) 67 4 = Int32.ofNat 0 := by unfold foH; rw [hi_si, if_neg (by omega), hi_si, if_neg (by omega), hi_si, if_neg (by omega), hi_si, if_pos ⟨rfl, rfl⟩]; rfl
  have a5 : mh_i (foH h) 67 5 = 0 := by unfold foH; rw [hi_si, if_neg (by omega), hi_si, if_neg (by omega), hi_si, if_pos ⟨rfl, rfl⟩]
  have a3 : mh_i (foH h) 67 3 = 0 := by unfold foH; rw [hi_si, if_neg (by omega), hi_si, if_pos ⟨rfl, rfl⟩]
  have a10 : mh_i (foH h) 67 10 = 0 := by unfold foH; rw [hi_si, if_pos ⟨rfl, rfl⟩]
  have ag : ∀ V' P', AG (G.n 0) (G.a 0) (G.rm 0) V' V P' P := fun V' P' => ⟨fun x hx => by omega, fun x i hx => by omega⟩
  obtain ⟨h1, f1, o1, run1⟩ := v_29 (d := d + 4) (tr := tru) (m := m) R0.B (by omega : 0 < 250) a4 R0.f (R0.k 0 (by omega)) (R0.L.c 0 (by omega)) (R0.s 0 (by omega)) (R0.t 0 (by omega)) (fun x hx => by omega)
  have f1' : fG gdW (foH h) h1 := fG_w f1 (fun b j z => Or.inr ⟨z.1, by omega⟩)
  have i1 : ∀ b j, ¬ (b = 67 ∧ j = 9) → mh_i h1 b j = mh_i (foH h) b j := fun b j z => (f1.2.2.2.2.2 b j z).1
  have arE : ar m tru (kn 0) (cl 0) (mh_i (foH h) 69) (mh_i (foH h) 70) = ar m tru (kn 0) (cl 0) V P := by
    unfold ar
    rw [propext (o_has_ag (R0.s 0 (by omega)) (ag _ _)), propext (o_has_ag (R0.t 0 (by omega)) (ag _ _))]
  have R1 := CRI_G f1' R0
  have T1 : CRS h1 G gv (0, 0, V, P, mh_i h 67 9 + ar m tru (kn 0) (cl 0) V P, 0, 0) := CRS.of ⟨by rw [i1 _ _ (by omega)]; exact a4, by rw [i1 _ _ (by omega), a3]; show _ = Int32.ofNat (min 0 gv); rw [Nat.zero_min]; rfl, by rw [i1 _ _ (by omega)]; exact a10, by rw [o1, arE, i0 _ _ (by omega)]; rfl, by rw [i1 _ _ (by omega)]; exact a5, ag _ _, fun x hx => by have hx : x < G.a 0 := hx; omega⟩
  have N1 : mh_i h1 68 = mh_i h 68 := by
    funext j
    rw [i1 _ _ (by omega), i0 _ _ (by omega)]
  obtain ⟨h2, f2, T2, p2, run2⟩ := v_28l (d := d) (tru := tru) S (N := mh_i h 68) k 0 h1 _ (by omega) (by show 0 + k < 1000000; omega) R1 T1 (by show 0 < cnt; omega) N1
  refine ⟨h2, fG_t f0 (fG_t f1' f2), T2, p2, fun Q => ?_⟩
  have r2 := run2 Q
  rw [Nat.zero_add] at r2
  have e0 : Int32.ofNat 0 = 0 := rfl
  rw [e0] at r2
  rw [← r2]
  have F := R.B.F
  have g := F.g 67 2 13 (by decide +kernel)
  have r0 := F.f 67 0 2 (by decide +kernel)
  have g2 := F.g 2 4 20 (by decide +kernel)
  have c2 := R.H.c
  have es : Int32.ofNat cnt - 1 = Int32.ofNat (cnt - 1) := nn_sub (a := cnt) (b := 1) (by omega)
  have c27 : ∀ Q, mcall (d + 5) 27 [.ref 67] h Q = Q none (mh_si (mh_si (mh_si h 67 4 0) 67 5 0) 67 3 0) := fun Q => by
    clear R R0 R1 S T1 T2 f0 f1 f1' f2 run1 run2 r2
    simp (disch := omega) only [s_27_0, s_27_1, s_27_2, s_27_5, s_27_6, s_27_7, s_27_10, s_27_11, s_27_12, s_27_15, e_27, mv_i_1, mv_l_1, mv_a_1, mv_a_2, mv_a_3, mk2_n, mk2_i, mk2_l, mk2_a, mk2_u, mk2_x, mB_T, mB_F, mS_cons, mS_nil, mSB_T, mSB_F, mca_nil, mca_i, mca_l, mca_r, mca_u, mca_x, mcat_i, mcat_l, mcat_r, mcat_u, mcat_x, mK_some, mK_none, va_rf_s, va_rf_n, lgc_eq, lgc_lt, lgc_gt, lgc_ge, lgc_le, mrd_104, mrd_105, mrd_106, mrd_107, true_and, and_true, and_self, false_and, and_false, true_or, or_true, false_or, or_false, not_true_eq_false, not_false_eq_true, mgb, mga, mgr, mN, reduceCtorEq, ↓reduceIte, eq_self, ge_iff_le, gt_iff_lt, hk_si, hk_sj, hk_sr, hl_si, hl_sj, hl_sr, hn_si, hn_sj, hn_sr, hs_si, hs_sj, hs_sr, hi_sj, hi_sr, hj_si, hj_sr, hr_si, hr_sj, hi_si, hj_sj, hr_sr, mg_si, mg_sj, mg_sr, Nat.reduceAdd, Nat.reduceMul, Nat.reduceSub, Nat.reduceLT, Nat.reduceGT, Nat.reduceEqDiff, Nat.reduceLeDiff, Nat.left_eq_add, Nat.add_eq_left, Nat.reduceMod, Nat.reduceDiv, Nat.succ_ne_self, g]
  unfold foH at run1
  clear R R0 R1 S T1 T2 f0 f1 f1' f2 run2 r2 i0 i1 ag F
  cases tru with
  | true =>
    rw [if_pos rfl] at run1 ⊢
    simp (disch := omega) only [s_28_0, s_28_1, s_28_4, s_28_5, s_28_6, s_28_9, s_28_10, s_28_13, s_28_16, s_28_17, s_28_18, s_28_20, s_28_21, s_28_22, s_28_23, s_28_26, s_28_27, s_28_31, s_28_32, s_28_35, s_28_36, s_28_39, s_28_41, s_28_44, s_28_45, s_28_48, s_28_51, s_28_52, s_28_53, s_28_56, s_28_57, s_28_58, s_28_61, s_28_62, s_28_63, s_28_66, s_28_69, s_28_70, s_28_73, s_28_74, s_28_77, s_28_78, s_28_81, s_28_84, s_28_85, s_28_86, s_28_87, s_28_90, s_28_93, s_28_94, s_28_97, s_28_100, s_28_101, s_28_104, s_28_105, s_28_108, s_28_108x, s_28_109, s_28_110, s_28_113, s_28_114, s_28_117, s_28_118, s_28_119, s_28_122, s_28_123, s_28_124, s_28_127, s_28_130, s_28_133, s_28_134, s_28_137, s_28_140, s_28_141, s_28_144, s_28_145, s_28_146, s_28_149, s_28_151, s_28_154, s_28_155, s_28_158, s_28_160, e_28, mv_i_1, mv_l_1, mv_a_1, mv_a_2, mv_a_3, mk2_n, mk2_i, mk2_l, mk2_a, mk2_u, mk2_x, mB_T, mB_F, mS_cons, mS_nil, mSB_T, mSB_F, mca_nil, mca_i, mca_l, mca_r, mca_u, mca_x, mcat_i, mcat_l, mcat_r, mcat_u, mcat_x, mK_some, mK_none, va_rf_s, va_rf_n, lgc_eq, lgc_lt, lgc_gt, lgc_ge, lgc_le, mrd_104, mrd_105, mrd_106, mrd_107, true_and, and_true, and_self, false_and, and_false, true_or, or_true, false_or, or_false, not_true_eq_false, not_false_eq_true, mgb, mga, mgr, mN, reduceCtorEq, ↓reduceIte, eq_self, ge_iff_le, gt_iff_lt, hk_si, hk_sj, hk_sr, hl_si, hl_sj, hl_sr, hn_si, hn_sj, hn_sr, hs_si, hs_sj, hs_sr, hi_sj, hi_sr, hj_si, hj_sr, hr_si, hr_sj, hi_si, hj_sj, hr_sr, mg_si, mg_sj, mg_sr, Nat.reduceAdd, Nat.reduceMul, Nat.reduceSub, Nat.reduceLT, Nat.reduceGT, Nat.reduceEqDiff, Nat.reduceLeDiff, Nat.left_eq_add, Nat.add_eq_left, Nat.reduceMod, Nat.reduceDiv, Nat.succ_ne_self, g, c27, r0, g2, c2, es, run1]
  | false =>
    rw [if_neg (by decide)] at run1 ⊢
    simp (disch := omega) only [e_28n, s_28_0, s_28_1, s_28_4, s_28_5, s_28_6, s_28_9, s_28_10, s_28_13, s_28_16, s_28_17, s_28_18, s_28_20, s_28_21, s_28_22, s_28_23, s_28_26, s_28_27, s_28_31, s_28_32, s_28_35, s_28_36, s_28_39, s_28_41, s_28_44, s_28_45, s_28_48, s_28_51, s_28_52, s_28_53, s_28_56, s_28_57, s_28_58, s_28_61, s_28_62, s_28_63, s_28_66, s_28_69, s_28_70, s_28_73, s_28_74, s_28_77, s_28_78, s_28_81, s_28_84, s_28_85, s_28_86, s_28_87, s_28_90, s_28_93, s_28_94, s_28_97, s_28_100, s_28_101, s_28_104, s_28_105, s_28_108, s_28_108x, s_28_109, s_28_110, s_28_113, s_28_114, s_28_117, s_28_118, s_28_119, s_28_122, s_28_123, s_28_124, s_28_127, s_28_130, s_28_133, s_28_134, s_28_137, s_28_140, s_28_141, s_28_144, s_28_145, s_28_146, s_28_149, s_28_151, s_28_154, s_28_155, s_28_158, s_28_160, e_28, mv_i_1, mv_l_1, mv_a_1, mv_a_2, mv_a_3, mk2_n, mk2_i, mk2_l, mk2_a, mk2_u, mk2_x, mB_T, mB_F, mS_cons, mS_nil, mSB_T, mSB_F, mca_nil, mca_i, mca_l, mca_r, mca_u, mca_x, mcat_i, mcat_l, mcat_r, mcat_u, mcat_x, mK_some, mK_none, va_rf_s, va_rf_n, lgc_eq, lgc_lt, lgc_gt, lgc_ge, lgc_le, mrd_104, mrd_105, mrd_106, mrd_107, true_and, and_true, and_self, false_and, and_false, true_or, or_true, false_or, or_false, not_true_eq_false, not_false_eq_true, mgb, mga, mgr, mN, reduceCtorEq, ↓reduceIte, eq_self, ge_iff_le, gt_iff_lt, hk_si, hk_sj, hk_sr, hl_si, hl_sj, hl_sr, hn_si, hn_sj, hn_sr, hs_si, hs_sj, hs_sr, hi_sj, hi_sr, hj_si, hj_sr, hr_si, hr_sj, hi_si, hj_sj, hr_sr, mg_si, mg_sj, mg_sr, Nat.reduceAdd, Nat.reduceMul, Nat.reduceSub, Nat.reduceLT, Nat.reduceGT, Nat.reduceEqDiff, Nat.reduceLeDiff, Nat.left_eq_add, Nat.add_eq_left, Nat.reduceMod, Nat.reduceDiv, Nat.succ_ne_self, g, c27, r0, g2, c2, es, run1]
end GOs
