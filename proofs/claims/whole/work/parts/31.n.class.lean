set_option maxRecDepth 100000
def prt (pl ph : Nat → Int64) : Nat → List pa → Prop
  | _, [] => True
  | q, p :: ps => (pl q).toInt = p.2.2.1 ∧ (ph q).toInt = p.2.2.2 ∧ prt pl ph (q + 1) ps
theorem prt_app {pl ph : Nat → Int64} : ∀ (a b : List pa) (q : Nat), prt pl ph q a → prt pl ph (q + a.length) b → prt pl ph q (a ++ b) := by
  intro a
  induction a with
  | nil => intro b q _ h; exact h
  | cons p ps ih =>
    intro b q h1 h2
    refine ⟨h1.1, h1.2.1, ih b (q + 1) h1.2.2 ?_⟩
    have : q + (p :: ps).length = q + 1 + ps.length := by rw [List.length_cons]; omega
    rw [← this]; exact h2
theorem prt_ext {pl ph pl' ph' : Nat → Int64} : ∀ (a : List pa) (q : Nat), (∀ j, q ≤ j → j < q + a.length → pl' j = pl j ∧ ph' j = ph j) → prt pl ph q a → prt pl' ph' q a := by
  intro a
  induction a with
  | nil => intro q _ _; trivial
  | cons p ps ih =>
    intro q e h
    have e0 := e q (Nat.le_refl _) (by rw [List.length_cons]; omega)
    refine ⟨by rw [e0.1]; exact h.1, by rw [e0.2]; exact h.2.1, ih (q + 1) (fun j h1 h2 => e j (by omega) (by rw [List.length_cons]; omega)) h.2.2⟩
/-- the codes of a SUM whose parts are told: a value more, its parts' ranges written -/
def rkT (h : mh_H) (o L G D P R D' sum part m k' : Nat) (al : Int32) (Ht : Nat) (lw hg : Nat → Int64) (nm : Nat → Int32) (pl ph : Nat → Int64) (q : er) (s : Option Nat) (ps : List pa) (F : (Option Value → mh_H → Prop) → Prop) : Prop :=
  (∃ lw' hg' nm' pl' ph' a b, q.1 = some (a, b) ∧ okR lw hg nm lw' hg' nm' Ht a b s ∧ prt pl' ph' part ps ∧ (∀ j, (j < part ∨ part + m ≤ j) → pl' j = pl j ∧ ph' j = ph j) ∧ ∀ Q, F Q = mw D' 99 Q 25 [some (.ref o), some (.int (Int32.ofNat sum)), some (.int (Int32.ofNat (part + m))), some (.int (Int32.ofNat k')), some (.int 1)] [] (rS h o L G D P R (al ||| q.2) (Int32.ofNat (Ht + 1)) lw' hg' nm' pl' ph')) ∨ (q.1 = none ∧ ∃ H' lw' hg' nm' pl' ph', ∀ Q, F Q = Q (some (.int 0)) (rS h o L G D P R (al ||| q.2) (Int32.ofNat H') lw' hg' nm' pl' ph'))
section RKT
variable {h : mh_H} {o L G D P R X Y C E SC SP nC nE nS nb na lP : Nat} {A : ab} {sN : Int → Prop} {en : Int → Nat}
def T0 (h : mh_H) (o L G D P R C E SC SP nC nE nS nb na lP : Nat) (A : ab) (sN : Int → Prop) (en : Int → Nat) (t : tr) : Prop := ∀ (d sum part k Ke pE Ht : Nat) (al : Int32) (lw hg : Nat → Int64) (nm : Nat → Int32) (pl ph : Nat → Int64) (x4 : Option Value) (tu : Bool), cd en nb na A.rm (mh_i h C) t false k → wS sN en A t false → pe (mh_i h E) t false part k → k + cl t false ≤ Ke → 3 * Ke ≤ nC → Ke < 1000000 - 1 → sum + 1 < nS → mh_i h SC (sum + 1) = Int32.ofNat Ke → mh_i h SP (sum + 1) = Int32.ofNat pE → part + pn t false ≤ pE → pE ≤ nE → pE ≤ lP → pE < 1000000 → Ht + sh t false ≤ 124 → PN h E nE pE (part + pn t false) (k + cl t false) → rkT h o L G D P R (d + 3) sum part (pn t false) (k + cl t false) al Ht lw hg nm pl ph (ev en A t none) ((tN t).map en) (pt en A t false tu) (fun Q => mw (d + 3) 99 Q 25 [some (.ref o), some (.int (Int32.ofNat sum)), some (.int (Int32.ofNat part)), some (.int (Int32.ofNat k)), x4] [] (rS h o L G D P R al (Int32.ofNat Ht) lw hg nm pl ph))
def T1 (h : mh_H) (o L G D P R C E SC SP nC nE nS nb na lP : Nat) (A : ab) (sN : Int → Prop) (en : Int → Nat) (t : tr) : Prop := ∀ (d sum part k Ke pE Ht : Nat) (al : Int32) (lw hg : Nat → Int64) (nm : Nat → Int32) (pl ph : Nat → Int64) (tu : Bool) (a b : Int) (n1 : Option Int), cd en nb na A.rm (mh_i h C) t true k → wS sN en A t true → pe (mh_i h E) t true part k → k + cl t true ≤ Ke → 3 * Ke ≤ nC → Ke < 1000000 - 1 → sum + 1 < nS → mh_i h SC (sum + 1) = Int32.ofNat Ke → mh_i h SP (sum + 1) = Int32.ofNat pE → part + pn t true ≤ pE → pE ≤ nE → pE ≤ lP → pE < 1000000 → Ht + 1 + sh t true ≤ 124 → PN h E nE pE (part + pn t true) (k + cl t true) → (lw Ht).toInt = a → (hg Ht).toInt = b → iI a → iI b → a ≤ b → nm Ht = nSl (n1.map en) → nmC A (n1.map en) a b → rkT h o L G D P R (d + 3) sum part (pn t true) (k + cl t true) al Ht lw hg nm pl ph (ev en A t (some (a, b, n1))) (if ts t = 0 then n1.map en else none) (pt en A t true tu) (fun Q => mw (d + 3) 99 Q 25 [some (.ref o), some (.int (Int32.ofNat sum)), some (.int (Int32.ofNat part)), some (.int (Int32.ofNat k)), some (.int 1)] [] (rS h o L G D P R al (Int32.ofNat (Ht + 1)) lw hg nm pl ph))
theorem T1_leaf (u : Unit) : T1 h o L G D P R C E SC SP nC nE nS nb na lP A sN en (.leaf u) := by
  intro d sum part k Ke pE Ht al lw hg nm pl ph tu a b n1 _ _ _ _ _ _ _ _ _ _ _ _ _ _ _ h1 h2 _ _ _ h3 _
  refine Or.inl ⟨lw, hg, nm, pl, ph, a, b, rfl, ⟨fun j hj => ⟨rfl, rfl, rfl⟩, h1, h2, h3⟩, trivial, fun j _ => ⟨rfl, rfl⟩, fun Q => ?_⟩
  have a0 : al ||| (ev en A (.leaf u) (some (a, b, n1))).2 = al := i32_or0 al
  rw [a0]; rfl
/-- first a value above, then what is made of both, then more -/
theorem T1_br (H : RE h o L G D P R X Y C E SC SP nC nE nS nb na A) {n : Nat} {cs r : tr} (i0 : T0 h o L G D P R C E SC SP nC nE nS nb na lP A sN en cs) (i1 : T1 h o L G D P R C E SC SP nC nE nS nb na lP A sN en r) : T1 h o L G D P R C E SC SP nC nE nS nb na lP A sN en (.branch n cs r) := by
  intro d sum part k Ke pE Ht al lw hg nm pl ph tu a b n1 c w p k1 k2 k3 s1 s2 s3 s4 s4' s4'' s5 s6 pn' h1 h2 h3 h4 h5 h6 h7
  rw [cl_L] at k1 pn' ⊢
  rw [pn_L] at s4 pn' ⊢
  rw [sh_L] at s6
  obtain ⟨c1, c2, c3⟩ := c
  obtain ⟨w1, w2, w3⟩ := w
  obtain ⟨p1', p2'⟩ := p
  have cp := cl_pos w2
  have ts0 : ¬ ts (.branch n cs r) = 0 := by rw [ts_B]; omega
  rw [ev_L, if_neg ts0, pt_L]
  -- where the next part ends
  have PNx : PN h E nE pE (part + pn cs false) (k + cl cs false + 1) := by
    cases r with
    | leaf u =>
      have e1 : pn (.leaf u) true = 0 := rfl
      have e2 : cl (.leaf u) true = 0 := rfl
      rw [e1, e2] at pn'
      exact PN_le pn' (by omega)
    | branch m c' r' =>
      obtain ⟨f1, e, f2, f3, f4⟩ := pe_first c' _ _ w3.2.1 p2'.1
      rw [pn_L] at s4
      rw [cl_L] at k1
      exact Or.inr ⟨by omega, e, f2, f3, by omega⟩
  have Z1 := i0 d sum part k Ke pE (Ht + 1) al lw hg nm pl ph (some (.int 1)) (if tK n = 18 then tu else !tu) c1 w2 p1' (by omega) k2 k3 s1 s2 s3 (by omega) s4' s4'' s5 (by omega) (PN_le PNx (by omega))
  rcases Z1 with ⟨lw1, hg1, nm1, pl1, ph1, c', e', q1, q2, q3, q4, q5⟩ | ⟨q1, H', lw1, hg1, nm1, pl1, ph1, q5⟩
  · obtain ⟨b1, b2, b3⟩ := (ev_in H.T cs).1 w2 c' e' q1
    have l0 := q2.1 Ht (by omega)
    rw [e_bi_y q1]
    have Z3 := rk_B (d := d) (al := al ||| (ev en A cs none).2) (lw := lw1) (hg := hg1) (nm := nm1) (pl := pl1) (ph := ph1) (en := en) H.B H.S H.hP H.r H.T (sum := sum) (part := part + pn cs false) (k := k + cl cs false) (Ke := Ke) (Ht := Ht) (x4 := some (.int 1)) s1 s2 (by omega) (by omega) (by omega) (by omega) w1 c2 (n1 := n1) (n2 := tN cs) (a := a) (b := b) (c := c') (e := e') (by rw [l0.1]; exact h1) (by rw [l0.2.1]; exact h2) q2.2.1 q2.2.2.1 (by rw [l0.2.2]; exact h6) q2.2.2.2 h7 (nmC_of w2 q1) h3 h4 b1 b2 h5 b3
    have ea : ∀ z, (e_al (ev en A cs none).2 z).2 = (ev en A cs none).2 ||| z.2 := fun z => rfl
    rcases Z3 with ⟨lw2, hg2, nm2, x2, y2, g1, g2, g3⟩ | ⟨g1, H', lw2, hg2, nm2, g3⟩
    · obtain ⟨d1, d2, d3⟩ := e_two_in h3 h4 b1 b2 g1
      rw [e_bi_y g1]
      have NN := rk_n H (d := d + 3) (Ht := Ht) (al := (al ||| (ev en A cs none).2) ||| (e_two en A (tK n) n1 (tN cs) a b c' e').2) (lw := lw2) (hg := hg2) (nm := nm2) (pl := pl1) (ph := ph1) (x4 := some (.int 1)) s1 s3 s5 (part := part + pn cs false) (by omega) (k := k + cl cs false) (by omega) PNx
      have Z5 := i1 d sum (part + pn cs false) (k + cl cs false + 1) Ke pE Ht ((al ||| (ev en A cs none).2) ||| (e_two en A (tK n) n1 (tN cs) a b c' e').2) lw2 hg2 nm2 pl1 ph1 tu x2 y2 none c3 w3 p2' (by omega) k2 k3 s1 s2 s3 (by omega) s4' s4'' s5 (by omega) (by
        have e1 : part + pn cs false + pn r true = part + (pn cs false + pn r true) := by omega
        have e2 : k + cl cs false + 1 + cl r true = k + (cl cs false + 1 + cl r true) := by omega
        rw [e1, e2]; exact pn') g2.2.1 g2.2.2.1 d1 d2 d3 g2.2.2.2 (fun p hp => by cases hp)
      have sn : (if ts r = 0 then Option.map en none else none) = (none : Option Nat) := by split <;> rfl
      rw [sn] at Z5
      have AL : ∀ z : er, (al ||| (ev en A cs none).2) ||| (e_two en A (tK n) n1 (tN cs) a b c' e').2 ||| z.2 = al ||| (e_al (ev en A cs none).2 (e_al (e_two en A (tK n) n1 (tN cs) a b c' e').2 z)).2 := fun z => by
        show _ = al ||| ((ev en A cs none).2 ||| ((e_two en A (tK n) n1 (tN cs) a b c' e').2 ||| z.2))
        rw [i32_ora, i32_ora]
      rcases Z5 with ⟨lw3, hg3, nm3, pl3, ph3, x3, y3, u1, u2, u3, u4, u5⟩ | ⟨u1, H', lw3, hg3, nm3, pl3, ph3, u5⟩
      · refine Or.inl ⟨lw3, hg3, nm3, pl3, ph3, x3, y3, u1, ⟨fun j hj => ?_, u2.2⟩, ?_, fun j hj => ?_, fun Q => ?_⟩
        · have z1 := u2.1 j hj
          have z2 := g2.1 j hj
          have z3 := q2.1 j (by omega)
          exact ⟨z1.1.trans (z2.1.trans z3.1), z1.2.1.trans (z2.2.1.trans z3.2.1), z1.2.2.trans (z2.2.2.trans z3.2.2)⟩
        · have ln := (pt_len (en := en) (A := A) cs false (if tK n = 18 then tu else !tu)).1
          refine prt_app _ _ _ (prt_ext _ _ (fun j j1 j2 => u4 j (Or.inl (by rw [ln] at j2; exact j2))) q3) ?_
          rw [ln]; exact u3
        · have z1 := u4 j (by omega)
          have z2 := q4 j (by omega)
          exact ⟨z1.1.trans z2.1, z1.2.trans z2.2⟩
        · have e1 : part + (pn cs false + pn r true) = part + pn cs false + pn r true := by omega
          have e2 : k + (cl cs false + 1 + cl r true) = k + cl cs false + 1 + cl r true := by omega
          refine (q5 Q).trans ((g3 Q).trans ((NN Q).trans ((u5 Q).trans ?_)))
          rw [AL, e1, e2]
      · refine Or.inr ⟨u1, H', lw3, hg3, nm3, pl3, ph3, fun Q => ?_⟩
        refine (q5 Q).trans ((g3 Q).trans ((NN Q).trans ((u5 Q).trans ?_)))
        rw [AL]
    · rw [e_bi_n g1]
      refine Or.inr ⟨rfl, H', lw2, hg2, nm2, pl1, ph1, fun Q => ?_⟩
      refine (q5 Q).trans ((g3 Q).trans ?_)
      rw [ea, ← i32_ora]
  · rw [e_bi_n q1]
    exact Or.inr ⟨rfl, H', lw1, hg1, nm1, pl1, ph1, q5⟩
end RKT
