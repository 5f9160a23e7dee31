set_option maxRecDepth 100000
/-- the next part ends behind the first k codes -/
def PN (h : mh_H) (E nE pE part k : Nat) : Prop := pE ≤ part ∨ (part < nE ∧ ∃ e, mh_i h E part = Int32.ofNat e ∧ k < e ∧ e < 1000000)
theorem PN_le {h : mh_H} {E nE pE part k k' : Nat} (p : PN h E nE pE part k) (hk : k' ≤ k) : PN h E nE pE part k' := by
  rcases p with p | ⟨p1, e, p2, p3, p4⟩
  · exact Or.inl p
  · exact Or.inr ⟨p1, e, p2, by omega, p4⟩
/-- all that stands while a SUM is reckoned -/
abbrev RE (h : mh_H) (o L G D P R X Y C E SC SP nC nE nS nb na : Nat) (A : ab) : Prop := (RB h o L G D P R X) ∧ (SB h o D Y C E SC SP nC nE nS) ∧ (∀ y, y ≤ 2 → ¬ X + y = P ∧ ¬ X + y = R) ∧ (RS h X (some A)) ∧ (ab_T A) ∧ (mh_i h o 2 = Int32.ofNat nb) ∧ (mh_i h o 3 = Int32.ofNat na)
theorem RE.B {h : mh_H} {o L G D P R X Y C E SC SP nC nE nS nb na : Nat} {A : ab} (q : RE h o L G D P R X Y C E SC SP nC nE nS nb na A) : RB h o L G D P R X := q.1
theorem RE.S {h : mh_H} {o L G D P R X Y C E SC SP nC nE nS nb na : Nat} {A : ab} (q : RE h o L G D P R X Y C E SC SP nC nE nS nb na A) : SB h o D Y C E SC SP nC nE nS := q.2.1
theorem RE.hP {h : mh_H} {o L G D P R X Y C E SC SP nC nE nS nb na : Nat} {A : ab} (q : RE h o L G D P R X Y C E SC SP nC nE nS nb na A) : ∀ y, y ≤ 2 → ¬ X + y = P ∧ ¬ X + y = R := q.2.2.1
theorem RE.r {h : mh_H} {o L G D P R X Y C E SC SP nC nE nS nb na : Nat} {A : ab} (q : RE h o L G D P R X Y C E SC SP nC nE nS nb na A) : RS h X (some A) := q.2.2.2.1
theorem RE.T {h : mh_H} {o L G D P R X Y C E SC SP nC nE nS nb na : Nat} {A : ab} (q : RE h o L G D P R X Y C E SC SP nC nE nS nb na A) : ab_T A := q.2.2.2.2.1
theorem RE.f2 {h : mh_H} {o L G D P R X Y C E SC SP nC nE nS nb na : Nat} {A : ab} (q : RE h o L G D P R X Y C E SC SP nC nE nS nb na A) : mh_i h o 2 = Int32.ofNat nb := q.2.2.2.2.2.1
theorem RE.f3 {h : mh_H} {o L G D P R X Y C E SC SP nC nE nS nb na : Nat} {A : ab} (q : RE h o L G D P R X Y C E SC SP nC nE nS nb na A) : mh_i h o 3 = Int32.ofNat na := q.2.2.2.2.2.2
section RK3
variable {h : mh_H} {o L G D P R X Y C E SC SP nC nE nS nb na : Nat} {A : ab} {sN : Int → Prop} {en : Int → Nat}
/-- the codes of a SUM, up to the last one -/
def O0 (h : mh_H) (o L G D P R C E SC SP nC nE nS nb na : Nat) (A : ab) (sN : Int → Prop) (en : Int → Nat) (t : tr) : Prop := ∀ (d sum part k Ke pE Ht : Nat) (al : Int32) (lw hg : Nat → Int64) (nm : Nat → Int32) (pl ph : Nat → Int64) (x4 : Option Value), cd en nb na A.rm (mh_i h C) t false k → wS sN en A t false → k + cl t false ≤ Ke → 3 * Ke ≤ nC → Ke < 1000000 → sum + 1 < nS → mh_i h SC (sum + 1) = Int32.ofNat Ke → mh_i h SP (sum + 1) = Int32.ofNat pE → pE < 1000000 → part < 1000000 → Ht + sh t false ≤ 124 → PN h E nE pE part (k + cl t false - 1) → rkP (d + 3) (mkR h o L G D P R pl ph) o sum part (k + cl t false - 1) al Ht lw hg nm (ev en A t none) ((tN t).map en) (fun Q => mw (d + 3) 99 Q 25 [some (.ref o), some (.int (Int32.ofNat sum)), some (.int (Int32.ofNat part)), some (.int (Int32.ofNat k)), x4] [] (rS h o L G D P R al (Int32.ofNat Ht) lw hg nm pl ph))
/-- the codes of the operators that follow, from behind the one before them -/
def O1 (h : mh_H) (o L G D P R C E SC SP nC nE nS nb na : Nat) (A : ab) (sN : Int → Prop) (en : Int → Nat) (t : tr) : Prop := ∀ (d sum part k Ke pE Ht : Nat) (al : Int32) (lw hg : Nat → Int64) (nm : Nat → Int32) (pl ph : Nat → Int64) (a b : Int) (n1 : Option Int), cd en nb na A.rm (mh_i h C) t true (k + 1) → wS sN en A t true → k + 1 + cl t true ≤ Ke → 3 * Ke ≤ nC → Ke < 1000000 → sum + 1 < nS → mh_i h SC (sum + 1) = Int32.ofNat Ke → mh_i h SP (sum + 1) = Int32.ofNat pE → pE < 1000000 → part < 1000000 → Ht + 1 + sh t true ≤ 124 → PN h E nE pE part (k + cl t true) → (lw Ht).toInt = a → (hg Ht).toInt = b → iI a → iI b → a ≤ b → nm Ht = nSl (n1.map en) → nmC A (n1.map en) a b → rkP (d + 3) (mkR h o L G D P R pl ph) o sum part (k + cl t true) al Ht lw hg nm (ev en A t (some (a, b, n1))) (if ts t = 0 then n1.map en else none) (fun Q => mw (d + 3) 99 Q 217 [some (.ref o), some (.int (Int32.ofNat sum)), some (.int (Int32.ofNat part)), some (.int (Int32.ofNat k)), some (.int 1)] [] (rS h o L G D P R al (Int32.ofNat (Ht + 1)) lw hg nm pl ph))
theorem rk_n (H : RE h o L G D P R X Y C E SC SP nC nE nS nb na A) {d sum part k pE Ht : Nat} {al : Int32} {lw hg : Nat → Int64} {nm : Nat → Int32} {pl ph : Nat → Int64} {x4 : Option Value} (hs : sum + 1 < nS) (hpe : mh_i h SP (sum + 1) = Int32.ofNat pE) (hpE : pE < 1000000) (hp : part < 1000000) (hk : k < 1000000 - 1) (p : PN h E nE pE part (k + 1)) : ∀ Q, mw d 99 Q 217 [some (.ref o), some (.int (Int32.ofNat sum)), some (.int (Int32.ofNat part)), some (.int (Int32.ofNat k)), x4] [] (rS h o L G D P R al (Int32.ofNat (Ht + 1)) lw hg nm pl ph) = mw d 99 Q 25 [some (.ref o), some (.int (Int32.ofNat sum)), some (.int (Int32.ofNat part)), some (.int (Int32.ofNat (k + 1))), x4] [] (rS h o L G D P R al (Int32.ofNat (Ht + 1)) lw hg nm pl ph) := by
  refine rk_3n H.B H.S hs hpe (by omega) (by omega) (by omega) ?_ ?_
  · rintro ⟨z1, z2⟩
    rcases p with p | ⟨p1, e, p2, p3, p4⟩
    · omega
    · have := z2 p1
      rw [p2, nn_eq (by omega) (by omega)] at this
      omega
  · intro z
    rcases p with p | ⟨p1, -⟩
    · omega
    · exact p1
/-- one value more by codes of another kind -/
theorem rkP_bi {D' : Nat} {mk : Int32 → Nat → (Nat → Int64) → (Nat → Int64) → (Nat → Int32) → mh_H} {sum part k1 k2 : Nat} {al : Int32} {Ht : Nat} {lw hg : Nat → Int64} {nm : Nat → Int32} {q : er} {f : Int → Int → er} {s s' : Option Nat} {F : (Option Value → mh_H → Prop) → Prop} (h1 : rkP D' mk o sum part k1 al Ht lw hg nm q s F) (h2 : ∀ lw' hg' nm' a b, q.1 = some (a, b) → okR lw hg nm lw' hg' nm' Ht a b s → rkP D' mk o sum part k2 (al ||| q.2) Ht lw' hg' nm' (f a b) s' (fun Q => mw D' 99 Q 217 [some (.ref o), some (.int (Int32.ofNat sum)), some (.int (Int32.ofNat part)), some (.int (Int32.ofNat k1)), some (.int 1)] [] (mk (al ||| q.2) (Ht + 1) lw' hg' nm'))) : rkP D' mk o sum part k2 al Ht lw hg nm (e_bi q f) s' F := by
  rcases h1 with ⟨lw1, hg1, nm1, a, b, e1, e2, e3⟩ | ⟨e1, H', lw1, hg1, nm1, e3⟩
  · have eb : e_bi q f = e_al q.2 (f a b) := e_bi_y e1
    have ea : (e_al q.2 (f a b)).2 = q.2 ||| (f a b).2 := rfl
    rw [eb]
    rcases h2 lw1 hg1 nm1 a b e1 e2 with ⟨lw2, hg2, nm2, a2, b2, g1, g2, g3⟩ | ⟨g1, H', lw2, hg2, nm2, g3⟩
    · refine Or.inl ⟨lw2, hg2, nm2, a2, b2, g1, ⟨fun j hj => ?_, g2.2⟩, fun Q => ?_⟩
      · have x1 := g2.1 j hj
        have x2 := e2.1 j hj
        exact ⟨x1.1.trans x2.1, x1.2.1.trans x2.2.1, x1.2.2.trans x2.2.2⟩
      · rw [e3, ea, ← i32_ora]; exact g3 Q
    · refine Or.inr ⟨g1, H', lw2, hg2, nm2, fun Q => ?_⟩
      rw [e3, ea, ← i32_ora]; exact g3 Q
  · have eb : e_bi q f = (none, q.2) := e_bi_n e1
    rw [eb]
    exact Or.inr ⟨rfl, H', lw1, hg1, nm1, e3⟩
/-- a value more, above another one -/
theorem rkP_up {D' : Nat} {mk : Int32 → Nat → (Nat → Int64) → (Nat → Int64) → (Nat → Int32) → mh_H} {sum part k1 k2 : Nat} {al : Int32} {Ht : Nat} {lw hg : Nat → Int64} {nm : Nat → Int32} {q : er} {f : Int → Int → er} {s s' : Option Nat} {F : (Option Value → mh_H → Prop) → Prop} (h1 : rkP D' mk o sum part k1 al (Ht + 1) lw hg nm q s F) (h2 : ∀ lw' hg' nm' a b, q.1 = some (a, b) → okR lw hg nm lw' hg' nm' (Ht + 1) a b s → rkP D' mk o sum part k2 (al ||| q.2) Ht lw' hg' nm' (f a b) s' (fun Q => mw D' 99 Q 217 [some (.ref o), some (.int (Int32.ofNat sum)), some (.int (Int32.ofNat part)), some (.int (Int32.ofNat k1)), some (.int 1)] [] (mk (al ||| q.2) (Ht + 1 + 1) lw' hg' nm'))) : rkP D' mk o sum part k2 al Ht lw hg nm (e_bi q f) s' F := by
  rcases h1 with ⟨lw1, hg1, nm1, a, b, e1, e2, e3⟩ | ⟨e1, H', lw1, hg1, nm1, e3⟩
  · have eb : e_bi q f = e_al q.2 (f a b) := e_bi_y e1
    have ea : (e_al q.2 (f a b)).2 = q.2 ||| (f a b).2 := rfl
    rw [eb]
    rcases h2 lw1 hg1 nm1 a b e1 e2 with ⟨lw2, hg2, nm2, a2, b2, g1, g2, g3⟩ | ⟨g1, H', lw2, hg2, nm2, g3⟩
    · refine Or.inl ⟨lw2, hg2, nm2, a2, b2, g1, ⟨fun j hj => ?_, g2.2⟩, fun Q => ?_⟩
      · have x1 := g2.1 j hj
        have x2 := e2.1 j (by omega)
        exact ⟨x1.1.trans x2.1, x1.2.1.trans x2.2.1, x1.2.2.trans x2.2.2⟩
      · rw [e3, ea, ← i32_ora]; exact g3 Q
    · refine Or.inr ⟨g1, H', lw2, hg2, nm2, fun Q => ?_⟩
      rw [e3, ea, ← i32_ora]; exact g3 Q
  · have eb : e_bi q f = (none, q.2) := e_bi_n e1
    rw [eb]
    exact Or.inr ⟨rfl, H', lw1, hg1, nm1, e3⟩
/-- the same, by another road to its beginning -/
theorem rkP_F {D' : Nat} {mk : Int32 → Nat → (Nat → Int64) → (Nat → Int64) → (Nat → Int32) → mh_H} {sum part k : Nat} {al : Int32} {Ht : Nat} {lw hg : Nat → Int64} {nm : Nat → Int32} {q : er} {s : Option Nat} {F G' : (Option Value → mh_H → Prop) → Prop} (e : ∀ Q, G' Q = F Q) (h1 : rkP D' mk o sum part k al Ht lw hg nm q s F) : rkP D' mk o sum part k al Ht lw hg nm q s G' := by
  have : G' = F := funext e
  rw [this]; exact h1
theorem nmC_of {t : tr} (w : wS sN en A t false) {a b : Int} (e : (ev en A t none).1 = some (a, b)) : nmC A ((tN t).map en) a b := by
  intro p hp
  obtain ⟨m, c1, r1, rfl⟩ := w_b w
  have tn : tN (.branch m c1 r1) = if tK m = 13 then some (tV m) else none := rfl
  rw [tn] at hp
  by_cases c : tK m = 13
  · rw [if_pos c] at hp
    rw [ev_13 c] at e
    have w' := w_13 c w
    cases hp
    cases e
    exact ⟨w'.2, rfl, rfl⟩
  · rw [if_neg c] at hp; cases hp
theorem O1_leaf (u : Unit) : O1 h o L G D P R C E SC SP nC nE nS nb na A sN en (.leaf u) := by
  intro d sum part k Ke pE Ht al lw hg nm pl ph a b n1 _ _ _ _ _ _ _ _ _ _ _ _ h1 h2 _ _ _ h3 _
  refine Or.inl ⟨lw, hg, nm, a, b, rfl, ⟨fun j hj => ⟨rfl, rfl, rfl⟩, h1, h2, h3⟩, fun Q => ?_⟩
  have a0 : al ||| (ev en A (.leaf u) (some (a, b, n1))).2 = al := i32_or0 al
  rw [a0]; rfl
theorem O1_br (H : RE h o L G D P R X Y C E SC SP nC nE nS nb na A) {n : Nat} {cs r : tr} (i0 : O0 h o L G D P R C E SC SP nC nE nS nb na A sN en cs) (i1 : O1 h o L G D P R C E SC SP nC nE nS nb na A sN en r) : O1 h o L G D P R C E SC SP nC nE nS nb na A sN en (.branch n cs r) := by
  intro d sum part k Ke pE Ht al lw hg nm pl ph a b n1 c w k1 k2 k3 s1 s2 s3 s4 s5 s6 pn h1 h2 h3 h4 h5 h6 h7
  rw [cl_L] at k1 pn ⊢
  rw [sh_L] at s6
  obtain ⟨c1, c2, c3⟩ := c
  obtain ⟨w1, w2, w3⟩ := w
  have cp := cl_pos w2
  rw [ev_L]
  have ts0 : ¬ ts (.branch n cs r) = 0 := by rw [ts_B]; omega
  rw [if_neg ts0]
  -- the second operand
  have Z1 := i0 d sum part (k + 1) Ke pE (Ht + 1) al lw hg nm pl ph (some (.int 1)) c1 w2 (by omega) k2 k3 s1 s2 s3 s4 s5 (by omega) (PN_le pn (by omega))
  have Z2 := rkP_F (rk_n H (Ht := Ht) (al := al) (lw := lw) (hg := hg) (nm := nm) (pl := pl) (ph := ph) (x4 := some (.int 1)) s1 s3 s4 s5 (k := k) (by omega) (PN_le pn (by omega))) Z1
  refine rkP_up Z2 (fun lw1 hg1 nm1 c' e' q1 q2 => ?_)
  obtain ⟨b1, b2, b3⟩ := (ev_in H.T cs).1 w2 c' e' q1
  have l0 := q2.1 Ht (by omega)
  -- the operator
  have Z3 := rk_B (d := d) (al := al ||| (ev en A cs none).2) (lw := lw1) (hg := hg1) (nm := nm1) (pl := pl) (ph := ph) (en := en) H.B H.S H.hP H.r H.T (sum := sum) (part := part) (k := k + 1 + cl cs false) (Ke := Ke) (Ht := Ht) (x4 := some (.int 1)) s1 s2 k3 (by omega) (by omega) (by omega) w1 c2 (n1 := n1) (n2 := tN cs) (a := a) (b := b) (c := c') (e := e') (by rw [l0.1]; exact h1) (by rw [l0.2.1]; exact h2) q2.2.1 q2.2.2.1 (by rw [l0.2.2]; exact h6) q2.2.2.2 h7 (nmC_of w2 q1) h3 h4 b1 b2 h5 b3
  have ka : k + 1 + cl cs false - 1 + 1 = k + 1 + cl cs false := by omega
  have NN := rk_n H (d := d + 3) (Ht := Ht + 1) (al := al ||| (ev en A cs none).2) (lw := lw1) (hg := hg1) (nm := nm1) (pl := pl) (ph := ph) (x4 := some (.int 1)) s1 s3 s4 s5 (k := k + 1 + cl cs false - 1) (by omega) (PN_le pn (by omega))
  rw [ka] at NN
  have Z4 := rkP_F NN Z3
  refine rkP_bi Z4 (fun lw2 hg2 nm2 x2 y2 g1 g2 => ?_)
  obtain ⟨d1, d2, d3⟩ := e_two_in h3 h4 b1 b2 g1
  have Z5 := i1 d sum part (k + 1 + cl cs false) Ke pE Ht ((al ||| (ev en A cs none).2) ||| (e_two en A (tK n) n1 (tN cs) a b c' e').2) lw2 hg2 nm2 pl ph x2 y2 none (by
    have : k + 1 + cl cs false + 1 = k + 1 + cl cs false + 1 := rfl
    exact c3) w3 (by omega) k2 k3 s1 s2 s3 s4 s5 (by omega) (PN_le pn (by omega)) g2.2.1 g2.2.2.1 d1 d2 d3 g2.2.2.2 (fun p hp => by cases hp)
  have ke : k + 1 + cl cs false + cl r true = k + (cl cs false + 1 + cl r true) := by omega
  rw [ke] at Z5
  have sn : (if ts r = 0 then Option.map en none else none) = (none : Option Nat) := by split <;> rfl
  rw [sn] at Z5
  exact Z5
end RK3
