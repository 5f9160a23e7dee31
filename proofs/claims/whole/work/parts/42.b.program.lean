set_option maxRecDepth 100000
/-! a whole program in the class's heap: Effect at all its points -/
section CQm
variable {KK : Nat → Int32} {rel rel' : tr → Nat → Prop}
def cqN (KK : Nat → Int32) (rel : tr → Nat → Prop) (n : Nat) (cs : tr) (a b : Nat) : Prop := if tK n = 26 then ∃ b', b = b' + 1 ∧ cq KK rel cs false false a b' ∧ KK b' = 33
        else if tK n = 24 ∨ tK n = 25 then (match cs with
          | .leaf _ => False
          | .branch m c' r' => ∃ k1, cq KK rel (.branch m c' r') false false a k1 ∧ cq KK rel r' true (decide (tK n = 25)) k1 b)
        else (27 ≤ tK n ∧ tK n ≤ 32) ∧ KK a = kd (tK n - 27) ∧ rel cs a ∧ b = a + 1
theorem cq_B {n : Nat} {cs r : tr} {mo an : Bool} {k k' : Nat} : cq KK rel (.branch n cs r) mo an k k' = if mo = true then ∃ k1, KK k = (if an = true then 132 else 133) ∧ cqN KK rel n cs (k + 1) k1 ∧ KK k1 = (if an = true then 134 else 135) ∧ cq KK rel r true an (k1 + 1) k' else cqN KK rel n cs k k' := by
  rcases cs with _ | ⟨_, _, _⟩ <;> rfl
theorem cqN_mono (m : ∀ cs k, rel cs k → rel' cs k) {n : Nat} {cs : tr} (i1 : ∀ mo an k k', cq KK rel cs mo an k k' → cq KK rel' cs mo an k k') (i2 : ∀ mo an k k', cq KK rel (tT cs) mo an k k' → cq KK rel' (tT cs) mo an k k') {a b : Nat} (z : cqN KK rel n cs a b) : cqN KK rel' n cs a b := by
  unfold cqN at z ⊢
  by_cases c1 : tK n = 26
  · rw [if_pos c1] at z ⊢
    obtain ⟨b', z1, z2, z3⟩ := z
    exact ⟨b', z1, i1 _ _ _ _ z2, z3⟩
  · rw [if_neg c1] at z ⊢
    by_cases c2 : tK n = 24 ∨ tK n = 25
    · rw [if_pos c2] at z ⊢
      cases cs with
      | leaf u => exact z
      | branch m' c' r' =>
        obtain ⟨k1, z1, z2⟩ := z
        exact ⟨k1, i1 _ _ _ _ z1, i2 _ _ _ _ z2⟩
    · rw [if_neg c2] at z ⊢
      exact ⟨z.1, z.2.1, m _ _ z.2.2.1, z.2.2.2⟩
theorem cq_mono (m : ∀ cs k, rel cs k → rel' cs k) : ∀ t, (∀ mo an k k', cq KK rel t mo an k k' → cq KK rel' t mo an k k') ∧ (∀ mo an k k', cq KK rel (tT t) mo an k k' → cq KK rel' (tT t) mo an k k') := by
  intro t
  induction t with
  | leaf u => exact ⟨fun mo an k k' w => w, fun mo an k k' w => w⟩
  | branch n cs r ihc ihr =>
    refine ⟨fun mo an k k' w => ?_, ihr.1⟩
    rw [cq_B] at w ⊢
    by_cases c : mo = true
    · rw [if_pos c] at w ⊢
      obtain ⟨k1, w1, w2, w3, w4⟩ := w
      exact ⟨k1, w1, cqN_mono m ihc.1 ihc.2 w2, w3, ihr.1 _ _ _ _ w4⟩
    · rw [if_neg c] at w ⊢
      exact cqN_mono m ihc.1 ihc.2 w
end CQm
section ICs
variable {V U : Nat → Nat → Prop} {d : Nat} {h h1 : mh_H} {Y C E TT UU SC SP nC nE nS pa p St nb na nm n a : Nat} {rm : Nat → Nat} {sN : Int → Prop} {en : Int → Nat} {c : Nat} {t : tr} {x sz : Nat} {tk : Option Nat} {A : ab}
theorem z_src (B : BS h Y C E TT UU SC SP nC nE nS) (z : zS V U h h1) (hU : ∀ b j, U b j → aI b) {b : Nat} (g : mg h b 100) (hb : (9 ≤ b ∧ b ≤ 19) ∨ 2644 ≤ b) : mh_i h1 b = mh_i h b := funext fun j => z.ii b 100 j g (by decide) (by decide) (by unfold eff; omega) (fun u => by have := hU b j u; unfold aI at this; omega)
theorem SU_z (B : BS h Y C E TT UU SC SP nC nE nS) (z : zS V U h h1) (hU : ∀ b j, U b j → aI b) {lQ : Nat} {tu : Bool} {sum c0 p0 : Nat} (w : SU h C E TT UU SC SP nC nE nS lQ nb na sN en A t tu sum c0 p0) : SU h1 C E TT UU SC SP nC nE nS lQ nb na sN en A t tu sum c0 p0 := by
  have q := B.q
  have eC := z_src B z hU q.gC (q.n C (by simp))
  have eE := z_src B z hU q.gE (q.n E (by simp))
  have eT := z_src B z hU q.gT (q.n TT (by simp))
  have eU := z_src B z hU q.gU (q.n UU (by simp))
  have e6 := z_src B z hU q.g6 (q.n SC (by simp))
  have e7 := z_src B z hU q.g7 (q.n SP (by simp))
  exact ⟨w.s, by rw [e6]; exact w.c0, by rw [e6]; exact w.c1, by rw [e7]; exact w.p0, by rw [e7]; exact w.p1, by rw [eC]; exact w.c, w.w, w.z, w.m, by rw [eE]; exact w.e, by rw [eT, eU]; exact w.u, w.b1, w.b3, w.b4, w.b6⟩
theorem suA_z (B : BS h Y C E TT UU SC SP nC nE nS) (z : zS V U h h1) (hU : ∀ b j, U b j → aI b) {sum : Nat} (w : suA h C E TT UU SC SP nC nE nS pa nb na sN en n a rm t sum) : suA h1 C E TT UU SC SP nC nE nS pa nb na sN en n a rm t sum := by
  obtain ⟨c0, p0, w⟩ := w
  exact ⟨c0, p0, fun A e1 e2 e3 => SU_z B z hU (w A e1 e2 e3)⟩
theorem suR_z (B : BS h Y C E TT UU SC SP nC nE nS) (z : zS V U h h1) (hU : ∀ b j, U b j → aI b) : ∀ t sum, suR h C E TT UU SC SP nC nE nS pa nb na sN en n a rm t sum → suR h1 C E TT UU SC SP nC nE nS pa nb na sN en n a rm t sum := by
  intro t
  induction t with
  | leaf _ => exact fun _ _ => trivial
  | branch m cs r _ ih => exact fun sum w => ⟨suA_z B z hU w.1, ih (sum + 1) w.2⟩
theorem tkF_z (B : BS h Y C E TT UU SC SP nC nE nS) (z : zS V U h h1) (hU : ∀ b j, U b j → aI b) (w : tkF h p tk) : tkF h1 p tk := by
  have F := B.F
  have g23 := F.g 23 100 250 (by decide +kernel)
  have g20 := F.g 20 105 250 (by decide +kernel)
  have g21 := F.g 21 100 250 (by decide +kernel)
  have ir : ∀ b j, mg h b 100 → 20 ≤ b → b ≤ 26 → mh_i h1 b j = mh_i h b j := fun b j g h1' h2' => z.ii b 100 j g (by decide) (by decide) (by unfold eff; omega) (fun u => by have := hU b j u; unfold aI at this; omega)
  rcases w with ⟨w1, w2⟩ | ⟨q, Sq, hq, w1, w2, w3, w⟩
  · exact Or.inl ⟨by rw [ir 23 p g23 (by omega) (by omega)]; exact w1, w2⟩
  · obtain ⟨n1, n2⟩ := st_ne B w3
    have e8 : mh_i h1 Sq 8 = mh_i h Sq 8 := z.ii Sq 9 8 w3 (by decide) (by decide) n1 (fun u => n2 (hU _ _ u))
    refine Or.inr ⟨q, Sq, hq, by rw [ir 23 p g23 (by omega) (by omega)]; exact w1, by rw [z.rr 20 105 q g20 (by decide) (by decide) (by unfold eff; omega) (by unfold isPl; omega)]; exact w2, zS_g z w3, ?_⟩
    rcases w with ⟨w4, w5⟩ | ⟨sl, nq, w4, w5, w6, w7⟩
    · exact Or.inl ⟨by rw [e8]; exact w4, w5⟩
    · exact Or.inr ⟨sl, nq, by rw [e8]; exact w4, w5, by rw [ir 21 q g21 (by omega) (by omega)]; exact w6, w7⟩
theorem PTC_z (B : BS h Y C E TT UU SC SP nC nE nS) (z : zS V U h h1) (hU : ∀ b j, U b j → aI b) (gS : mg h St 9) (w : PTC h Y C E TT UU SC SP nC nE nS pa p St nb na nm n a rm sN en c t x sz tk) : PTC h1 Y C E TT UU SC SP nC nE nS pa p St nb na nm n a rm sN en c t x sz tk := by
  obtain ⟨n1, n2⟩ := st_ne B gS
  have iS : ∀ j, mh_i h1 St j = mh_i h St j := fun j => z.ii St 9 j gS (by decide) (by decide) n1 (fun u => n2 (hU _ _ u))
  obtain ⟨W1, W2, W3, W4, W5, W6, W7, W9⟩ := w
  refine ⟨fun e => ?_, fun e => ?_, fun e => ?_, fun e => ?_, fun e => ?_, fun e => ?_, fun e => ?_, fun e => ?_⟩
  · obtain ⟨u1, u2, u3, su, sum, u4, u5, u6, u7, u8⟩ := W1 e
    exact ⟨u1, u2, by rw [iS]; exact u3, su, sum, by rw [iS]; exact u4, u5, u6, by rw [iS]; exact u7, suA_z B z hU u8⟩
  · obtain ⟨u1, u2, u3⟩ := W2 e
    exact ⟨u1, by rw [iS]; exact u2, by rw [iS]; exact u3⟩
  · obtain ⟨u1, u2, u3⟩ := W3 e
    exact ⟨u1, by rw [iS]; exact u2, u3⟩
  · obtain ⟨u1, sl, sum, u2, u3, u4, u5⟩ := W4 e
    exact ⟨u1, sl, sum, u2, by rw [iS]; exact u3, by rw [iS]; exact u4, suA_z B z hU u5⟩
  · obtain ⟨u1, sl, sum, zz, u2, u3, u4, u5, u6, u7, u8, u9, u10⟩ := W5 e
    exact ⟨u1, sl, sum, zz, u2, by rw [iS]; exact u3, by rw [iS]; exact u4, u5, u6, u7, by rw [iS]; exact u8, suA_z B z hU u9, suA_z B z hU u10⟩
  · obtain ⟨u1, su, sum, u2, u3, u4, u5, u6, u7⟩ := W6 e
    exact ⟨u1, su, sum, by rw [iS]; exact u2, u3, u4, u5, by rw [iS]; exact u6, suR_z B z hU t sum u7⟩
  · obtain ⟨u1, k0, ce, KA, WA, nK, KK, WW, u2, u3, u4⟩ := W7 e
    have eK := z_src B z hU u3.gK (u3.n KA (by simp))
    have eW := z_src B z hU u3.gW (u3.n WA (by simp))
    have gY := B.q.gY
    have nY := B.q.n Y (by simp)
    have rY : ∀ j, mh_r h1 Y j = mh_r h Y j := fun j => z.rr Y 7 j gY (by decide) (by decide) (by unfold eff; omega) (by unfold isPl; omega)
    refine ⟨u1, k0, ce, KA, WA, nK, KK, WW, by rw [iS]; exact u2, ⟨zS_g z u3.g, by rw [iS]; exact u3.s, by rw [rY]; exact u3.r9, zS_g z u3.gK, by rw [zS_l z u3.gK]; exact u3.lK, by rw [rY]; exact u3.r10, zS_g z u3.gW, by rw [zS_l z u3.gW]; exact u3.lW, u3.n, u3.c, u3.b, by rw [eK]; exact u3.k, by rw [eW]; exact u3.w, Nat.le_trans u3.N z.nn, fun A t tu sum c0 p0 w => w⟩, fun A e1 e2 e3 => ⟨(u4 A e1 e2 e3).1, fun lP hl => (cq_mono (fun cs k w => ?_) t).1 _ _ _ _ ((u4 A e1 e2 e3).2 lP hl)⟩⟩
    obtain ⟨sum, c0, c1, p0, w1, w2⟩ := w
    exact ⟨sum, c0, c1, p0, w1, fun A' a1 a2 a3 => ⟨SU_z B z hU (w2 A' a1 a2 a3).1, SU_z B z hU (w2 A' a1 a2 a3).2⟩⟩
  · obtain ⟨u1, u2, sum, u3, u4⟩ := W9 e
    exact ⟨u1, tkF_z B z hU u2, sum, by rw [iS]; exact u3, suA_z B z hU u4⟩
end ICs
/-- what the points are -/
abbrev pin : Type := (Nat → Nat) × (Nat → tr) × (Nat → Int → Nat) × (Nat → Int → Prop) × (Nat → Nat) × (Nat → Nat) × (Nat → Option Nat)
def pin.c (J : pin) : Nat → Nat := J.1
def pin.t (J : pin) : Nat → tr := J.2.1
def pin.en (J : pin) : Nat → Int → Nat := J.2.2.1
def pin.sN (J : pin) : Nat → Int → Prop := J.2.2.2.1
def pin.x (J : pin) : Nat → Nat := J.2.2.2.2.1
def pin.sz (J : pin) : Nat → Nat := J.2.2.2.2.2.1
def pin.tk (J : pin) : Nat → Option Nat := J.2.2.2.2.2.2
noncomputable def fxJ (J : pin) (p : Nat) (A : ab) : fx3 := fxp (J.c p) (J.en p) (J.t p) (J.x p) (J.sz p) (J.tk p) A
/-- a program in the class's heap -/
def IC (Y C E TT UU SC SP nC nE nS pa : Nat) (G : pgm) (J : pin) (cnt : Nat) (h : mh_H) : Prop := (mh_i h Y 5 = Int32.ofNat pa ∧ pa ≤ 60000) ∧ ∀ p, p + 1 < cnt → ∃ St nb na nm, mh_r h 20 p = some St ∧ mg h St 9 ∧ mh_i h 21 p = Int32.ofNat nb ∧ mh_i h 22 p = Int32.ofNat na ∧ mh_i h St 3 = Int32.ofNat nm ∧ kdp (J.c p) (G.kd p) ∧ PTC h Y C E TT UU SC SP nC nE nS pa p St nb na nm (G.n p) (G.a p) (G.rm p) (J.sN p) (J.en p) (J.c p) (J.t p) (J.x p) (J.sz p) (J.tk p)
section IDs
variable {Y C E TT UU SC SP nC nE nS pa cnt : Nat} {G : pgm} {J : pin}
theorem IC_p : hIp Y C E TT UU SC SP nC nE nS (IC Y C E TT UU SC SP nC nE nS pa G J cnt) := fun h h1 V U B z hU w => by
  have F := B.F
  have nY := B.q.n Y (by simp)
  have g20 := F.g 20 105 250 (by decide +kernel)
  have g21 := F.g 21 100 250 (by decide +kernel)
  have g22 := F.g 22 100 250 (by decide +kernel)
  refine ⟨⟨by rw [z.ii Y 7 5 B.q.gY (by decide) (by decide) (by unfold eff; omega) (fun u => by have := hU _ _ u; unfold aI at this; omega)]; exact w.1.1, w.1.2⟩, fun p hp => ?_⟩
  obtain ⟨St, nb, na, nm, q1, q2, q3, q4, q5, q6, q7⟩ := w.2 p hp
  obtain ⟨n1, n2⟩ := st_ne B q2
  exact ⟨St, nb, na, nm, by rw [z.rr 20 105 p g20 (by decide) (by decide) (by unfold eff; omega) (by unfold isPl; omega)]; exact q1, zS_g z q2, by rw [z.ii 21 100 p g21 (by decide) (by decide) (by unfold eff; omega) (fun u => by have := hU _ _ u; unfold aI at this; omega)]; exact q3, by rw [z.ii 22 100 p g22 (by decide) (by decide) (by unfold eff; omega) (fun u => by have := hU _ _ u; unfold aI at this; omega)]; exact q4, by rw [z.ii St 9 3 q2 (by decide) (by decide) n1 (fun u => n2 (hU _ _ u))]; exact q5, q6, PTC_z B z hU q2 q7⟩
theorem IC_e (hG : G.fx = fxJ J) : EFF Y C E TT UU SC SP nC nE nS G cnt (IC Y C E TT UU SC SP nC nE nS pa G J cnt) := fun d h p Fr A B H w hp cF nF k sh => by
  obtain ⟨St, nb, na, nm, q1, q2, q3, q4, q5, q6, q7⟩ := w.2 p hp
  obtain ⟨T, n1, a1, r1⟩ := sh A rfl
  have cb := H.b
  obtain ⟨St', nb', nm', na', nx', s1, s2, s3, -⟩ := H.s p (by omega)
  have e : St' = St := by rw [q1] at s1; cases s1; rfl
  subst e
  have Q : CQ h Y C E TT UU SC SP nC nE nS nb na p pa St' Fr (G.kd p) A := ⟨B, by omega, q3, q4, w.1.1, w.1.2, q1, q2, s3, cF, nF, k, T⟩
  rw [hG]
  exact ef_p (d := d) Q q6 q5 q7 n1 a1 r1
end IDs
