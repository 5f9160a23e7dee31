set_option maxRecDepth 100000
/-! THE CLASS'S PROGRAM: PH, ICm, CLH out of what it has laid -/
/-- names known in the function alone -/
def sN2 (sp : Nat → Nat → Bool) (NL : List Nat) (L : cen) (v : Int) : Prop := ∃ a z, (a, z) ∈ L ∧ v = nmI sp NL a
def jT2 (n : Nat) (cs : tr) : tr := if tK n = 8 ∨ tK n = 9 then tF cs else jT n cs
/-- the same points, with names of the function alone, CONDs alone -/
def pJ2 (sp : Nat → Nat → Bool) (NL : List Nat) (Pt : Nat → lpt) (E0 : nv) : pin := ((pJ sp NL Pt E0).c, fun q => jT2 (Pt q).N (rn sp NL (Pt q).C), (pJ sp NL Pt E0).en, fun q => sN2 sp NL (Pt q).L, (pJ sp NL Pt E0).x, (pJ sp NL Pt E0).sz, (pJ sp NL Pt E0).tk)
/-- each point is in order -/
def PTO (sp : Nat → Nat → Bool) (NL : List Nat) (Pt : Nat → lpt) (E0 : nv) (D : lyD) (Sc : cps) (e : Nat) : Prop := (D.sp = sp) ∧ (∀ a v, nix sp NL a < NL.length → (nix sp NL a = nix sp NL v ↔ sp a v = true)) ∧ (∀ q, q < e → (Pt q).X.nb + cnZl (Pt q).L ≤ 12 ∧ (Pt q).X.na + cnAl (Pt q).L ≤ 6) ∧ (∀ q, q < e → PIK D (Pt q).N (Pt q).C (Pt q).L (Pt q).X) ∧ (∀ q, q < e → LIV sp NL (Pt q).L) ∧ (∀ q, q < e → EQx (bsF sp NL Pt E0 250 (Pt q).X) (Pt q).X) ∧ (∀ q, q < e → ∀ y, (Pt q).X.ta = some y → y < (Pt q).X.nb) ∧ (∀ q, q < e → q < (Pt q).E ∧ (Pt q).E ≤ e ∧ (tK (Pt q).N = 8 → q < (Pt q).M ∧ (Pt q).M ≤ (Pt q).E)) ∧ (∀ q, q < e → ∃ rec s1 b rl, stN D.sp Sc (Pt q).X.fu rec (Pt q).N (Pt q).C (Pt q).S s1 (Pt q).L b rl)
theorem PTO.of {sp : Nat → Nat → Bool} {NL : List Nat} {Pt : Nat → lpt} {E0 : nv} {D : lyD} {Sc : cps} {e : Nat} (q : (D.sp = sp) ∧ (∀ a v, nix sp NL a < NL.length → (nix sp NL a = nix sp NL v ↔ sp a v = true)) ∧ (∀ q, q < e → (Pt q).X.nb + cnZl (Pt q).L ≤ 12 ∧ (Pt q).X.na + cnAl (Pt q).L ≤ 6) ∧ (∀ q, q < e → PIK D (Pt q).N (Pt q).C (Pt q).L (Pt q).X) ∧ (∀ q, q < e → LIV sp NL (Pt q).L) ∧ (∀ q, q < e → EQx (bsF sp NL Pt E0 250 (Pt q).X) (Pt q).X) ∧ (∀ q, q < e → ∀ y, (Pt q).X.ta = some y → y < (Pt q).X.nb) ∧ (∀ q, q < e → q < (Pt q).E ∧ (Pt q).E ≤ e ∧ (tK (Pt q).N = 8 → q < (Pt q).M ∧ (Pt q).M ≤ (Pt q).E)) ∧ (∀ q, q < e → ∃ rec s1 b rl, stN D.sp Sc (Pt q).X.fu rec (Pt q).N (Pt q).C (Pt q).S s1 (Pt q).L b rl)) : PTO sp NL Pt E0 D Sc e := q
theorem PTO.s {sp : Nat → Nat → Bool} {NL : List Nat} {Pt : Nat → lpt} {E0 : nv} {D : lyD} {Sc : cps} {e : Nat} (q : PTO sp NL Pt E0 D Sc e) : D.sp = sp := q.1
theorem PTO.q {sp : Nat → Nat → Bool} {NL : List Nat} {Pt : Nat → lpt} {E0 : nv} {D : lyD} {Sc : cps} {e : Nat} (q : PTO sp NL Pt E0 D Sc e) : ∀ a v, nix sp NL a < NL.length → (nix sp NL a = nix sp NL v ↔ sp a v = true) := q.2.1
theorem PTO.b {sp : Nat → Nat → Bool} {NL : List Nat} {Pt : Nat → lpt} {E0 : nv} {D : lyD} {Sc : cps} {e : Nat} (q : PTO sp NL Pt E0 D Sc e) : ∀ q, q < e → (Pt q).X.nb + cnZl (Pt q).L ≤ 12 ∧ (Pt q).X.na + cnAl (Pt q).L ≤ 6 := q.2.2.1
theorem PTO.k {sp : Nat → Nat → Bool} {NL : List Nat} {Pt : Nat → lpt} {E0 : nv} {D : lyD} {Sc : cps} {e : Nat} (q : PTO sp NL Pt E0 D Sc e) : ∀ q, q < e → PIK D (Pt q).N (Pt q).C (Pt q).L (Pt q).X := q.2.2.2.1
theorem PTO.l {sp : Nat → Nat → Bool} {NL : List Nat} {Pt : Nat → lpt} {E0 : nv} {D : lyD} {Sc : cps} {e : Nat} (q : PTO sp NL Pt E0 D Sc e) : ∀ q, q < e → LIV sp NL (Pt q).L := q.2.2.2.2.1
theorem PTO.Q {sp : Nat → Nat → Bool} {NL : List Nat} {Pt : Nat → lpt} {E0 : nv} {D : lyD} {Sc : cps} {e : Nat} (q : PTO sp NL Pt E0 D Sc e) : ∀ q, q < e → EQx (bsF sp NL Pt E0 250 (Pt q).X) (Pt q).X := q.2.2.2.2.2.1
theorem PTO.t {sp : Nat → Nat → Bool} {NL : List Nat} {Pt : Nat → lpt} {E0 : nv} {D : lyD} {Sc : cps} {e : Nat} (q : PTO sp NL Pt E0 D Sc e) : ∀ q, q < e → ∀ y, (Pt q).X.ta = some y → y < (Pt q).X.nb := q.2.2.2.2.2.2.1
theorem PTO.E {sp : Nat → Nat → Bool} {NL : List Nat} {Pt : Nat → lpt} {E0 : nv} {D : lyD} {Sc : cps} {e : Nat} (q : PTO sp NL Pt E0 D Sc e) : ∀ q, q < e → q < (Pt q).E ∧ (Pt q).E ≤ e ∧ (tK (Pt q).N = 8 → q < (Pt q).M ∧ (Pt q).M ≤ (Pt q).E) := q.2.2.2.2.2.2.2.1
theorem PTO.n {sp : Nat → Nat → Bool} {NL : List Nat} {Pt : Nat → lpt} {E0 : nv} {D : lyD} {Sc : cps} {e : Nat} (q : PTO sp NL Pt E0 D Sc e) : ∀ q, q < e → ∃ rec s1 b rl, stN D.sp Sc (Pt q).X.fu rec (Pt q).N (Pt q).C (Pt q).S s1 (Pt q).L b rl := q.2.2.2.2.2.2.2.2
section LOs
variable {sp : Nat → Nat → Bool} {NL : List Nat} {E : nv} {L : cen} {X : lcx} {Pt : Nat → lpt} {E0 : nv} {D : lyD} {Sc Sf : cps} {e n m B : Nat} {h : mh_H}
theorem loE_sp {v : Int} : ∀ (L : cen) s z, loE sp L v = some (s, z) → ∃ a, (a, z) ∈ L ∧ sp a v.toNat = true := by
  intro L
  induction L with
  | nil => intro s z e; cases e
  | cons e r ih =>
    obtain ⟨a, z'⟩ := e
    intro s z e
    have lo : loE sp ((a, z') :: r) v = if sp a v.toNat = true then some (slE r z', z') else loE sp r v := rfl
    rw [lo] at e
    by_cases c : sp a v.toNat = true
    · rw [if_pos c] at e
      cases e
      exact ⟨a, List.mem_cons_self, c⟩
    · rw [if_neg c] at e
      obtain ⟨b, i, j⟩ := ih s z e
      exact ⟨b, List.mem_cons_of_mem _ i, j⟩
theorem LOQ_2 (hq : ∀ a v, nix sp NL a < NL.length → (nix sp NL a = nix sp NL v ↔ sp a v = true)) (w : LIV sp NL L) (Q : EQx E X) : LOQ sp NL L X.nb X.na (X.nb + cnZl L) (X.na + cnAl L) (X.rA L) (sN2 sp NL L) (addC sp NL E L).en := by
  intro v s z e
  obtain ⟨-, a2, a3⟩ := LOQ_of (E := E) hq w Q v s z e
  obtain ⟨a, m1, m2⟩ := loE_sp L s z e
  refine ⟨⟨a, z, m1, ?_⟩, a2, a3⟩
  show ((nix sp NL v.toNat : Nat) : Int) = ((nix sp NL a : Nat) : Int)
  rw [(hq a v.toNat (w a z m1).1).mpr m2]
theorem kd_of {n : Nat} {cs : tr} (h3 : 3 ≤ tK n ∧ tK n ≤ 11) : kdp (jC n cs) (skN n) := by
  have sk : skN n = if tK n = 3 ∨ tK n = 4 then 1 else tK n - 3 := rfl
  unfold kdp
  rcases jC_i h3 (cs := cs) with ⟨h1, h2⟩ | ⟨h1, h2⟩ | ⟨h1, h2⟩ | ⟨h1, h2⟩ | ⟨h1, h2⟩ | ⟨h1, h2⟩ | ⟨h1, h2⟩ | ⟨h1, h2⟩
  · rw [if_pos (Or.inl h1)] at sk
    rcases h2 with h2 | h2
    · exact Or.inl ⟨h2, sk⟩
    · exact Or.inr (Or.inl ⟨h2, sk⟩)
  · rw [if_pos (Or.inr h1)] at sk
    exact Or.inr (Or.inr (Or.inl ⟨h2, sk⟩))
  · rw [if_neg (by omega)] at sk
    exact Or.inr (Or.inr (Or.inr (Or.inl ⟨h2, by omega⟩)))
  · rw [if_neg (by omega)] at sk
    exact Or.inr (Or.inr (Or.inr (Or.inr (Or.inl ⟨h2, by omega⟩))))
  · rw [if_neg (by omega)] at sk
    exact Or.inr (Or.inr (Or.inr (Or.inr (Or.inr (Or.inl ⟨h2, by omega⟩)))))
  · rw [if_neg (by omega)] at sk
    exact Or.inr (Or.inr (Or.inr (Or.inr (Or.inr (Or.inr (Or.inl ⟨h2, by omega⟩))))))
  · rw [if_neg (by omega)] at sk
    exact Or.inr (Or.inr (Or.inr (Or.inr (Or.inr (Or.inr (Or.inr (Or.inl ⟨h2, by omega⟩)))))))
  · rw [if_neg (by omega)] at sk
    exact Or.inr (Or.inr (Or.inr (Or.inr (Or.inr (Or.inr (Or.inr (Or.inr ⟨h2, by omega⟩)))))))
theorem tk_of {p : Nat} {cl ta : Option Nat} (h23 : mh_i h 23 p = owI cl) (hc : ∀ c, cl = some c → c < 250) (w : TKc h cl ta) : tkF h p ta := by
  rcases w with ⟨w1, w2⟩ | ⟨c, Sq, w1, w2, w3, w4⟩
  · rw [w1] at h23
    exact Or.inl ⟨h23, w2⟩
  · rw [w1] at h23
    exact Or.inr ⟨c, Sq, hc c w1, h23, w2, w3, w4⟩
theorem IC_of (C : CLD h B n m D Sf Pt e) (R : CSR h B n Sc) (fo : ∀ i j, j ≠ 5 → j ≠ 6 → Sf.2 (24 + i) j = Sc.2 (24 + i) j) (T : PTO sp NL Pt E0 D Sc e) : PH h (pgG sp NL Pt E0 e) (e + 1) ∧ IC (B + 5) (B + 6) (B + 7) (B + 8) (B + 9) (B + 10) (B + 11) (3 * n + 3) (n + 1) (n + 2) (Sc.1 5) (pgG sp NL Pt E0 e) (pJ sp NL Pt E0) (e + 1) h ∧ ICm (B + 5) (B + 6) (B + 7) (B + 8) (B + 9) (B + 10) (B + 11) (3 * n + 3) (n + 1) (n + 2) (Sc.1 5) (pgG sp NL Pt E0 e) (pJ2 sp NL Pt E0) (e + 1) h := by
  obtain ⟨e1, e2⟩ := C.k
  obtain ⟨z1, z2⟩ := C.z
  obtain ⟨b4, b5, b6, b7, bn⟩ := R.b
  have hB := R.B
  have Cc := C.c
  have hN : 2644 ≤ mh_n h := by have := Cc.t.2.1.2; omega
  have pt : ∀ p, p < e → ∃ St, mh_r h 20 p = some St ∧ mg h St 9 ∧ 2644 ≤ St ∧ (∀ j, j ≠ 5 → j ≠ 6 → mh_i h St j = Sc.2 (24 + (Pt p).S) j) ∧ mh_i h 21 p = Int32.ofNat (Pt p).X.nb ∧ mh_i h 22 p = Int32.ofNat (Pt p).X.na ∧ mh_i h St 0 = Int32.ofNat (skN (Pt p).N) ∧ mh_i h St 3 = Int32.ofNat (cnZl (Pt p).L) ∧ mh_i h St 4 = Int32.ofNat (cnAl (Pt p).L) ∧ (3 ≤ tK (Pt p).N ∧ tK (Pt p).N ≤ 11) ∧ tkF h p (Pt p).X.ta := fun p hp => by
    obtain ⟨w1, w2, w3⟩ := C.p p (Nat.zero_le _) hp
    obtain ⟨q1, q2, q3⟩ := Cc.q _ (C.s p hp)
    obtain ⟨rec, s1, b, rl, st⟩ := T.n p hp
    obtain ⟨cl, c1, c2, c3⟩ := w1.c
    have si : ∀ j, j ≠ 5 → j ≠ 6 → mh_i h (B + (24 + (Pt p).S)) j = Sc.2 (24 + (Pt p).S) j := fun j h5 h6 => (q3 j).trans (fo _ j h5 h6)
    exact ⟨_, w1.s, q2, by omega, si, w1.n, w1.a, (si 0 (by decide) (by decide)).trans st.1.1, (si 3 (by decide) (by decide)).trans st.1.2.2.2.1, (si 4 (by decide) (by decide)).trans st.1.2.2.2.2.1, stN_3 st, tk_of c1 (fun c ec => by have := c2 c ec; omega) c3⟩
  have kdE : ∀ p, p < e → (pgG sp NL Pt E0 e).kd p = skN (Pt p).N := fun p hp => if_pos hp
  have nE : ∀ p, p < e → (pgG sp NL Pt E0 e).n p = (Pt p).X.nb + cnZl (Pt p).L := fun p hp => if_pos hp
  have aE : ∀ p, p < e → (pgG sp NL Pt E0 e).a p = (Pt p).X.na + cnAl (Pt p).L := fun p hp => if_pos hp
  have kd0 : ∀ p, ¬ p < e → (pgG sp NL Pt E0 e).kd p = 0 := fun p hp => if_neg hp
  have n0 : ∀ p, ¬ p < e → (pgG sp NL Pt E0 e).n p = 0 := fun p hp => if_neg hp
  have a0 : ∀ p, ¬ p < e → (pgG sp NL Pt E0 e).a p = 0 := fun p hp => if_neg hp
  have sk8 : ∀ p, p < e → skN (Pt p).N ≤ 8 ∧ (4 ≤ skN (Pt p).N ∧ skN (Pt p).N ≤ 6 → True) := fun p hp => by
    obtain ⟨St, -, -, -, -, -, -, -, -, -, k3, -⟩ := pt p hp
    refine ⟨?_, fun _ => trivial⟩
    unfold skN
    split <;> omega
  refine ⟨⟨e1, ⟨by omega, by omega⟩, fun p hp => ?_, fun p hp => ?_, fun p hp k5 => ?_, fun p hp k4 k6 => ?_⟩, ⟨⟨R.p, by omega⟩, fun p hp => ?_⟩, ⟨R.p, by omega⟩, fun p hp => ?_⟩
  · by_cases c : p < e
    · obtain ⟨St, u1, u2, u3, u4, u5, u6, u7, u8, u9, -⟩ := pt p c
      rw [kdE p c, nE p c, aE p c]
      exact ⟨St, _, _, _, _, u1, u2, u7, u5, u8, rfl, u6, u9, rfl⟩
    · have ep : p = e := by omega
      subst ep
      obtain ⟨St, u1, u2, u3⟩ := C.e
      rw [kd0 p c, n0 p c, a0 p c]
      exact ⟨St, 0, 0, 0, 0, u1, u2, u3 0, z1, u3 3, rfl, z2, u3 4, rfl⟩
  · by_cases c : p < e
    · obtain ⟨v1, v2⟩ := T.b p c
      rw [kdE p c, nE p c, aE p c]
      exact ⟨(sk8 p c).1, v1, v2⟩
    · rw [kd0 p c, n0 p c, a0 p c]
      exact ⟨by decide, by decide, by decide⟩
  · by_cases c : p < e
    · rw [kdE p c] at k5
      obtain ⟨St, -, -, -, -, -, -, -, -, -, k3, -⟩ := pt p c
      obtain ⟨w1, w2, w3⟩ := C.p p (Nat.zero_le _) c
      have k8 := (sk_i k3).2.1.mp k5
      obtain ⟨x1, x2, x3⟩ := T.E p c
      have := x3 k8
      exact ⟨w3 k8, by show (Pt p).M ≤ 250; omega⟩
    · rw [kd0 p c] at k5
      exact absurd k5 (by decide)
  · by_cases c : p < e
    · obtain ⟨w1, w2, w3⟩ := C.p p (Nat.zero_le _) c
      obtain ⟨x1, x2, x3⟩ := T.E p c
      exact ⟨w2, by show (Pt p).E ≤ 250; omega⟩
    · rw [kd0 p c] at k4
      exact absurd k4 (by decide)
  · have c : p < e := by omega
    obtain ⟨St, u1, u2, u3, u4, u5, u6, u7, u8, u9, k3, tk⟩ := pt p c
    obtain ⟨rec, s1, b, rl, st⟩ := T.n p c
    obtain ⟨v1, v2⟩ := T.b p c
    have O := LOQ_of (L := (Pt p).L) T.q (T.l p c) (T.Q p c)
    have PT := (PT_c (NL := NL) R hN u2 u3 u4 st (T.k p c) T.s O v1 v2 tk (fun y hy => by have := T.t p c y hy; omega) (Or.inl rfl)).1
    rw [kdE p c, nE p c, aE p c]
    exact ⟨St, _, _, _, u1, u2, u5, u6, u8, kd_of k3, PT⟩
  · have c : p < e := by omega
    obtain ⟨St, u1, u2, u3, u4, u5, u6, u7, u8, u9, k3, tk⟩ := pt p c
    obtain ⟨rec, s1, b, rl, st⟩ := T.n p c
    obtain ⟨v1, v2⟩ := T.b p c
    have O := LOQ_2 (L := (Pt p).L) T.q (T.l p c) (T.Q p c)
    obtain ⟨PT, PM⟩ := PT_c (NL := NL) (tt := jT2 (Pt p).N (rn sp NL (Pt p).C)) R hN u2 u3 u4 st (T.k p c) T.s O v1 v2 tk (fun y hy => by have := T.t p c y hy; omega) (by
      unfold jT2
      by_cases z : tK (Pt p).N = 8 ∨ tK (Pt p).N = 9
      · rw [if_pos z]; exact Or.inr ⟨z, rfl⟩
      · rw [if_neg z]; exact Or.inl rfl)
    rw [kdE p c, nE p c, aE p c]
    exact ⟨St, _, _, _, u1, u2, u5, u6, u8, kd_of k3, PT, PM⟩
end LOs
