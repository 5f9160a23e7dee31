set_option maxRecDepth 100000
/-! THE REFERENCE'S PARSER: rows that grow; a node that is being built -/
/-- the last node of a row that begins at e; q where there is none -/
def dLs : tr → Nat → Nat → Nat
  | .leaf _, _, q => q
  | .branch n cs r, e, _ => dLs r (e + (1 + ts cs)) (e + dOf n cs)
theorem dLs_b : ∀ (c : tr) (e q : Nat), (dLs c e q = q ∧ ts c = 0) ∨ (e ≤ dLs c e q ∧ dLs c e q < e + ts c) := by
  intro c
  induction c with
  | leaf _ => exact fun e q => Or.inl ⟨rfl, rfl⟩
  | branch n cs r _ ih =>
    intro e q
    have ob := dOf_b (n := n) (cs := cs)
    right
    show e ≤ dLs r (e + (1 + ts cs)) (e + dOf n cs) ∧ dLs r (e + (1 + ts cs)) (e + dOf n cs) < e + (1 + ts cs + ts r)
    rcases ih (e + (1 + ts cs)) (e + dOf n cs) with ⟨h1, h2⟩ | ⟨h1, h2⟩
    · rw [h1]; omega
    · omega
theorem dHd_C {r u : tr} {e : Nat} (h : 1 ≤ ts r) : dHd (tC r u) e = dHd r e := by
  cases r with
  | leaf _ => exact absurd h (show ¬ 1 ≤ 0 from by decide)
  | branch n cs r' => rfl
theorem dHd_0 {r : tr} (h : ts r = 0) (e : Nat) : dHd r e = -1 := by
  cases r with
  | leaf _ => rfl
  | branch n cs r' => have := ts_0 (n := n) (cs := cs) (r := r'); omega
theorem tC_0 {r u : tr} (h : ts r = 0) : tC r u = u := by
  cases r with
  | leaf _ => rfl
  | branch n cs r' => have := ts_0 (n := n) (cs := cs) (r := r'); omega
theorem dLs_C : ∀ (c : tr) (u : tr) (e q : Nat), dLs (tC c u) e q = dLs u (e + ts c) (dLs c e q) := by
  intro c
  induction c with
  | leaf _ => exact fun u e q => rfl
  | branch n cs r _ ih =>
    intro u e q
    show dLs (tC r u) (e + (1 + ts cs)) (e + dOf n cs) = dLs u (e + (1 + ts cs + ts r)) (dLs r (e + (1 + ts cs)) (e + dOf n cs))
    rw [ih, show e + (1 + ts cs) + ts r = e + (1 + ts cs + ts r) from by omega]
section DAs
variable {K P V F N K' P' V' F' N' : Nat → Int32}
/-- a row behind a row -/
theorem dq_app : ∀ (c u : tr) (e q : Nat), 1 ≤ ts c → (∀ y, e ≤ y → y < e + ts c → K' y = K y ∧ P' y = P y ∧ V' y = V y ∧ F' y = F y ∧ (¬ y = dLs c e q → N' y = N y)) → N' (dLs c e q) = dHd u (e + ts c) → dq6 K' P' V' F' N' u false (e + ts c) (-1) → dq6 K P V F N c false e (-1) → dq6 K' P' V' F' N' (tC c u) false e (-1) := by
  intro c
  induction c with
  | leaf _ => exact fun u e q h => absurd h (show ¬ 1 ≤ 0 from by decide)
  | branch n cs r _ ih =>
    intro u e q _ eq en wu w
    have ob := dOf_b (n := n) (cs := cs)
    have es : ts (.branch n cs r) = 1 + ts cs + ts r := rfl
    have el : dLs (.branch n cs r) e q = dLs r (e + (1 + ts cs)) (e + dOf n cs) := rfl
    rw [el] at eq en
    rw [es] at eq en wu
    rw [dq_B] at w
    obtain ⟨w1, w2, w3, w4⟩ := w
    have lb := dLs_b r (e + (1 + ts cs)) (e + dOf n cs)
    show dq6 K' P' V' F' N' (.branch n cs (tC r u)) false e (-1)
    have nd : dq6 K P V F N (.branch n cs r) true e (dHd r (e + (1 + ts cs))) := by rw [dq_B]; exact ⟨w1, w2, w3⟩
    by_cases c0 : ts r = 0
    · have hl : dLs r (e + (1 + ts cs)) (e + dOf n cs) = e + dOf n cs := by rcases lb with z | z; exact z.1; omega
      rw [hl] at eq en
      rw [tC_0 c0]
      rw [show e + (1 + ts cs + ts r) = e + (1 + ts cs) from by omega] at en wu
      refine dq_A (r := r) (dq_n (x := dHd r (e + (1 + ts cs))) (fun y y1 y2 => ?_) en nd) wu
      exact eq y y1 (by omega)
    · have hl : e + (1 + ts cs) ≤ dLs r (e + (1 + ts cs)) (e + dOf n cs) := by rcases lb with z | z; omega; exact z.1
      have rr := ih u (e + (1 + ts cs)) (e + dOf n cs) (by omega) (fun y y1 y2 => eq y (by omega) (by omega)) (by rw [en, show e + (1 + ts cs + ts r) = e + (1 + ts cs) + ts r from by omega]) (by rw [show e + (1 + ts cs) + ts r = e + (1 + ts cs + ts r) from by omega]; exact wu) w4
      refine dq_A (r := r) ?_ rr
      rw [dHd_C (by omega)]
      refine dq_n (x := dHd r (e + (1 + ts cs))) (fun y y1 y2 => by
        obtain ⟨u1, u2, u3, u4, u5⟩ := eq y y1 (by omega)
        exact ⟨u1, u2, u3, u4, fun _ => u5 (by omega)⟩) ?_ nd
      rw [(eq (e + dOf n cs) (by omega) (by omega)).2.2.2.2 (by omega)]
      exact w3
end DAs
/-- a node o, its parts r from e on: behind a first one at q, or alone -/
def GN (sch : Bool) (s : pst) (o q e : Nat) (fx k p v : Int32) (r : tr) : Prop := (if sch = true then nf s o k p v fx (Int32.ofNat (dLs r e q)) (-1) ∧ s.N q = dHd r e ∧ q ≠ o ∧ q < e ∧ ¬ fx = -1 else ∃ L, nf s o k p v (dHd r e) L (-1) ∧ (1 ≤ ts r → L = Int32.ofNat (dLs r e 0))) ∧ s.dq r false e (-1)
/-- read so far: the parts; or at fault -/
def GS (P : Nat → Nat) (sch : Bool) (s0 : pst) (i a o q e : Nat) (fx k p v : Int32) (s : pst) (x : pqr) : Prop := pSm a s0 s ∧ s.at = x.1 ∧ (a ≤ o ∧ o < e ∧ a ≤ q ∧ i ≤ x.1) ∧ (∀ y, y < e → y ≠ o → y ≠ q → pE s0 s y) ∧ (∀ y, y < e → y ≠ o → s.K y = s0.K y ∧ s.P y = s0.P y ∧ s.V y = s0.V y ∧ s.F y = s0.F y) ∧ ((∃ r, x.2 = some r ∧ s.bd = false ∧ s.fl = s0.fl ∧ s.dr = e + ts r ∧ e + ts r ≤ a + 2 * (x.1 - i) ∧ GN sch s o q e fx k p v r) ∨ (x.2 = none ∧ s.bd = true ∧ s.fl = Int32.ofNat (P x.1) ∧ e ≤ s.dr ∧ s.dr ≤ a + 2 * (x.1 - i) + 4))
section GSs
variable {h : mh_H} {P : Nat → Nat} {K : Nat → Int32} {sch : Bool} {s0 s s1 : pst} {i a o q e : Nat} {fx k p v : Int32} {x : pqr}
theorem bnd_n {j : Nat} {g : tr → Nat → pqr} : bnd (j, none) g = (j, none) := rfl
theorem bnd_o {j : Nat} {t : tr} {g : tr → Nat → pqr} : bnd (j, some t) g = g t j := rfl
/-- the last one that a fault leaves -/
theorem GN_f {r : tr} (w : GN sch s o q e fx k p v r) (hr : e + ts r ≤ 52000) : ∃ Fx L N, nf s o k p v Fx L N ∧ (Fx = -1 ∨ (¬ Fx = -1 ∧ ∃ l, L = Int32.ofNat l ∧ (l = q ∨ e ≤ l) ∧ l < 52000)) := by
  obtain ⟨w, -⟩ := w
  cases sch with
  | true =>
    rw [if_pos rfl] at w
    obtain ⟨w1, w2, w3, w4, w5⟩ := w
    refine ⟨_, _, _, w1, Or.inr ⟨w5, _, rfl, ?_⟩⟩
    rcases dLs_b r e q with z | z <;> omega
  | false =>
    rw [if_neg (by decide)] at w
    obtain ⟨L, w1, w2⟩ := w
    by_cases c : ts r = 0
    · exact ⟨_, _, _, w1, Or.inl (dHd_0 c e)⟩
    · have w3 := w2 (by omega)
      subst w3
      refine ⟨_, _, _, w1, Or.inr ⟨?_, _, rfl, ?_⟩⟩
      · cases r with
        | leaf _ => exact absurd rfl c
        | branch n cs r' =>
          have ob := dOf_b (n := n) (cs := cs)
          have es : ts (.branch n cs r') = 1 + ts cs + ts r' := rfl
          exact ofn_m (by omega)
      · rcases dLs_b r e 0 with z | z <;> omega
/-- a token is taken -/
theorem GS_tk {c : Int32} (h52 : a + 2 * (x.1 - i) + 8 ≤ 52000) (w : GS P sch s0 i a o q e fx k p v s x) : GS P sch s0 i a o q e fx k p v (s.tk K P c) (bnd x fun r j => tak K c j (j + 1, some r)) := by
  obtain ⟨w1, w2, w3, w4, w5, w6⟩ := w
  obtain ⟨j, ot⟩ := x
  have w2' : s.at = j := w2
  have h52' : a + 2 * (j - i) + 8 ≤ 52000 := h52
  obtain ⟨w3a, w3b, w3c, w3d⟩ := w3
  have w3d' : i ≤ j := w3d
  rcases w6 with ⟨r, o1, bd, fl, dr, bo, gn⟩ | ⟨o1, bd, fl, dr, bo⟩
  · have o1' : ot = some r := o1
    subst o1'
    have bo' : e + ts r ≤ a + 2 * (j - i) := bo
    rw [bnd_o]
    unfold tak
    by_cases c1 : K j = c
    · rw [if_pos c1, tk_1 bd (by rw [w2']; exact c1), w2']
      exact ⟨pSm_t w1 uA_m, rfl, ⟨w3a, w3b, w3c, by show i ≤ j + 1; omega⟩, w4, w5, Or.inl ⟨r, rfl, bd, fl, dr, by show e + ts r ≤ a + 2 * (j + 1 - i); omega, gn⟩⟩
    · rw [if_neg c1, tk_0 bd (by rw [w2']; exact c1), w2']
      exact ⟨pSm_t w1 ko_m, w2', ⟨w3a, w3b, w3c, w3d'⟩, w4, w5, Or.inr ⟨rfl, rfl, rfl, by show e ≤ s.dr; omega, by show s.dr ≤ a + 2 * (j - i) + 4; omega⟩⟩
  · have o1' : ot = none := o1
    subst o1'
    rw [bnd_n, tk_b bd]
    exact ⟨w1, w2, ⟨w3a, w3b, w3c, w3d⟩, w4, w5, Or.inr ⟨rfl, bd, fl, dr, bo⟩⟩
end GSs
