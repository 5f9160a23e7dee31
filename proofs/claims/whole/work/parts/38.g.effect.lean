set_option maxRecDepth 100000
/-! the class's Effect: what it may write, what stays -/
def stW (H P R b j : Nat) : Prop := rgW P R b j ∨ fmW b j ∨ sW H 52 b
def soW (H b j : Nat) : Prop := foW b j ∨ sW H 52 b
abbrev ES (h : mh_H) (P R lP X Y C E TT UU SC SP nC nE nS nb na H : Nat) (A : ab) : Prop := (RG h P R lP X Y C E TT UU SC SP nC nE nS nb na A) ∧ (cs h H) ∧ (H ≠ X)
theorem ES.G {h : mh_H} {P R lP X Y C E TT UU SC SP nC nE nS nb na H : Nat} {A : ab} (q : ES h P R lP X Y C E TT UU SC SP nC nE nS nb na H A) : RG h P R lP X Y C E TT UU SC SP nC nE nS nb na A := q.1
theorem ES.c {h : mh_H} {P R lP X Y C E TT UU SC SP nC nE nS nb na H : Nat} {A : ab} (q : ES h P R lP X Y C E TT UU SC SP nC nE nS nb na H A) : cs h H := q.2.1
theorem ES.ne {h : mh_H} {P R lP X Y C E TT UU SC SP nC nE nS nb na H : Nat} {A : ab} (q : ES h P R lP X Y C E TT UU SC SP nC nE nS nb na H A) : H ≠ X := q.2.2
theorem so_k {h : mh_H} {o b c : Nat} (s : so h o) (g : mg h b c) (c8 : c ≠ 8) (c1 : c ≠ 101) : ¬ b = o ∧ ¬ b = o + 1 ∧ ¬ b = o + 2 := by
  obtain ⟨s1, s2, s3, s4, s5, s6, s7⟩ := s
  have a := s1.1
  have b' := s3.1
  have c' := s6.1
  have g1 := g.1
  refine ⟨fun e => ?_, fun e => ?_, fun e => ?_⟩
  · rw [e] at g1; omega
  · rw [e] at g1; omega
  · rw [e] at g1; omega
section ESs
variable {d : Nat} {h h1 : mh_H} {P R lP X Y C E TT UU SC SP nC nE nS nb na H : Nat} {sN : Int → Prop} {en : Int → Nat} {A B : ab} {t : tr} {tu : Bool} {sum c0 p0 : Nat} {ps : List pa}
theorem soW_st {b j : Nat} (w : soW H b j) : stW H P R b j := by
  rcases w with w | w
  · unfold foW at w
    exact Or.inr (Or.inl (Or.inl ⟨w.1, by omega, by omega⟩))
  · exact Or.inr (Or.inr w)
theorem ES.x (S : ES h P R lP X Y C E TT UU SC SP nC nE nS nb na H A) : ∀ y, y ≤ 2 → ∀ j, ¬ stW H P R (X + y) j := by
  obtain ⟨sX, aX⟩ := cs_so S.G.S S.G.x
  obtain ⟨sH, aH⟩ := cs_so S.G.S S.c
  have NE := so_ne sH sX S.ne
  have pP := S.G.p.s X S.G.x P (by simp)
  have pR := S.G.p.s X S.G.x R (by simp)
  intro y hy j w
  unfold stW rgW fmW sW at w
  unfold cAd at aX
  omega
theorem ES.dt (S : ES h P R lP X Y C E TT UU SC SP nC nE nS nb na H A) : ∀ b, b = C ∨ b = E ∨ b = TT ∨ b = UU ∨ b = SC ∨ b = SP → ∀ j, ¬ stW H P R b j := by
  obtain ⟨sH, aH⟩ := cs_so S.G.S S.c
  have q := S.G.q
  intro b hb j w
  have n := q.n b (by rcases hb with e | e | e | e | e | e <;> simp [e])
  have g : mg h b 100 := by
    rcases hb with e | e | e | e | e | e <;> subst e
    · exact q.gC
    · exact q.gE
    · exact q.gT
    · exact q.gU
    · exact q.g6
    · exact q.g7
  have k := so_k sH g (by omega) (by omega)
  have g1 := g.1
  have gP := S.G.p.g9.1
  have gR := S.G.p.g10.1
  have bP : ¬ b = P := fun e => by rw [e] at g1; omega
  have bR : ¬ b = R := fun e => by rw [e] at g1; omega
  unfold stW rgW fmW sW at w
  omega
theorem ES.hh (S : ES h P R lP X Y C E TT UU SC SP nC nE nS nb na H A) : ∀ y, y ≤ 2 → ∀ j, ¬ rgW P R (H + y) j ∧ ¬ fmW (H + y) j ∧ ¬ foW (H + y) j := by
  obtain ⟨sH, aH⟩ := cs_so S.G.S S.c
  have pP := S.G.p.s H S.c P (by simp)
  have pR := S.G.p.s H S.c R (by simp)
  intro y hy j
  unfold cAd at aH
  unfold rgW fmW foW
  omega
theorem ES.w (S : ES h P R lP X Y C E TT UU SC SP nC nE nS nb na H A) : rw_ok h 52 := ⟨S.G.F.g 52 101 48 (by decide +kernel), S.G.F.l 52 101 48 (by decide +kernel)⟩
theorem ES.so (S : ES h P R lP X Y C E TT UU SC SP nC nE nS nb na H A) : so h H := (cs_so S.G.S S.c).1
theorem ES_fG (S : ES h P R lP X Y C E TT UU SC SP nC nE nS nb na H A) (x : fG (stW H P R) h h1) : ES h1 P R lP X Y C E TT UU SC SP nC nE nS nb na H A := by
  obtain ⟨sH, aH⟩ := cs_so S.G.S S.c
  unfold cAd at aH
  have nP := S.G.p.n P (by simp)
  have nR := S.G.p.n R (by simp)
  have no : ∀ j, j < 4 → ¬ stW H P R 35 j := fun j hj w => by
    unfold stW rgW fmW sW at w
    omega
  exact ⟨RG_fG x S.x (no 2 (by omega)) (no 3 (by omega)) S.G, (cs_fG x).mpr S.c, S.ne⟩
theorem ES_U (S : ES h P R lP X Y C E TT UU SC SP nC nE nS nb na H A) (x : fG (stW H P R) h h1) (U : SU h C E TT UU SC SP nC nE nS lP nb na sN en A t tu sum c0 p0) : SU h1 C E TT UU SC SP nC nE nS lP nb na sN en A t tu sum c0 p0 := SU_fG x S.dt U
theorem ES_C (S : ES h P R lP X Y C E TT UU SC SP nC nE nS nb na H A) (x : fG (soW H) h h1) (K : CW h nb p0 TT UU en A ps) : CW h1 nb p0 TT UU en A ps := by
  obtain ⟨sH, aH⟩ := cs_so S.G.S S.c
  unfold cAd at aH
  refine CW_fG x (fun b hb j w => ?_) (fun j j1 j2 w => ?_) K
  · have q := S.G.q
    have g : mg h b 100 := by
      rcases hb with e | e | e <;> subst e
      · exact q.gT
      · exact q.gU
      · exact S.G.F.g 41 100 12 (by decide +kernel)
    have k := so_k sH g (by omega) (by omega)
    have n : b = 41 ∨ (9 ≤ b ∧ b ≤ 19) ∨ 2644 ≤ b := by
      rcases hb with e | e | e
      · exact Or.inr (q.n b (by simp [e]))
      · exact Or.inr (q.n b (by simp [e]))
      · exact Or.inl e
    unfold soW foW sW at w
    omega
  · unfold soW foW sW at w
    omega
/-- x = SUM, as the class has it -/
theorem so_cl {l : List (Nat × Bool × tr)} {x : Nat} {new : Bool} {a b : Int} (hT : ab_T A) (hB : ab_T B) (w : wS sN en A t false) (z : pz t false) (hm : pn t false ≤ 12000) (hv : (ev en A t none).1 = some (a, b)) (hl : l = pg t false 0 false) (hn : A.n ≤ B.n) (hx1 : new = true → x = B.n ∧ B.n < 12) (hx0 : new = false → x < B.n) : l.length = pn t false ∧ LQ sN en A l ∧ l.map (pgE en A) = pt en A t false false ∧ SO A B (l.map (pgE en A)) x new a b := by
  subst hl
  have len := (pg_len t).1 false 0 false
  have some' : (ev en A t none).1 ≠ none := by rw [hv]; exact Option.some_ne_none _
  have Q' : LQ sN en A (pg t false 0 false) := fun e he => ⟨(pg_w (A := A) (en := en) (sN := sN) t).1 0 false w e he, (pg_some (A := A) (en := en) (sN := sN) t).1 0 false w some' e he⟩
  have ptq : (pg t false 0 false).map (pgE en A) = pt en A t false false := ((pg_pt (A := A) (en := en) (sN := sN) t).1 0 false w).symm
  have LL : ((pg t false 0 false).map (pgE en A)).length = (pg t false 0 false).length := List.length_map _
  obtain ⟨ix, iy, ixy⟩ := (ev_in hT t).1 w a b hv
  obtain ⟨fb1, fb2⟩ := (form_b hT t).1 w z a b hv
  have e1 : ∀ ps : List pa, sI (pqL ps) ps.length = lsum fL ps := fun ps => sI_lsum (f := fL) ps
  have e2 : ∀ ps : List pa, sI (pqH ps) ps.length = lsum fH ps := fun ps => sI_lsum (f := fH) ps
  refine ⟨len, Q', ptq, hT, hB, LQ_PB hT Q' (by omega), ?_, ?_, fun i hi' => ?_, fun i hi' fi => ?_, hn, hx1, hx0, ix, iy⟩
  · rw [e1, ptq]; have := ix.2; omega
  · rw [e2, ptq]; have := iy.1; omega
  · rw [LL] at hi'; exact (LQ_pq hT Q' hi').1.2.2.2.2
  · rw [LL] at hi'
    exact ((LQ_pq hT Q' hi').2 (of_decide_eq_true fi).1).2.1
end ESs
