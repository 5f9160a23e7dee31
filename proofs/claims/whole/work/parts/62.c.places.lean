set_option maxRecDepth 100000
/-! places beyond an array's room hold 0 all along a run -/
def ZPx (a : Nat) (rm : Nat → Nat) (P : Nat → Int32) : Prop := ∀ x y, x < a → rm x ≤ y → y < 64 → P (64 * x + y) = 0
section ZPs
variable {en : Int → Nat} {t : tr} {x : Nat} {tk : Option Nat} {n a : Nat} {rm : Nat → Nat} {N : Nat → Int32} {g : Nat} {V P : Nat → Int32} {c k : Nat}
theorem s_z_P {q : xr} {f : Int → Nat → so5} {R : (Nat → Int32) → Prop} (h0 : R P) (h1 : ∀ v c', R (f v c').P) : R (s_z V P q f).P := by
  unfold s_z
  split
  · exact h0
  · exact h1 _ _
theorem s_y_P {q : yr} {f : Bool → Nat → so5} {R : (Nat → Int32) → Prop} (h0 : R P) (h1 : ∀ v c', R (f v c').P) : R (s_y V P q f).P := by
  unfold s_y
  split
  · exact h0
  · exact h1 _ _
theorem s_rw_P {R : (Nat → Int32) → Prop} (h0 : R P) : ∀ t k c W, R (s_row en V P rm N g t k c W).P := by
  intro t
  induction t with
  | leaf _ => exact fun k c W => h0
  | branch m cs r _ ih => exact fun k c W => s_z_P h0 (fun v c' => ih _ _ _)
/-- a step -/
theorem ZP_st {sz : Nat} (hx : k = 5 → x < a ∧ rm x ≤ 64) (Z : ZPx a rm P) : ZPx (afA k a) (afR k a sz rm) (s_st en t x tk n a rm N g V P c k).P := by
  by_cases k3 : k = 3
  · subst k3
    intro y z hy h1 h2
    have e : (s_st en t x tk n a rm N g V P c 3).P (64 * y + z) = if 64 * a ≤ 64 * y + z ∧ 64 * y + z < 64 * a + 64 then 0 else P (64 * y + z) := rfl
    rw [e]
    have hy' : y < a + 1 := hy
    have h1' : (if y = a then sz else rm y) ≤ z := h1
    by_cases ya : y = a
    · rw [if_pos (by omega)]
    · rw [if_neg (by omega)]
      rw [if_neg ya] at h1'
      exact Z y z (by omega) h1' h2
  · have eA : afA k a = a := if_neg k3
    have eR : afR k a sz rm = rm := if_neg k3
    rw [eA, eR]
    unfold s_st
    split
    · exact s_z_P Z (fun v c' => Z)
    split
    · exact Z
    split
    · exact s_z_P Z (fun v c' => Z)
    split
    · next q =>
      obtain ⟨x1, x2⟩ := hx q
      refine s_z_P Z (fun i c' => ?_)
      show ZPx a rm (so5.P (if i < 0 ∨ (rm x : Int) ≤ i then (4, c', V, P, true) else s_z V P (xv en V P rm N g (tT t) none c') (fun v c' => (0, c', V, s_up P (64 * x + i.toNat) v, true))))
      split
      · exact Z
      · next ci =>
        refine s_z_P Z (fun v c' => ?_)
        intro y z hy h1 h2
        show (if 64 * y + z = 64 * x + i.toNat then Int32.ofInt v else P (64 * y + z)) = 0
        rw [if_neg (fun q => by
          have yx : y = x := by omega
          subst yx
          omega)]
        exact Z y z hy h1 h2
    split
    · exact s_rw_P Z _ _ _ _
    split
    · exact s_y_P Z (fun v c' => Z)
    split
    · exact s_y_P Z (fun v c' => Z)
    · exact s_z_P Z (fun v c' => Z)
end ZPs
section ZRs
variable {G : pgm} {J : pin} {cnt gv : Nat} {fst oth : Nat → Nat} {N : Nat → Int32} {m tru : Bool} {kn cl : Nat → Option ab} {al : Nat → Int32}
theorem ZP_go (S : SHN G J cnt fst oth) : ∀ k (s : rst), s.p < cnt → ZPx (G.a s.p) (G.rm s.p) s.P → ZPx (G.a (rgo (sJ G J N gv) fst oth m tru kn cl al (cnt - 1) k s).p) (G.rm (rgo (sJ G J N gv) fst oth m tru kn cl al (cnt - 1) k s).p) (rgo (sJ G J N gv) fst oth m tru kn cl al (cnt - 1) k s).P := by
  have S1 := S.f
  have S2 := S.o
  have S4 := S.r
  have S6 := S.x
  intro k
  induction k with
  | zero => exact fun s _ Z => Z
  | succ k ih =>
    intro s hp Z
    have e : rgo (sJ G J N gv) fst oth m tru kn cl al (cnt - 1) (k + 1) s = if s.p = cnt - 1 ∨ ¬ s.w = 0 then s else
      if (sJ G J N gv s.p s.V s.P s.c).w = 0 then rgo (sJ G J N gv) fst oth m tru kn cl al (cnt - 1) k ((if (sJ G J N gv s.p s.V s.P s.c).b = true then fst s.p else oth s.p), (sJ G J N gv s.p s.V s.P s.c).c, (sJ G J N gv s.p s.V s.P s.c).V, (sJ G J N gv s.p s.V s.P s.c).P, s.o + ar m tru (kn (if (sJ G J N gv s.p s.V s.P s.c).b = true then fst s.p else oth s.p)) (cl (if (sJ G J N gv s.p s.V s.P s.c).b = true then fst s.p else oth s.p)) (sJ G J N gv s.p s.V s.P s.c).V (sJ G J N gv s.p s.V s.P s.c).P, s.d + 1, 0)
      else (s.p, (sJ G J N gv s.p s.V s.P s.c).c, (sJ G J N gv s.p s.V s.P s.c).V, (sJ G J N gv s.p s.V s.P s.c).P, s.o + (if m = true ∨ ¬ (al s.p &&& (sJ G J N gv s.p s.V s.P s.c).w) = 0 then 0 else 1), s.d + 1, (sJ G J N gv s.p s.V s.P s.c).w) := rfl
    rw [e]
    by_cases c : s.p = cnt - 1 ∨ ¬ s.w = 0
    · rw [if_pos c]
      exact Z
    · rw [if_neg c]
      have hp1 : s.p + 1 < cnt := by omega
      have Z1 : ZPx (afA (J.c s.p) (G.a s.p)) (afR (J.c s.p) (G.a s.p) (J.sz s.p) (G.rm s.p)) (sJ G J N gv s.p s.V s.P s.c).P := ZP_st (fun k5 => ⟨S6 s.p hp1 k5, S4 s.p hp _ (S6 s.p hp1 k5)⟩) Z
      by_cases w0 : (sJ G J N gv s.p s.V s.P s.c).w = 0
      · rw [if_pos w0]
        by_cases b : (sJ G J N gv s.p s.V s.P s.c).b = true
        · obtain ⟨f1, f2, f3, f4⟩ := S1 s.p hp1
          refine ih _ ?_ ?_
          · show (if (sJ G J N gv s.p s.V s.P s.c).b = true then fst s.p else oth s.p) < cnt
            rw [if_pos b]
            exact f1
          · show ZPx (G.a (if (sJ G J N gv s.p s.V s.P s.c).b = true then fst s.p else oth s.p)) (G.rm (if (sJ G J N gv s.p s.V s.P s.c).b = true then fst s.p else oth s.p)) (sJ G J N gv s.p s.V s.P s.c).P
            rw [if_pos b]
            exact fun y z hy h1 h2 => Z1 y z (Nat.lt_of_lt_of_le hy f3) (by rw [← f4 y hy]; exact h1) h2
        · have k7 : J.c s.p = 7 := by
            by_cases q : J.c s.p = 7
            · exact q
            · exact absurd (s_st_b q) b
          obtain ⟨f1, f2, f3, f4⟩ := S2 s.p hp1 k7
          have eA : afA (J.c s.p) (G.a s.p) = G.a s.p := if_neg (by omega)
          have eR : afR (J.c s.p) (G.a s.p) (J.sz s.p) (G.rm s.p) = G.rm s.p := if_neg (by omega)
          rw [eA, eR] at Z1
          refine ih _ ?_ ?_
          · show (if (sJ G J N gv s.p s.V s.P s.c).b = true then fst s.p else oth s.p) < cnt
            rw [if_neg b]
            exact f1
          · show ZPx (G.a (if (sJ G J N gv s.p s.V s.P s.c).b = true then fst s.p else oth s.p)) (G.rm (if (sJ G J N gv s.p s.V s.P s.c).b = true then fst s.p else oth s.p)) (sJ G J N gv s.p s.V s.P s.c).P
            rw [if_neg b]
            exact fun y z hy h1 h2 => Z1 y z (Nat.lt_of_lt_of_le hy f3) (by rw [← f4 y hy]; exact h1) h2
      · rw [if_neg w0]
        show ZPx (G.a s.p) (G.rm s.p) (sJ G J N gv s.p s.V s.P s.c).P
        by_cases k3 : J.c s.p = 3
        · have e0 : (sJ G J N gv s.p s.V s.P s.c).w = 0 := by
            unfold sJ
            rw [k3]
            rfl
          exact absurd e0 w0
        · have eA : afA (J.c s.p) (G.a s.p) = G.a s.p := if_neg k3
          have eR : afR (J.c s.p) (G.a s.p) (J.sz s.p) (G.rm s.p) = G.rm s.p := if_neg k3
          rw [eA, eR] at Z1
          exact Z1
end ZRs
