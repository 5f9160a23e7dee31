set_option maxRecDepth 100000
/-! the class's parser over statements: all -/
section ALz
variable {d : Nat} {h : mh_H} {B n m : Nat} {Bt : Nat → Int32} {K : Nat → Int32} {P U : Nat → Nat} {V : Nat → Int} {s : cps} {L : cen} {w b i dp N f : Nat}
theorem RTa_w {sp : Nat → Nat → Bool} {k1 k2 : Nat} (hk : k1 ≤ k2) : ∀ r, RTa d h B n m sp K P f s w L b i dp k1 r → RTa d h B n m sp K P f s w L b i dp k2 r := by
  intro r R
  rcases r with ⟨j, _ | t⟩
  · obtain ⟨k, s2, p2, F2, b2, f2, f3⟩ := R
    exact ⟨k, s2, p2, F2, by omega, f2, f3⟩
  · exact R
theorem x_stm (bb : CPB h B n) (t : CTK h B n m Bt K P U V) (hN8 : 8 * m + 6 ≤ N) (h2 : HB2 (d + 10) h B n m Bt K P U V N f) : HB1 (d + 10) h B n m Bt K P U V N (f + 1) := by
  intro i dp s w L b hf H T hw
  rw [pgB_1]
  by_cases c5 : K i = 5
  · rw [if_pos c5]
    exact t_var bb t hN8 H T hw c5
  rw [if_neg c5]
  by_cases c2 : K i = 2
  · rw [if_pos c2]
    exact z_nam bb t hN8 H T hw c2
  rw [if_neg c2]
  by_cases c6 : K i = 6
  · rw [if_pos c6]
    exact z_if bb t hN8 h2 (by omega) H T hw c6
  rw [if_neg c6]
  by_cases c8 : K i = 8
  · rw [if_pos c8]
    exact z_whi bb t hN8 h2 (by omega) H T hw c8
  rw [if_neg c8]
  by_cases c9 : K i = 9
  · rw [if_pos c9]
    exact t_ass bb t hN8 H T hw c9
  rw [if_neg c9]
  by_cases c10 : K i = 10
  · rw [if_pos c10]
    exact RTa_w (by decide) _ (t_ret bb t hN8 H T hw c10)
  rw [if_neg c10]
  have hb := H.j
  have hm := t.m
  have hn := bb.n
  obtain ⟨e1, e2, e3⟩ := H.e
  have hN3 := H.N
  obtain ⟨q4, q5, q6, q7⟩ := H.c
  have gw : w < gL n := gL_w t hb e3 e2 (by omega)
  have e : (u1 s 0 w).1 1 = i := H.i
  have z := c_58f (d := d) (s := u1 s 0 w) bb t (by rw [e]; exact hb) T.f (by rw [e]; exact c2) (by rw [e]; exact c5) (by rw [e]; exact c6) (by rw [e]; exact c8) (by rw [e]; exact c9) (by rw [e]; exact c10)
  rw [e] at z
  exact ⟨1, _, it_58 bb T gw z, CVx_W (CSx_1 (w := w) (c := 0) (v := w) (by decide)) CWx_f (by show s.1 8 ≤ _; omega), by omega, rfl, by show s.1 6 ≤ _; omega⟩
theorem x_bls (bb : CPB h B n) (t : CTK h B n m Bt K P U V) (hN8 : 8 * m + 6 ≤ N) : ∀ f, HB0 (d + 10) h B n m Bt K P U V N f ∧ HB1 (d + 10) h B n m Bt K P U V N f ∧ HB2 (d + 10) h B n m Bt K P U V N f := by
  intro f
  induction f with
  | zero =>
    refine ⟨fun i dp s w L b hf H T hw => ?_, fun i dp s w L b hf H T hw => ?_, fun i dp s w L hf H T hw => ?_⟩
    · omega
    · omega
    · have := H.j
      omega
  | succ f ih => exact ⟨x_rows bb t ih.2.1 ih.1, x_stm bb t hN8 ih.2.2, x_blk bb t ih.1⟩
end ALz
