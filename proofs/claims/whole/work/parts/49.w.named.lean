set_option maxRecDepth 100000
/-! THE REFERENCE'S PARSER: statements that begin with a NAME -/
/-- what named reads -/
def pgN (K : Nat → Int32) (P : Nat → Nat) (V : Nat → Int) (N d i : Nat) : pqr :=
  if K (i + 1) = 40 then bnd (pgS K P V N (d + 1) (i + 2)) fun r j => (j, some (tNd (tE 7 (P i) 0) (.branch (tE 33 (P i) 0) (.leaf ()) (.branch (tE 13 (P i) i) (.leaf ()) r))))
  else if K (i + 1) = 91 then bnd (pgX K P V N 0 (d + 1) (i + 2)) fun t j => tak K 93 j (tak K 61 (j + 1) (bnd (pgX K P V N 0 (d + 1) (j + 2)) fun u k => (k, some (tNd (tE 6 (P i) 0) (.branch (tE 13 (P i) i) (.leaf ()) (tA t u))))))
  else tak K 61 (i + 1) (
    if K (i + 2) = 2 ∧ K (i + 3) = 40 then bnd (pgS K P V N (d + 1) (i + 4)) fun r j => (j, some (tNd (tE 7 (P i) 0) (.branch (tE 13 (P i) i) (.leaf ()) (.branch (tE 13 (P (i + 2)) ((i + 2 : Nat) : Int)) (.leaf ()) r))))
    else bnd (pgX K P V N 0 (d + 1) (i + 2)) fun t j => (j, some (tNd (tE 5 (P i) 0) (.branch (tE 13 (P i) i) (.leaf ()) t))))
section HBs
variable {D f N : Nat} {h : mh_H} {m : Nat} {K : Nat → Int32} {P : Nat → Nat} {V : Nat → Int} {s s' : pst} {d i a : Nat} {v : Int32}
/-- a token behind it -/
theorem SR_t {r : pqr} {c : Int32} (w : SR P r i a s s' v) (gb : gdr i m 0 r) : SR P (bnd r fun t j => tak K c j (j + 1, some t)) i a s (s'.tk K P c) v := by
  obtain ⟨w1, w2, w3⟩ := w
  obtain ⟨g1, g2, g3⟩ := gb
  obtain ⟨j, ot⟩ := r
  rcases w3 with ⟨n, cs, o1, bd, fl, dr, t, vv⟩ | ⟨o1, bd, fl, dr, dr', vv⟩
  · have o1' : ot = some (tNd n cs) := o1
    subst o1'
    have gs : 1 + ts cs ≤ 2 * (j - i) := (g3 (tNd n cs) rfl).2.1
    subst vv
    rw [bnd_o]
    exact SR_tk w1 w2 bd fl dr t (by omega)
  · have o1' : ot = none := o1
    subst o1'
    rw [tk_b bd]
    exact ⟨w1, w2, Or.inr ⟨rfl, bd, fl, dr, dr', vv⟩⟩
theorem uA_jn {o y z : Nat} : (s.uA z).jn o y = (s.jn o y).uA z := by
  have e : (s.uA z).F = s.F := rfl
  unfold pst.jn
  rw [e]
  by_cases c : s.F o = -1
  · rw [if_pos c, if_pos c]; rfl
  · rw [if_neg c, if_neg c]; rfl
/-- a NAME -/
theorem nm_sr (R : RTK h m K P V) (hi : s.at < m) (eb : s.bd = false) : SR P (tak K 2 s.at (s.at + 1, some (tL (tE 13 (P s.at) s.at)))) s.at s.dr s (s.nm K P) (Int32.ofNat s.dr) := by
  have hp := (R.p _ hi).2
  have hm := R.m
  have eb' : (s.dft 13 (Int32.ofNat (P s.at)) (Int32.ofNat s.at)).bd = false := eb
  obtain ⟨t1, t2, t3⟩ := tE_13 hp (k := 13) (i := s.at) (by decide) (by omega)
  unfold tak pst.nm
  by_cases c2 : K s.at = 2
  · rw [if_pos c2, tk_1 eb' c2]
    have ST := SR_ok (P := P) (i := s.at) (j := s.at + 1) (n := tE 13 (P s.at) s.at) (cs := .leaf ()) (s1 := (s.dft 13 (Int32.ofNat (P s.at)) (Int32.ofNat s.at)).uA (s.at + 1)) (s := s) (a := s.dr) (pSm_t (dft_m (Nat.le_refl _)) uA_m) rfl eb rfl rfl (dq_m0 (cs := .leaf ()) (dft_n (s := s)) t1 t2 t3 d13 rfl rfl trivial)
    rw [dOf_0 d13] at ST
    exact ST
  · rw [if_neg c2, tk_0 eb' c2]
    exact SR_no (pSm_t (dft_m (Nat.le_refl _)) ko_m) rfl rfl rfl (by show s.dr ≤ s.dr + 1; omega) (by show s.dr + 1 ≤ _; omega) (Or.inr ⟨_, rfl, by show s.dr < s.dr + 1; omega⟩)
theorem nam_b (hm : tkM K m) {j : Nat} (hj : j < m) : gdr j m 0 (tak K 2 j (j + 1, some (tL (tE 13 (P j) (j : Int))))) := gd_tak (Nat.le_refl _) hj (fun c => gd_0 (by omega) (tkM_s hm hj c (by decide) (by decide)) (by rw [ts_l]; omega))
/-- done: a call without a NAME in front -/
theorem GS_e2 {s0 : pst} {x : pqr} {pp : Nat} (w : GS P true s0 i a (a + 1) a (a + 3) (Int32.ofNat (a + 2)) 7 (Int32.ofNat pp) 0 s' x) (hp : pp ≤ 16400) (m0 : pSm a s s0) (f0 : s0.fl = s.fl) {iv : Nat} (hiv : iv < 2147483648) (b0 : nf s0 a 13 (Int32.ofNat pp) (Int32.ofNat iv) (-1) (s0.L a) (s0.N a)) (b1 : nf s0 (a + 2) 33 (Int32.ofNat pp) 0 (-1) (s0.L (a + 2)) (Int32.ofNat a)) : SR P (bnd x fun r j => (j, some (tNd (tE 7 pp 0) (.branch (tE 33 pp 0) (.leaf ()) (.branch (tE 13 pp iv) (.leaf ()) r))))) i a s s' (Int32.ofNat (a + 1)) := by
  obtain ⟨w1, w2, w3, w4, w5, w6⟩ := w
  obtain ⟨j, ot⟩ := x
  rcases w6 with ⟨r, o1, bd, fl, dr, bo, gn⟩ | ⟨o1, bd, fl, dr, bo⟩
  · have o1' : ot = some r := o1
    subst o1'
    obtain ⟨g1, g2⟩ := gn
    rw [if_pos rfl] at g1
    obtain ⟨g1, g3, -⟩ := g1
    obtain ⟨u1, u2, u3, u4⟩ := w5 a (by omega) (by omega)
    have nq : nf s' a 13 (Int32.ofNat pp) (Int32.ofNat iv) (-1) (s'.L a) (dHd r (a + 3)) := ⟨u1.trans b0.1, u2.trans b0.2.1, u3.trans b0.2.2.1, u4.trans b0.2.2.2.1, rfl, g3⟩
    have n33 := nf_E b1 (w4 (a + 2) (by omega) (by omega) (by omega))
    obtain ⟨t1, t2, t3⟩ := tE_13 hp (k := 13) (i := iv) (by decide) hiv
    have d33 : dSc (tE 33 pp 0) (.leaf ()) = 0 := by unfold dSc; rw [tE_K (by decide)]; rfl
    have c2 : dSc (tE 7 pp 0) (.branch (tE 33 pp 0) (.leaf ()) (.branch (tE 13 pp iv) (.leaf ()) r)) = 2 := by
      unfold dSc
      rw [tE_K (by decide), if_pos rfl]
      show (if tK (tE 33 pp 0) = 33 then 2 else 1) = 2
      rw [tE_K (by decide)]; rfl
    have dt : s'.dq (tNd (tE 7 pp 0) (.branch (tE 33 pp 0) (.leaf ()) (.branch (tE 13 pp iv) (.leaf ()) r))) true a (-1) := by
      show dq6 _ _ _ _ _ (.branch _ _ _) _ _ _
      rw [dq_B, dOf_2 (by omega) (by omega)]
      refine ⟨⟨by rw [g1.1, tE_K (by decide)]; rfl, by rw [g1.2.1, tE_P (by decide) (by omega)], by rw [g1.2.2.1, tE_V (by decide) (by omega)]; rfl⟩, ?_, g1.2.2.2.2.2⟩
      unfold dCh
      rw [if_neg (by omega), if_neg (by omega)]
      refine ⟨rfl, rfl, g1.2.2.2.1, ?_, ?_, g2⟩
      · exact dq_m0 (s := s') (cs := .leaf ()) n33 (by rw [tE_K (by decide)]; rfl) (by rw [tE_P (by decide) (by omega)]) (by rw [tE_V (by decide) (by omega)]; rfl) d33 rfl rfl trivial
      · exact dq_m0 (s := s') (cs := .leaf ()) nq t1 t2 t3 d13 rfl rfl trivial
    have ST := SR_ok (P := P) (i := i) (pSm_t m0 w1) w2 bd (fl.trans f0) (by rw [dr]; show _ = a + (1 + (1 + 0 + (1 + 0 + ts r))); omega) dt
    rw [dOf_2 (by omega) (by omega)] at ST
    exact ST
  · have o1' : ot = none := o1
    subst o1'
    exact SR_no (pSm_t m0 w1) w2 bd fl (by omega) bo (Or.inr ⟨_, rfl, by omega⟩)
end HBs
