set_option maxRecDepth 100000
/-! THE REFERENCE'S PARSER: a NAME and a node behind it; var -/
section GXs
variable {D f N : Nat} {h : mh_H} {m : Nat} {K : Nat → Int32} {P : Nat → Nat} {V : Nat → Int} {s : pst} {d : Nat}
/-- a NAME, the node behind it, joined -/
def pst.two (s : pst) (P : Nat → Nat) (kk p : Int32) : pst := (((s.dft 13 (Int32.ofNat (P s.at)) (Int32.ofNat s.at)).uA (s.at + 1)).dft kk p 0).jn (s.dr + 1) s.dr
theorem two_f {kk p : Int32} : (s.two P kk p).at = s.at + 1 ∧ (s.two P kk p).bd = s.bd ∧ (s.two P kk p).fl = s.fl ∧ (s.two P kk p).dr = s.dr + 2 ∧ pSm s.dr s (s.two P kk p) ∧ nf (s.two P kk p) (s.dr + 1) kk p 0 (Int32.ofNat s.dr) (Int32.ofNat s.dr) (-1) ∧ nf (s.two P kk p) s.dr 13 (Int32.ofNat (P s.at)) (Int32.ofNat s.at) (-1) (-1) (-1) := by
  obtain ⟨s1, hs1⟩ : ∃ x : pst, x = (s.dft 13 (Int32.ofNat (P s.at)) (Int32.ofNat s.at)).uA (s.at + 1) := ⟨_, rfl⟩
  have dr1 : s1.dr = s.dr + 1 := by rw [hs1]; rfl
  have m1 : pSm s.dr s s1 := by rw [hs1]; exact pSm_t (dft_m (Nat.le_refl _)) uA_m
  have a1 : nf s1 s.dr 13 (Int32.ofNat (P s.at)) (Int32.ofNat s.at) (-1) (-1) (-1) := by rw [hs1]; exact dft_n (s := s)
  have b2 : nf (s1.dft kk p 0) (s.dr + 1) kk p 0 (-1) (-1) (-1) := by rw [← dr1]; exact dft_n
  obtain ⟨f1, f2, f3, f4⟩ := jn_f (s := s1.dft kk p 0) (o := s.dr + 1) (y := s.dr)
  have e : s.two P kk p = (s1.dft kk p 0).jn (s.dr + 1) s.dr := by rw [hs1]; rfl
  rw [e]
  refine ⟨f1.trans (by rw [hs1]; rfl), f2.trans (by rw [hs1]; rfl), f3.trans (by rw [hs1]; rfl), f4.trans (by show s1.dr + 1 = _; omega), fun y hy => pE_t (m1 y hy) (pE_t (show pE s1 (s1.dft kk p 0) y from dft_E (by omega)) (jn1_E b2 (by omega))), jn1_n b2, nf_E (nf_E a1 (dft_E (by omega))) (jn1_E b2 (by omega))⟩
/-- what is built then -/
theorem GS_1 {s0 : pst} {i j : Nat} {kk p : Int32} (hi : i ≤ j) (ea : s0.at = j) (eb : s0.bd = false) {a : Nat} (ed : s0.dr = a + 2) (hb : a + 2 ≤ a + 2 * (j - i)) (ha : a < 52000) (w : nf s0 (a + 1) kk p 0 (Int32.ofNat a) (Int32.ofNat a) (-1)) (w2 : s0.N a = -1) : GS P true s0 i a (a + 1) a (a + 2) (Int32.ofNat a) kk p 0 s0 (j, some (.leaf ())) := by
  refine ⟨pSm_r, ea, ⟨by omega, by omega, Nat.le_refl _, hi⟩, fun y y1 y2 _ => pE_r, fun y y1 y2 => ⟨rfl, rfl, rfl, rfl⟩, Or.inl ⟨_, rfl, eb, rfl, ed, hb, ?_, trivial⟩⟩
  rw [if_pos rfl]
  exact ⟨w, w2, by omega, by omega, ofn_m (by omega)⟩
/-- heap: the NAME, the node -/
theorem two_r (R : RTK h m K P V) (hi : s.at < m) (eb : s.bd = false) (hd : s.dr + 4 ≤ 52000) (c : K s.at = 2) {kk p : Int32} : (∀ Q, mcall (D + 2) 315 [.ref 81] (pH h s) Q = Q (some (.int (Int32.ofNat s.dr))) (pH h ((s.dft 13 (Int32.ofNat (P s.at)) (Int32.ofNat s.at)).uA (s.at + 1)))) ∧ (∀ Q, mcall D 313 [.ref 81, .int kk, .int p, .int 0] (pH h ((s.dft 13 (Int32.ofNat (P s.at)) (Int32.ofNat s.at)).uA (s.at + 1))) Q = Q (some (.int (Int32.ofNat (s.dr + 1)))) (pH h (((s.dft 13 (Int32.ofNat (P s.at)) (Int32.ofNat s.at)).uA (s.at + 1)).dft kk p 0))) ∧ (∀ Q, mcall D 314 [.ref 81, .int (Int32.ofNat (s.dr + 1)), .int (Int32.ofNat s.dr)] (pH h (((s.dft 13 (Int32.ofNat (P s.at)) (Int32.ofNat s.at)).uA (s.at + 1)).dft kk p 0)) Q = Q none (pH h (s.two P kk p))) := by
  have q1 := c_315 (D := D) R hi (by omega)
  have e2 : s.nm K P = (s.dft 13 (Int32.ofNat (P s.at)) (Int32.ofNat s.at)).uA (s.at + 1) := by
    unfold pst.nm
    exact tk_1 (s := s.dft 13 (Int32.ofNat (P s.at)) (Int32.ofNat s.at)) eb c
  rw [e2] at q1
  refine ⟨q1, ?_, ?_⟩
  · exact c_313 (D := D) (s := (s.dft 13 (Int32.ofNat (P s.at)) (Int32.ofNat s.at)).uA (s.at + 1)) R.F (by show s.dr + 1 < 52000; omega)
  · refine c_314 R.F (by omega) (by omega) (fun z => absurd ?_ z)
    exact (dft_n (s := (s.dft 13 (Int32.ofNat (P s.at)) (Int32.ofNat s.at)).uA (s.at + 1)) (k := kk) (p := p) (v := 0)).2.2.2.1
/-- a NUMBER -/
theorem nb_num (R : RTK h m K P V) (hi : s.at < m) (eb : s.bd = false) : SR P (tak K 3 s.at (s.at + 1, some (tL (tE 12 (P s.at) (V s.at))))) s.at s.dr s (s.nb K P V false) (Int32.ofNat s.dr) := by
  have hp := (R.p _ hi).2
  have e1 : s.n1 K P false = s := if_neg (fun z => absurd z.1 (by decide))
  unfold tak pst.nb
  rw [e1, if_neg (show ¬ (false = true ∧ s.lk K = 45) from fun z => absurd z.1 (by decide)), lk_0 eb]
  by_cases c2 : K s.at = 3
  · have v0 := nv_0 R hi c2
    rw [if_pos c2, tk_1 eb c2, if_pos c2]
    have ST := SR_ok (P := P) (i := s.at) (j := s.at + 1) (n := tE 12 (P s.at) (V s.at)) (cs := .leaf ()) (s1 := (s.uA (s.at + 1)).dft 12 (Int32.ofNat (P s.at)) (1 * Int32.ofInt (V s.at))) (s := s) (a := s.dr) (pSm_t uA_m (dft_m (Nat.le_refl _))) rfl eb rfl rfl (dq_m0 (cs := .leaf ()) dft_n (by rw [tE_K (by decide)]; rfl) (by rw [tE_P (by decide) (by omega)]) (by rw [tE_V (by decide) (by omega), nv_1 v0.1 v0.2]) d12 rfl rfl trivial)
    rw [dOf_0 d12] at ST
    exact ST
  · rw [if_neg c2, tk_0 eb c2]
    exact SR_no (pSm_t ko_m (dft_m (Nat.le_refl _))) rfl rfl rfl (by show s.dr ≤ s.dr + 1; omega) (by show s.dr + 1 ≤ _; omega) (Or.inr ⟨_, rfl, by show s.dr < s.dr + 1; omega⟩)
theorem num_b (hm : tkM K m) {j : Nat} (hj : j < m) : gdr j m 0 (tak K 3 j (j + 1, some (tL (tE 12 (P j) (V j))))) := gd_tak (Nat.le_refl _) hj (fun c => gd_0 (by omega) (tkM_s hm hj c (by decide) (by decide)) (by rw [ts_l]; omega))
end GXs
