set_option maxRecDepth 100000
/-! drafts' states: what a step changes -/
def pE (s s' : pst) (y : Nat) : Prop := s'.K y = s.K y ∧ s'.P y = s.P y ∧ s'.V y = s.V y ∧ s'.F y = s.F y ∧ s'.L y = s.L y ∧ s'.N y = s.N y
def pSm (a : Nat) (s s' : pst) : Prop := ∀ y, y < a → pE s s' y
/-- a draft's fields -/
def nf (s : pst) (o : Nat) (k p v F L N : Int32) : Prop := s.K o = k ∧ s.P o = p ∧ s.V o = v ∧ s.F o = F ∧ s.L o = L ∧ s.N o = N
abbrev pst.dq (s : pst) (t : tr) (o : Bool) (a : Nat) (x : Int32) : Prop := dq6 s.K s.P s.V s.F s.N t o a x
section PEs
variable {s s' s'' : pst} {a o l y z : Nat} {k p v F L N k' p' v' F' L' N' : Int32}
theorem pE_r : pE s s y := ⟨rfl, rfl, rfl, rfl, rfl, rfl⟩
theorem pE_t (x : pE s s' y) (w : pE s' s'' y) : pE s s'' y := ⟨w.1.trans x.1, w.2.1.trans x.2.1, w.2.2.1.trans x.2.2.1, w.2.2.2.1.trans x.2.2.2.1, w.2.2.2.2.1.trans x.2.2.2.2.1, w.2.2.2.2.2.trans x.2.2.2.2.2⟩
theorem pSm_r : pSm a s s := fun _ _ => pE_r
theorem pSm_t (x : pSm a s s') (w : pSm a s' s'') : pSm a s s'' := fun y hy => pE_t (x y hy) (w y hy)
theorem pSm_w {b : Nat} (x : pSm b s s') (h : a ≤ b) : pSm a s s' := fun y hy => x y (by omega)
theorem nf_E (w : nf s o k p v F L N) (x : pE s s' o) : nf s' o k p v F L N := ⟨x.1.trans w.1, x.2.1.trans w.2.1, x.2.2.1.trans w.2.2.1, x.2.2.2.1.trans w.2.2.2.1, x.2.2.2.2.1.trans w.2.2.2.2.1, x.2.2.2.2.2.trans w.2.2.2.2.2⟩
theorem nf_S (w : nf s o k p v F L N) (x : pSm a s s') (h : o < a) : nf s' o k p v F L N := nf_E w (x o h)
theorem ups_s {f : Nat → Int32} {x : Int32} : ups f y x y = x := if_pos rfl
theorem ups_n {f : Nat → Int32} {x : Int32} (h : y ≠ o) : ups f o x y = f y := if_neg h
theorem dft_n : nf (s.dft k p v) s.dr k p v (-1) (-1) (-1) := ⟨ups_s, ups_s, ups_s, ups_s, ups_s, ups_s⟩
theorem dft_E (h : y ≠ s.dr) : pE s (s.dft k p v) y := ⟨ups_n h, ups_n h, ups_n h, ups_n h, ups_n h, ups_n h⟩
theorem dft_m (h : a ≤ s.dr) : pSm a s (s.dft k p v) := fun y hy => dft_E (by omega)
theorem uA_m : pSm a s (s.uA z) := fun _ _ => ⟨rfl, rfl, rfl, rfl, rfl, rfl⟩
theorem ko_m : pSm a s (s.ko z) := fun _ _ => ⟨rfl, rfl, rfl, rfl, rfl, rfl⟩
/-- the first one joined -/
theorem jn1_n (w : nf s o k p v (-1) L N) : nf (s.jn o y) o k p v (Int32.ofNat y) (Int32.ofNat y) N := by
  obtain ⟨w1, w2, w3, w4, w5, w6⟩ := w
  unfold pst.jn
  rw [if_pos w4]
  exact ⟨w1, w2, w3, ups_s, ups_s, w6⟩
theorem jn1_E (w : nf s o k p v (-1) L N) (h : z ≠ o) : pE s (s.jn o y) z := by
  unfold pst.jn
  rw [if_pos w.2.2.2.1]
  exact ⟨rfl, rfl, rfl, ups_n h, ups_n h, rfl⟩
theorem ofn_m {i : Nat} (hi : i < 1000000) : ¬ Int32.ofNat i = -1 := by
  intro z
  have e := congrArg Int32.toInt z
  rw [Int32.toInt_ofNat_of_lt (by omega)] at e
  have e1 : (-1 : Int32).toInt = -1 := rfl
  omega
/-- another one joined -/
theorem jn2_n (w : nf s o k p v F (Int32.ofNat l) N) (hF : ¬ F = -1) (hl : l < 1000000) (h : l ≠ o) : nf (s.jn o y) o k p v F (Int32.ofNat y) N := by
  obtain ⟨w1, w2, w3, w4, w5, w6⟩ := w
  unfold pst.jn
  rw [if_neg (by rw [w4]; exact hF), w5, Int32.toNatClampNeg_ofNat_of_lt (by omega)]
  exact ⟨w1, w2, w3, w4, ups_s, (ups_n (fun z => h z.symm)).trans w6⟩
theorem jn2_l (w : nf s o k p v F (Int32.ofNat l) N) (hF : ¬ F = -1) (hl : l < 1000000) (h : l ≠ o) (u : nf s l k' p' v' F' L' N') : nf (s.jn o y) l k' p' v' F' L' (Int32.ofNat y) := by
  obtain ⟨w1, w2, w3, w4, w5, w6⟩ := w
  obtain ⟨u1, u2, u3, u4, u5, u6⟩ := u
  unfold pst.jn
  rw [if_neg (by rw [w4]; exact hF), w5, Int32.toNatClampNeg_ofNat_of_lt (by omega)]
  exact ⟨u1, u2, u3, u4, (ups_n h).trans u5, ups_s⟩
theorem jn2_E (w : nf s o k p v F (Int32.ofNat l) N) (hF : ¬ F = -1) (hl : l < 1000000) (h1 : z ≠ o) (h2 : z ≠ l) : pE s (s.jn o y) z := by
  obtain ⟨w1, w2, w3, w4, w5, w6⟩ := w
  unfold pst.jn
  rw [if_neg (by rw [w4]; exact hF), w5, Int32.toNatClampNeg_ofNat_of_lt (by omega)]
  exact ⟨rfl, rfl, rfl, rfl, ups_n h1, ups_n h2⟩
theorem jn2_x (w : nf s o k p v F (Int32.ofNat l) N) (hF : ¬ F = -1) (hl : l < 1000000) : (s.jn o y).N l = Int32.ofNat y ∧ ∀ z, (s.jn o y).K z = s.K z ∧ (s.jn o y).P z = s.P z ∧ (s.jn o y).V z = s.V z ∧ (s.jn o y).F z = s.F z ∧ (z ≠ l → (s.jn o y).N z = s.N z) := by
  obtain ⟨w1, w2, w3, w4, w5, w6⟩ := w
  unfold pst.jn
  rw [if_neg (by rw [w4]; exact hF), w5, Int32.toNatClampNeg_ofNat_of_lt (by omega)]
  exact ⟨ups_s, fun z => ⟨rfl, rfl, rfl, rfl, fun h => ups_n h⟩⟩
theorem jn_f : (s.jn o y).at = s.at ∧ (s.jn o y).bd = s.bd ∧ (s.jn o y).fl = s.fl ∧ (s.jn o y).dr = s.dr := by
  unfold pst.jn
  split <;> exact ⟨rfl, rfl, rfl, rfl⟩
/-- trees stay -/
theorem dq_S {t : tr} {b : Bool} {x : Int32} (w : s.dq t b a x) (e : ∀ y, a ≤ y → y < a + dSz t b → pE s s' y) : s'.dq t b a x := dq_f (ts t) t b a x (Nat.le_refl _) (fun y y1 y2 => by
  obtain ⟨q1, q2, q3, q4, q5, q6⟩ := e y y1 y2
  exact ⟨q1, q2, q3, q4, q6⟩) w
theorem dSz_N {n : Nat} {cs : tr} {b : Bool} : dSz (tNd n cs) b = 1 + ts cs := by cases b <;> rfl
theorem dq_N {n : Nat} {cs : tr} {x : Int32} (w : s.dq (tNd n cs) true a x) : s.P (a + dOf n cs) = Int32.ofNat (tP n) ∧ s.N (a + dOf n cs) = x := by
  have w' : dq6 s.K s.P s.V s.F s.N (.branch n cs (.leaf ())) true a x := w
  rw [dq_B] at w'
  exact ⟨w'.1.2.1, w'.2.2⟩
/-- a node with its parts behind it -/
theorem dq_m0 {n : Nat} {cs r : tr} {x : Int32} (w : nf s a k p v F L N) (e1 : k = Int32.ofNat (tK n)) (e2 : p = Int32.ofNat (tP n)) (e3 : v.toInt = tV n) (c : dSc n cs = 0) (e4 : F = dHd cs (a + 1)) (e5 : N = x) (u : s.dq cs false (a + 1) (-1)) : s.dq (.branch n cs r) true a x := by
  obtain ⟨w1, w2, w3, w4, w5, w6⟩ := w
  show dq6 _ _ _ _ _ _ _ _ _
  rw [dq_B, dOf_0 c, Nat.add_zero]
  refine ⟨⟨w1.trans e1, w2.trans e2, by rw [w3]; exact e3⟩, ?_, w6.trans e5⟩
  unfold dCh
  rw [if_pos c]
  exact ⟨w4.trans e4, u⟩
/-- a node behind its first part -/
theorem dq_m1 {n m : Nat} {c r r' : tr} {x : Int32} (w : nf s (a + (1 + ts c)) k p v F L N) (e1 : k = Int32.ofNat (tK n)) (e2 : p = Int32.ofNat (tP n)) (e3 : v.toInt = tV n) (c1 : dSc n (.branch m c r') = 1) (e4 : F = Int32.ofNat (a + dOf m c)) (e5 : N = x) (u1 : s.dq (.branch m c r') true a (dHd r' (a + (1 + ts c) + 1))) (u2 : s.dq r' false (a + (1 + ts c) + 1) (-1)) : s.dq (.branch n (.branch m c r') r) true a x := by
  obtain ⟨w1, w2, w3, w4, w5, w6⟩ := w
  show dq6 _ _ _ _ _ _ _ _ _
  rw [dq_B, dOf_1 c1]
  refine ⟨⟨w1.trans e1, w2.trans e2, by rw [w3]; exact e3⟩, ?_, w6.trans e5⟩
  unfold dCh
  rw [if_neg (by omega), if_pos c1]
  exact ⟨w4.trans e4, u1, u2⟩
end PEs
/-- what a method of the parser leaves: read or at fault -/
def SR (P : Nat → Nat) (r : pqr) (i a : Nat) (s s' : pst) (v : Int32) : Prop := pSm a s s' ∧ s'.at = r.1 ∧ ((∃ n cs, r.2 = some (tNd n cs) ∧ s'.bd = false ∧ s'.fl = s.fl ∧ s'.dr = a + (1 + ts cs) ∧ s'.dq (tNd n cs) true a (-1) ∧ v = Int32.ofNat (a + dOf n cs)) ∨ (r.2 = none ∧ s'.bd = true ∧ s'.fl = Int32.ofNat (P r.1) ∧ a ≤ s'.dr ∧ s'.dr ≤ a + 2 * (r.1 - i) + 4 ∧ (v = -1 ∨ ∃ y, v = Int32.ofNat y ∧ y < s'.dr)))
section SRs
variable {P : Nat → Nat} {K : Nat → Int32} {i j a n : Nat} {cs : tr} {s s' s1 : pst} {v : Int32}
theorem tk_1 {c : Int32} (b : s.bd = false) (e : K s.at = c) : s.tk K P c = s.uA (s.at + 1) := by
  unfold pst.tk; rw [b, if_neg (by decide), if_pos e]
theorem tk_0 {c : Int32} (b : s.bd = false) (e : ¬ K s.at = c) : s.tk K P c = s.ko (P s.at) := by
  unfold pst.tk; rw [b, if_neg (by decide), if_neg e]
theorem tk_b {c : Int32} (b : s.bd = true) : s.tk K P c = s := by
  unfold pst.tk; rw [b, if_pos rfl]
theorem lk_0 (b : s.bd = false) : s.lk K = K s.at := by
  unfold pst.lk; rw [b, if_neg (by decide)]
theorem lk_b (b : s.bd = true) : s.lk K = 1 := by
  unfold pst.lk; rw [b, if_pos rfl]
/-- a tree that is whole -/
theorem SR_ok (m : pSm a s s1) (e1 : s1.at = j) (e2 : s1.bd = false) (e3 : s1.fl = s.fl) (e4 : s1.dr = a + (1 + ts cs)) (e5 : s1.dq (tNd n cs) true a (-1)) : SR P (j, some (tNd n cs)) i a s s1 (Int32.ofNat (a + dOf n cs)) := ⟨m, e1, Or.inl ⟨n, cs, rfl, e2, e3, e4, e5, rfl⟩⟩
theorem SR_no (m : pSm a s s1) (e1 : s1.at = j) (e2 : s1.bd = true) (e3 : s1.fl = Int32.ofNat (P j)) (e4 : a ≤ s1.dr) (e5 : s1.dr ≤ a + 2 * (j - i) + 4) (e6 : v = -1 ∨ ∃ y, v = Int32.ofNat y ∧ y < s1.dr) : SR P (j, none) i a s s1 v := ⟨m, e1, Or.inr ⟨rfl, e2, e3, e4, e5, e6⟩⟩
/-- a token is taken behind a tree that is whole -/
theorem SR_tk {c : Int32} (m : pSm a s s1) (e1 : s1.at = j) (e2 : s1.bd = false) (e3 : s1.fl = s.fl) (e4 : s1.dr = a + (1 + ts cs)) (e5 : s1.dq (tNd n cs) true a (-1)) (hb : 1 + ts cs ≤ 2 * (j - i) + 4) : SR P (tak K c j (j + 1, some (tNd n cs))) i a s (s1.tk K P c) (Int32.ofNat (a + dOf n cs)) := by
  unfold tak
  have ob := dOf_b (n := n) (cs := cs)
  by_cases q : K j = c
  · rw [if_pos q, tk_1 e2 (by rw [e1]; exact q)]
    exact SR_ok (pSm_t m uA_m) (by rw [e1]; rfl) e2 e3 e4 e5
  · rw [if_neg q, tk_0 e2 (by rw [e1]; exact q)]
    exact SR_no (pSm_t m ko_m) e1 rfl (by rw [e1]; rfl) (by show a ≤ s1.dr; omega) (by show s1.dr ≤ _; omega) (Or.inr ⟨_, rfl, by show _ < s1.dr; omega⟩)
end SRs
