set_option maxRecDepth 100000
/-! CLAIMS: what one call makes of them, on either side -/
theorem cl_ofI (x : Int64) : Int64.ofInt x.toInt = x := Int64.ofInt_toInt x
noncomputable def cmO (v w : Nat) (c : Int) (A : ab) : Option ab := if a_gr A v w ≤ c then some A else if c < -a_gr A (oc_b v) (oc_b w) then none else a_cl (a_lim v w c A)
def cmV (v w : Nat) (c : Int) (A : ab) : Int32 := if a_gr A v w ≤ c then 0 else 1
theorem gr_b {A : ab} (T : ab_T A) {v w : Nat} (hv : v < 2 * A.n) (hw : w < 2 * A.n) : -4294967296 ≤ a_gr A v w ∧ a_gr A v w ≤ 4294967296 := by
  have z := T.lo2 (oc_bl hw) hv
  unfold a_gr
  split <;> omega
theorem gr_2 {A : ab} (T : ab_T A) {v : Nat} (hv : v < 2 * A.n) : 2 * a_gr A v v = A.m (oc_b v) v := by
  have z := T.t.2.2.1 (oc_b v) (oc_bl hv)
  rw [oc_bb] at z
  unfold a_gr
  rw [if_pos rfl]
  omega
theorem lim_le {A : ab} {v w : Nat} {c : Int} (i j : Nat) : (a_lim v w c A).m i j ≤ A.m i j := by
  rw [a_lim_at]
  split <;> omega
theorem lim_cc {A : ab} {v w : Nat} {c : Int} : (a_lim v w c A).m (oc_b w) v ≤ (if v = w then 2 * c else c) := by
  rw [a_lim_at, if_pos (Or.inl ⟨rfl, rfl⟩)]
  omega
theorem a_cl_G {A B : ab} (h : a_cl A = some B) : oc_G A.n A.m B.m ∧ B.n = A.n ∧ B.a = A.a ∧ B.lo = A.lo ∧ B.hi = A.hi ∧ B.rm = A.rm := by
  by_cases e : ∃ t, oc_G A.n A.m t
  · obtain ⟨t, ht⟩ := e
    obtain ⟨C, h1, h2, h3, h4, h5, h6, h7, h8⟩ := a_cl_some ht
    rw [h] at h1
    cases h1
    exact ⟨h7, h2, h3, h4, h5, h6⟩
  · unfold a_cl at h
    rw [dif_neg e] at h
    cases h
theorem cm_shp {n a : Nat} {rm : Nat → Nat} {A : ab} (s : shp n a rm (some A)) {v w : Nat} {c : Int} : shp n a rm (cmO v w c A) := by
  unfold cmO
  split
  · exact s
  · split
    · intro B e; cases e
    · intro B e
      obtain ⟨T, s1, s2, s3⟩ := s A rfl
      obtain ⟨w1, w2, w3, -, -, w6⟩ := a_cl_T e T.n12 T.a6 (fun i j hi hj hij => Int.le_trans (lim_le i j) (T.up i j hi hj hij)) T.e
      exact ⟨w1, w2.trans s1, w3.trans s2, fun x hx => by rw [w6]; exact s3 x hx⟩
theorem a_le_id {A : ab} : a_le A A := ⟨fun _ _ _ _ => Int.le_refl _, fun _ _ => ⟨Int.le_refl _, Int.le_refl _⟩⟩
theorem cm_le {A : ab} {v w : Nat} {c : Int} : o_le (cmO v w c A) (some A) := by
  unfold cmO
  split
  · exact a_le_id
  · split
    · trivial
    · cases e : a_cl (a_lim v w c A) with
      | none => trivial
      | some B =>
        obtain ⟨g, e1, e2, e3, e4, -⟩ := a_cl_G e
        refine ⟨fun i j hi hj => Int.le_trans (g.2.1 i j (by rw [← e1]; exact hi) (by rw [← e1]; exact hj)) (lim_le i j), fun x hx => ?_⟩
        rw [e3, e4]
        exact ⟨Int.le_refl _, Int.le_refl _⟩
/-- a limit that says no more -/
theorem cR_1 {A : ab} (T : ab_T A) {v w : Nat} {c : Int} (hv : v < 2 * A.n) (hw : w < 2 * A.n) (h : a_gr A v w ≤ c) : ∃ B, a_cl (a_lim v w c A) = some B ∧ B.n = A.n ∧ B.a = A.a ∧ B.lo = A.lo ∧ B.hi = A.hi ∧ B.rm = A.rm ∧ ∀ i j, i < 2 * A.n → j < 2 * A.n → B.m i j = A.m i j := by
  have key : A.m (oc_b w) v ≤ if v = w then 2 * c else c := by
    by_cases e : v = w
    · subst e
      rw [if_pos rfl, ← gr_2 T hv]
      omega
    · rw [if_neg e]
      unfold a_gr at h
      rw [if_neg e] at h
      exact h
  have key2 : A.m (oc_b v) w = A.m (oc_b w) v := by
    rw [T.t.1.2 (oc_b v) w (oc_bl hv) hw, oc_bb]
  have same : ∀ i j, i < 2 * A.n → j < 2 * A.n → (a_lim v w c A).m i j = A.m i j := fun i j hi hj => by
    rw [a_lim_at]
    split
    · rename_i e
      rcases e with ⟨e1, e2⟩ | ⟨e1, e2⟩
      · subst e1; subst e2; omega
      · subst e1; subst e2; omega
    · rfl
  have g : oc_G (a_lim v w c A).n (a_lim v w c A).m A.m := ⟨T.t, fun i j hi hj => Int.le_of_eq (same i j hi hj).symm, fun a _ ha i j hi hj => Int.le_trans (ha i j hi hj) (Int.le_of_eq (same i j hi hj))⟩
  obtain ⟨B, h1, h2, h3, h4, h5, h6, -, h8⟩ := a_cl_some g
  exact ⟨B, h1, h2, h3, h4, h5, h6, h8⟩
/-- a limit that leaves nothing -/
theorem cR_2 {A : ab} (T : ab_T A) {v w : Nat} {c : Int} (hv : v < 2 * A.n) (hw : w < 2 * A.n) (h : c < -a_gr A (oc_b v) (oc_b w)) : a_cl (a_lim v w c A) = none := by
  apply a_cl_none
  intro t ht hle
  have z := oc_T_cyc ht (oc_bl hw) hv
  have l1 := Int.le_trans (hle (oc_b w) v (oc_bl hw) hv) lim_cc
  have l2 := Int.le_trans (hle v (oc_b w) hv (oc_bl hw)) (lim_le v (oc_b w))
  have l3 : A.m v (oc_b w) = A.m w (oc_b v) := by rw [T.t.1.2 v (oc_b w) hv (oc_bl hw), oc_bb]
  by_cases e : v = w
  · subst e
    have g := gr_2 T (oc_bl hv)
    rw [oc_bb] at g
    rw [if_pos rfl] at l1
    omega
  · have e' : oc_b v ≠ oc_b w := fun z => e (by rw [← oc_bb v, z, oc_bb])
    unfold a_gr at h
    rw [if_neg e', oc_bb] at h
    rw [if_neg e] at l1
    omega
/-- a limit that says more -/
theorem cR_3 {A : ab} (T : ab_T A) {v w : Nat} {c : Int} (hv : v < 2 * A.n) (hw : w < 2 * A.n) (h : c < a_gr A v w) : ¬ o_le (some A) (a_cl (a_lim v w c A)) := by
  cases e : a_cl (a_lim v w c A) with
  | none => exact fun z => z
  | some B =>
    intro z
    obtain ⟨g, e1, -⟩ := a_cl_G e
    have l1 := z.1 (oc_b w) v (oc_bl hw) hv
    have l2 := Int.le_trans (g.2.1 (oc_b w) v (oc_bl hw) hv) lim_cc
    by_cases e : v = w
    · subst e
      have g := gr_2 T hv
      rw [if_pos rfl] at l2
      omega
    · unfold a_gr at h
      rw [if_neg e] at h
      rw [if_neg e] at l2
      omega
/-! slots and signs -/
theorem okT_n {n : Nat} {x s y t : Int32} (hn : n < 2147483648) (h : okT n x s y t = true) : ∃ k l, k < n ∧ l < n ∧ x = Int32.ofNat k ∧ y = Int32.ofNat l ∧ (s = 1 ∨ s = -1) ∧ (t = 1 ∨ t = -1) ∧ sgx x s < 2 * n ∧ sgx y t < 2 * n ∧ sgx x s ≠ oc_b (sgx y t) := by
  unfold okT at h
  rw [Bool.and_eq_true, Bool.and_eq_true, decide_eq_true_eq, decide_eq_true_eq, decide_eq_true_eq] at h
  obtain ⟨⟨a1, a2, a3, a4⟩, ⟨b1, b2⟩, c⟩ := h
  obtain ⟨k, k1, k2, k3⟩ := okP_n (p := x) hn (by unfold okP; exact decide_eq_true ⟨a1, a2⟩)
  obtain ⟨l, l1, l2, l3⟩ := okP_n (p := y) hn (by unfold okP; exact decide_eq_true ⟨a3, a4⟩)
  have r : ∀ z u : Int32, ∀ k, z.toNatClampNeg = k → sgx z u = 2 * k ∨ sgx z u = 2 * k + 1 := fun z u k e => by
    unfold sgx
    rw [e]
    split
    · exact Or.inl rfl
    · exact Or.inr rfl
  have r1 := r x s k k3
  have r2 := r y t l l3
  refine ⟨k, l, k1, l1, k2, l2, b1, b2, by omega, by omega, fun e => ?_⟩
  have h2 := oc_bh (sgx y t)
  rw [← e] at h2
  have kl : k = l := by omega
  have xy : x = y := by rw [k2, l2, kl]
  have st := c xy
  subst xy
  subst st
  exact oc_bn _ e.symm
def upC (cl : Nat → Option ab) (q : Nat) (X : Option ab) : Nat → Option ab := fun q' => if q' = q then X else cl q'
theorem upC_s {cl : Nat → Option ab} {q : Nat} {X : Option ab} : upC cl q X q = X := if_pos rfl
theorem upC_n {cl : Nat → Option ab} {q q' : Nat} {X : Option ab} (h : q' ≠ q) : upC cl q X q' = cl q' := if_neg h
theorem upC_i {cl : Nat → Option ab} {q : Nat} : upC cl q (cl q) = cl := funext fun q' => by unfold upC; split <;> simp_all
/-- bound -/
def bdR (G : pgm) (cnt : Nat) (st : Nat → Option ab) (p x s y t : Int32) : Int64 := if okB G cnt p x s y t = true then (match st p.toNatClampNeg with | none => -1099511627776 | some A => Int64.ofInt (a_gr A (sgx x s) (sgx y t))) else -1099511627776
/-- range -/
def rgR (G : pgm) (cnt : Nat) (st : Nat → Option ab) (p a g : Int32) : Int64 := if okA G cnt p a = true then (match st p.toNatClampNeg with | none => -1099511627776 | some A => Int64.ofInt (if g = 0 then A.lo a.toNatClampNeg else A.hi a.toNatClampNeg)) else -1099511627776
/-- claim: what is answered, and the claims behind it -/
def cmR (G : pgm) (cnt : Nat) (cl : Nat → Option ab) (p x s y t : Int32) (c : Int64) : Int32 := if okB G cnt p x s y t = true then (match cl p.toNatClampNeg with | none => 0 | some A => cmV (sgx x s) (sgx y t) c.toInt A) else -1
noncomputable def cmC (G : pgm) (cnt : Nat) (cl : Nat → Option ab) (p x s y t : Int32) (c : Int64) : Nat → Option ab := if okB G cnt p x s y t = true then (match cl p.toNatClampNeg with | none => cl | some A => upC cl p.toNatClampNeg (cmO (sgx x s) (sgx y t) c.toInt A)) else cl
/-- claimRange -/
def rgO (a : Nat) (g : Int32) (c : Int) (A : ab) : ab := ab_mk A.n A.a A.m (fun x => if x = a ∧ g = 0 then c else A.lo x) (fun x => if x = a ∧ ¬ g = 0 then c else A.hi x) A.rm
def rgV (a : Nat) (g : Int32) (c : Int) (A : ab) : Int32 := if (if g = 0 then c ≤ A.lo a else A.hi a ≤ c) then 0 else 1
def rgP (a : Nat) (g : Int32) (c : Int) (A : ab) : Option ab := if (if g = 0 then c ≤ A.lo a else A.hi a ≤ c) then some A else if (rgO a g c A).hi a < (rgO a g c A).lo a then none else some (rgO a g c A)
def crR (G : pgm) (cnt : Nat) (cl : Nat → Option ab) (p a g c : Int32) : Int32 := if okA G cnt p a = true then (match cl p.toNatClampNeg with | none => 0 | some A => rgV a.toNatClampNeg g c.toInt A) else -1
def crC (G : pgm) (cnt : Nat) (cl : Nat → Option ab) (p a g c : Int32) : Nat → Option ab := if okA G cnt p a = true then (match cl p.toNatClampNeg with | none => cl | some A => upC cl p.toNatClampNeg (rgP a.toNatClampNeg g c.toInt A)) else cl
theorem rg_shp {n a : Nat} {rm : Nat → Nat} {A : ab} (s : shp n a rm (some A)) {b : Nat} {g : Int32} {c : Int} (hc : -2147483648 ≤ c ∧ c ≤ 2147483647) : shp n a rm (rgP b g c A) := by
  unfold rgP
  by_cases e1 : (if g = 0 then c ≤ A.lo b else A.hi b ≤ c)
  · rw [if_pos e1]; exact s
  · rw [if_neg e1]
    by_cases e2 : (rgO b g c A).hi b < (rgO b g c A).lo b
    · rw [if_pos e2]; intro B e; cases e
    · rw [if_neg e2]
      intro B e
      cases e
      obtain ⟨T, s1, s2, s3⟩ := s A rfl
      refine ⟨⟨T.n12, T.a6, T.t, T.up, fun x hx => ?_⟩, s1, s2, s3⟩
      have z := T.e x hx
      have el : (rgO b g c A).lo x = if x = b ∧ g = 0 then c else A.lo x := rfl
      have eh : (rgO b g c A).hi x = if x = b ∧ ¬ g = 0 then c else A.hi x := rfl
      by_cases xb : x = b
      · subst xb
        by_cases g0 : g = 0
        · rw [if_pos ⟨rfl, g0⟩] at el
          rw [if_neg (fun z => z.2 g0)] at eh
          rw [if_pos g0] at e1
          rw [el, eh] at e2 ⊢
          omega
        · rw [if_neg (fun z => g0 z.2)] at el
          rw [if_pos ⟨rfl, g0⟩] at eh
          rw [if_neg g0] at e1
          rw [el, eh] at e2 ⊢
          omega
      · rw [el, eh, if_neg (fun z => xb z.1), if_neg (fun z => xb z.1)]
        exact z
theorem rg_le {A : ab} {b : Nat} {g : Int32} {c : Int} : o_le (rgP b g c A) (some A) := by
  unfold rgP
  by_cases e1 : (if g = 0 then c ≤ A.lo b else A.hi b ≤ c)
  · rw [if_pos e1]; exact a_le_id
  · rw [if_neg e1]
    by_cases e2 : (rgO b g c A).hi b < (rgO b g c A).lo b
    · rw [if_pos e2]; trivial
    · rw [if_neg e2]
      refine ⟨fun _ _ _ _ => Int.le_refl _, fun x hx => ?_⟩
      have el : (rgO b g c A).lo x = if x = b ∧ g = 0 then c else A.lo x := rfl
      have eh : (rgO b g c A).hi x = if x = b ∧ ¬ g = 0 then c else A.hi x := rfl
      by_cases g0 : g = 0
      · rw [if_pos g0] at e1
        rw [if_neg (fun z => z.2 g0)] at eh
        by_cases xb : x = b
        · subst xb
          rw [if_pos ⟨rfl, g0⟩] at el
          omega
        · rw [if_neg (fun z => xb z.1)] at el
          omega
      · rw [if_neg g0] at e1
        rw [if_neg (fun z => g0 z.2)] at el
        by_cases xb : x = b
        · subst xb
          rw [if_pos ⟨rfl, g0⟩] at eh
          omega
        · rw [if_neg (fun z => xb z.1)] at eh
          omega
/-- what it says more isn't known before -/
theorem rg_n {A : ab} {b : Nat} {g : Int32} {c : Int} (hb : b < A.a) (h : ¬ (if g = 0 then c ≤ A.lo b else A.hi b ≤ c)) : ¬ o_le (some A) (if (rgO b g c A).hi b < (rgO b g c A).lo b then none else some (rgO b g c A)) := by
  split
  · exact fun z => z
  · intro z
    obtain ⟨z1, z2⟩ := z.2 b hb
    have el : (rgO b g c A).lo b = if b = b ∧ g = 0 then c else A.lo b := rfl
    have eh : (rgO b g c A).hi b = if b = b ∧ ¬ g = 0 then c else A.hi b := rfl
    rw [el] at z1
    rw [eh] at z2
    by_cases g0 : g = 0
    · rw [if_pos g0] at h
      rw [if_pos ⟨rfl, g0⟩] at z1
      omega
    · rw [if_neg g0] at h
      rw [if_pos ⟨rfl, g0⟩] at z2
      omega
/-- claimNothing -/
def cnR (cnt : Nat) (cl : Nat → Option ab) (p : Int32) : Int32 := if okP cnt p = true then (match cl p.toNatClampNeg with | none => 0 | some _ => 1) else -1
def cnC (cnt : Nat) (cl : Nat → Option ab) (p : Int32) : Nat → Option ab := if okP cnt p = true then upC cl p.toNatClampNeg none else cl
/-- claims behind any of them: their shapes, and no more than before -/
def CLE (cnt : Nat) (cl kn : Nat → Option ab) : Prop := ∀ q, q < cnt → o_le (cl q) (kn q)
