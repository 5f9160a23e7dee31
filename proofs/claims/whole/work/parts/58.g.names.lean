set_option maxRecDepth 100000
/-! names along a layout, by their numbers: what the reference's analysis knows -/
def nmI (sp : Nat → Nat → Bool) (NL : List Nat) (a : Nat) : Int := (nix sp NL a : Nat)
/-- names added, the oldest first -/
def addC (sp : Nat → Nat → Bool) (NL : List Nat) (E : nv) : cen → nv
  | [] => E
  | (a, z) :: r => if z = 0 then (addC sp NL E r).addN (nmI sp NL a) else (addC sp NL E r).addA (nmI sp NL a) z
/-- names known, sizes -/
def LIV (sp : Nat → Nat → Bool) (NL : List Nat) (L : cen) : Prop := ∀ a z, (a, z) ∈ L → nix sp NL a < NL.length ∧ z ≤ 64
/-- what is known where a function begins -/
def bsF (sp : Nat → Nat → Bool) (NL : List Nat) (Pt : Nat → lpt) (E0 : nv) : Nat → lcx → nv
  | 0, _ => E0
  | f + 1, X => match X.ow with
    | none => E0
    | some o => if tK (Pt o).N = 7 then (addC sp NL (bsF sp NL Pt E0 f (Pt o).X) (Pt o).L).go X.fu X.ta else bsF sp NL Pt E0 f (Pt o).X
/-- its slots are the callers' -/
def EQx (E : nv) (X : lcx) : Prop := (E.nu = X.nb) ∧ (E.ar = X.na) ∧ (∀ x, x < X.na → E.rm x = X.rS x) ∧ (E.fu = X.fu) ∧ (E.ta = X.ta) ∧ (E.T = X.nb + X.na)
theorem EQx.of {E : nv} {X : lcx} (q : (E.nu = X.nb) ∧ (E.ar = X.na) ∧ (∀ x, x < X.na → E.rm x = X.rS x) ∧ (E.fu = X.fu) ∧ (E.ta = X.ta) ∧ (E.T = X.nb + X.na)) : EQx E X := q
theorem EQx.n {E : nv} {X : lcx} (q : EQx E X) : E.nu = X.nb := q.1
theorem EQx.a {E : nv} {X : lcx} (q : EQx E X) : E.ar = X.na := q.2.1
theorem EQx.r {E : nv} {X : lcx} (q : EQx E X) : ∀ x, x < X.na → E.rm x = X.rS x := q.2.2.1
theorem EQx.f {E : nv} {X : lcx} (q : EQx E X) : E.fu = X.fu := q.2.2.2.1
theorem EQx.t {E : nv} {X : lcx} (q : EQx E X) : E.ta = X.ta := q.2.2.2.2.1
theorem EQx.T {E : nv} {X : lcx} (q : EQx E X) : E.T = X.nb + X.na := q.2.2.2.2.2
section ADs
variable {sp : Nat → Nat → Bool} {NL : List Nat} {E E0 : nv} {L : cen} {Pt : Nat → lpt} {X : lcx}
theorem ad_0 {a : Nat} : addC sp NL E ((a, 0) :: L) = (addC sp NL E L).addN (nmI sp NL a) := if_pos rfl
theorem ad_n {a z : Nat} (h : ¬ z = 0) : addC sp NL E ((a, z) :: L) = (addC sp NL E L).addA (nmI sp NL a) z := if_neg h
theorem ad_v : ∀ L : cen, (addC sp NL E L).nu = E.nu + cnZl L ∧ (addC sp NL E L).ar = E.ar + cnAl L ∧ (addC sp NL E L).T = E.T + L.length ∧ (addC sp NL E L).fu = E.fu ∧ (addC sp NL E L).ta = E.ta := by
  intro L
  induction L with
  | nil => exact ⟨rfl, rfl, rfl, rfl, rfl⟩
  | cons e r ih =>
    obtain ⟨a, z⟩ := e
    obtain ⟨i1, i2, i3, i4, i5⟩ := ih
    have el : ((a, z) :: r).length = r.length + 1 := rfl
    by_cases c : z = 0
    · subst c
      rw [ad_0, cnZ_0, cnA_0, el]
      refine ⟨?_, i2, ?_, i4, i5⟩
      · show (addC sp NL E r).nu + 1 = _
        omega
      · show (addC sp NL E r).T + 1 = _
        omega
    · rw [ad_n c, cnZ_n c, cnA_n c, el]
      refine ⟨i1, ?_, ?_, i4, i5⟩
      · show (addC sp NL E r).ar + 1 = _
        omega
      · show (addC sp NL E r).T + 1 = _
        omega
theorem cnL_len : ∀ L : cen, L.length = cnZl L + cnAl L := by
  intro L
  induction L with
  | nil => rfl
  | cons e r ih =>
    obtain ⟨a, z⟩ := e
    have el : ((a, z) :: r).length = r.length + 1 := rfl
    by_cases c : z = 0
    · subst c
      rw [cnZ_0, cnA_0, el]; omega
    · rw [cnZ_n c, cnA_n c, el]; omega
theorem ad_r : ∀ (L : cen) x, (addC sp NL E L).rm x = if x < E.ar then E.rm x else if x < E.ar + cnAl L then aSz L (x - E.ar) else (addC sp NL E L).rm x := by
  intro L
  induction L with
  | nil =>
    intro x
    by_cases c : x < E.ar
    · rw [if_pos c]; rfl
    · rw [if_neg c, if_neg (by show ¬ x < E.ar + 0; omega)]
  | cons e r ih =>
    obtain ⟨a, z⟩ := e
    intro x
    by_cases c : z = 0
    · subst c
      rw [ad_0, cnA_0]
      have e1 : ((addC sp NL E r).addN (nmI sp NL a)).rm x = (addC sp NL E r).rm x := rfl
      have e2 : aSz ((a, 0) :: r) (x - E.ar) = aSz r (x - E.ar) := if_neg (fun z => z.1 rfl)
      rw [e1, e2]
      exact ih x
    · rw [ad_n c, cnA_n c]
      obtain ⟨-, i2, -⟩ := ad_v (sp := sp) (NL := NL) (E := E) r
      have e1 : ((addC sp NL E r).addA (nmI sp NL a) z).rm x = if x = (addC sp NL E r).ar then z else (addC sp NL E r).rm x := rfl
      have e2 : aSz ((a, z) :: r) (x - E.ar) = if ¬ z = 0 ∧ cnAl r = x - E.ar then z else aSz r (x - E.ar) := rfl
      rw [e1, e2, i2]
      by_cases c1 : x < E.ar
      · rw [if_neg (by omega), if_pos c1, ih x, if_pos c1]
      · rw [if_neg c1]
        by_cases c2 : x = E.ar + cnAl r
        · rw [if_pos c2, if_pos (by omega), if_pos ⟨c, by omega⟩]
        · rw [if_neg c2]
          by_cases c3 : x < E.ar + (cnAl r + 1)
          · rw [if_pos c3, if_neg (fun q => c2 (by omega)), ih x, if_neg c1, if_pos (by omega)]
          · rw [if_neg c3]
theorem loE_b {sp : Nat → Nat → Bool} {v : Int} : ∀ (L : cen) s z, loE sp L v = some (s, z) → (z = 0 → s < cnZl L) ∧ (0 < z → s < cnAl L ∧ aSz L s = z) := by
  intro L
  induction L with
  | nil => intro s z e; cases e
  | cons e r ih =>
    obtain ⟨a, z'⟩ := e
    intro s z e
    have lo : loE sp ((a, z') :: r) v = if sp a v.toNat = true then some (slE r z', z') else loE sp r v := rfl
    rw [lo] at e
    by_cases c : sp a v.toNat = true
    · rw [if_pos c] at e
      injection e with e
      injection e with e1 e2
      rw [← e1, ← e2]
      unfold slE
      refine ⟨fun z0 => ?_, fun z0 => ?_⟩
      · rw [z0, if_pos rfl, cnZ_0]; omega
      · rw [if_neg (by omega), cnA_n (by omega)]
        refine ⟨by omega, ?_⟩
        show (if ¬ z' = 0 ∧ cnAl r = cnAl r then z' else aSz r (cnAl r)) = z'
        rw [if_pos ⟨by omega, rfl⟩]
    · rw [if_neg c] at e
      obtain ⟨i1, i2⟩ := ih s z e
      refine ⟨fun z0 => ?_, fun z0 => ?_⟩
      · have := i1 z0
        by_cases cz : z' = 0
        · subst cz; rw [cnZ_0]; omega
        · rw [cnZ_n cz]; exact this
      · obtain ⟨j1, j2⟩ := i2 z0
        have ea : aSz ((a, z') :: r) s = if ¬ z' = 0 ∧ cnAl r = s then z' else aSz r s := rfl
        rw [ea, if_neg (by omega)]
        refine ⟨?_, j2⟩
        by_cases cz : z' = 0
        · subst cz; rw [cnA_0]; exact j1
        · rw [cnA_n cz]; omega
theorem loE_m {sp : Nat → Nat → Bool} {v : Int} : ∀ (L : cen) s z, loE sp L v = some (s, z) → ∃ a, (a, z) ∈ L := by
  intro L
  induction L with
  | nil => intro s z e; cases e
  | cons e r ih =>
    obtain ⟨a, z'⟩ := e
    intro s z e
    have lo : loE sp ((a, z') :: r) v = if sp a v.toNat = true then some (slE r z', z') else loE sp r v := rfl
    rw [lo] at e
    by_cases c : sp a v.toNat = true
    · rw [if_pos c] at e
      cases e
      exact ⟨a, List.mem_cons_self⟩
    · rw [if_neg c] at e
      obtain ⟨b, i⟩ := ih s z e
      exact ⟨b, List.mem_cons_of_mem _ i⟩
/-- what a NAME means -/
theorem ad_l (hq : ∀ a v, nix sp NL a < NL.length → (nix sp NL a = nix sp NL v ↔ sp a v = true)) {v : Int} : ∀ L : cen, LIV sp NL L → ∀ s z, loE sp L v = some (s, z) → (addC sp NL E L).sN (nmI sp NL v.toNat) ∧ (addC sp NL E L).en (nmI sp NL v.toNat) = (if z = 0 then E.nu + s else E.ar + s) := by
  intro L
  induction L with
  | nil => intro _ s z e; cases e
  | cons e r ih =>
    obtain ⟨a, z'⟩ := e
    intro w s z e
    have lo : loE sp ((a, z') :: r) v = if sp a v.toNat = true then some (slE r z', z') else loE sp r v := rfl
    rw [lo] at e
    obtain ⟨v1, v2, -⟩ := ad_v (sp := sp) (NL := NL) (E := E) r
    have ka := (w a z' List.mem_cons_self).1
    have wr : LIV sp NL r := fun x y q => w x y (List.mem_cons_of_mem _ q)
    have hqa := hq a v.toNat ka
    by_cases c : sp a v.toNat = true
    · rw [if_pos c] at e
      injection e with e
      injection e with e1 e2
      rw [← e1, ← e2]
      have en := hqa.mpr c
      have e' : nmI sp NL v.toNat = nmI sp NL a := by unfold nmI; rw [en]
      unfold slE
      by_cases cz : z' = 0
      · rw [cz, ad_0, e', if_pos rfl, if_pos rfl]
        refine ⟨Or.inl rfl, ?_⟩
        show (if nmI sp NL a = nmI sp NL a then (addC sp NL E r).nu else _) = _
        rw [if_pos rfl, v1]
      · rw [ad_n cz, e', if_neg cz, if_neg cz]
        refine ⟨Or.inl rfl, ?_⟩
        show (if nmI sp NL a = nmI sp NL a then (addC sp NL E r).ar else _) = _
        rw [if_pos rfl, v2]
    · rw [if_neg c] at e
      have ne : ¬ nmI sp NL v.toNat = nmI sp NL a := fun q => c (hqa.mp (by unfold nmI at q; omega))
      obtain ⟨i1, i2⟩ := ih wr s z e
      by_cases cz : z' = 0
      · subst cz
        rw [ad_0]
        refine ⟨Or.inr i1, ?_⟩
        show (if nmI sp NL v.toNat = nmI sp NL a then (addC sp NL E r).nu else (addC sp NL E r).en (nmI sp NL v.toNat)) = _
        rw [if_neg ne]
        exact i2
      · rw [ad_n cz]
        refine ⟨Or.inr i1, ?_⟩
        show (if nmI sp NL v.toNat = nmI sp NL a then (addC sp NL E r).ar else (addC sp NL E r).en (nmI sp NL v.toNat)) = _
        rw [if_neg ne]
        exact i2
theorem LOQ_of (hq : ∀ a v, nix sp NL a < NL.length → (nix sp NL a = nix sp NL v ↔ sp a v = true)) (w : LIV sp NL L) (Q : EQx E X) : LOQ sp NL L X.nb X.na (X.nb + cnZl L) (X.na + cnAl L) (X.rA L) (addC sp NL E L).sN (addC sp NL E L).en := by
  intro v s z e
  obtain ⟨a1, a2⟩ := ad_l (E := E) hq L w s z e
  obtain ⟨b1, b2⟩ := loE_b L s z e
  obtain ⟨a, ma⟩ := loE_m L s z e
  refine ⟨a1, fun z0 => ?_, fun z0 => ?_⟩
  · rw [if_pos z0, Q.n] at a2
    exact ⟨a2, by have := b1 z0; omega⟩
  · rw [if_neg (by omega), Q.a] at a2
    obtain ⟨c1, c2⟩ := b2 z0
    refine ⟨a2, by omega, ?_, (w a z ma).2⟩
    show (if X.na + s < X.na then X.rS (X.na + s) else aSz L (X.na + s - X.na)) = z
    rw [if_neg (by omega), Nat.add_sub_cancel_left]
    exact c2
/-- parameters added -/
theorem ad_p : ∀ L : cen, (∀ a z, (a, z) ∈ L → z = 0) → addC sp NL E L = E.addL ((L.reverse).map fun x => nmI sp NL x.1) := by
  have app : ∀ (l : List Int) (E : nv) v, E.addL (l ++ [v]) = (E.addL l).addN v := by
    intro l
    induction l with
    | nil => exact fun _ _ => rfl
    | cons x l ih => exact fun E v => ih (E.addN x) v
  intro L
  induction L with
  | nil => exact fun _ => rfl
  | cons e r ih =>
    obtain ⟨a, z⟩ := e
    intro w
    have z0 := w a z List.mem_cons_self
    subst z0
    rw [ad_0, ih (fun x y q => w x y (List.mem_cons_of_mem _ q)), List.reverse_cons, List.map_append]
    exact (app _ E _).symm
theorem bs_2 {n : Nat} (ow : ∀ q o, q < n → (Pt q).X.ow = some o → o < q) : ∀ f g X, (∀ o, X.ow = some o → o < f ∧ o < g ∧ o < n) → bsF sp NL Pt E0 f X = bsF sp NL Pt E0 g X := by
  intro f
  induction f with
  | zero =>
    intro g X h
    cases ho : X.ow with
    | none =>
      cases g with
      | zero => rfl
      | succ g =>
        show E0 = (match X.ow with
          | none => E0
          | some o => if tK (Pt o).N = 7 then (addC sp NL (bsF sp NL Pt E0 g (Pt o).X) (Pt o).L).go X.fu X.ta else bsF sp NL Pt E0 g (Pt o).X)
        rw [ho]
    | some o => exact absurd (h o ho).1 (Nat.not_lt_zero _)
  | succ f ih =>
    intro g X h
    cases g with
    | zero =>
      cases ho : X.ow with
      | none =>
        show (match X.ow with
          | none => E0
          | some o => if tK (Pt o).N = 7 then (addC sp NL (bsF sp NL Pt E0 f (Pt o).X) (Pt o).L).go X.fu X.ta else bsF sp NL Pt E0 f (Pt o).X) = E0
        rw [ho]
      | some o => exact absurd (h o ho).2.1 (Nat.not_lt_zero _)
    | succ g =>
      show (match X.ow with
          | none => E0
          | some o => if tK (Pt o).N = 7 then (addC sp NL (bsF sp NL Pt E0 f (Pt o).X) (Pt o).L).go X.fu X.ta else bsF sp NL Pt E0 f (Pt o).X) = (match X.ow with
          | none => E0
          | some o => if tK (Pt o).N = 7 then (addC sp NL (bsF sp NL Pt E0 g (Pt o).X) (Pt o).L).go X.fu X.ta else bsF sp NL Pt E0 g (Pt o).X)
      cases ho : X.ow with
      | none => rfl
      | some o =>
        obtain ⟨h1, h2, h3⟩ := h o ho
        have e := ih g (Pt o).X (fun o' e' => by have := ow o o' h3 e'; omega)
        show (if tK (Pt o).N = 7 then (addC sp NL (bsF sp NL Pt E0 f (Pt o).X) (Pt o).L).go X.fu X.ta else bsF sp NL Pt E0 f (Pt o).X) = (if tK (Pt o).N = 7 then (addC sp NL (bsF sp NL Pt E0 g (Pt o).X) (Pt o).L).go X.fu X.ta else bsF sp NL Pt E0 g (Pt o).X)
        rw [e]
theorem bs_s {f o : Nat} (h : X.ow = some o) : bsF sp NL Pt E0 (f + 1) X = if tK (Pt o).N = 7 then (addC sp NL (bsF sp NL Pt E0 f (Pt o).X) (Pt o).L).go X.fu X.ta else bsF sp NL Pt E0 f (Pt o).X := by
  show (match X.ow with
    | none => E0
    | some o => if tK (Pt o).N = 7 then (addC sp NL (bsF sp NL Pt E0 f (Pt o).X) (Pt o).L).go X.fu X.ta else bsF sp NL Pt E0 f (Pt o).X) = _
  rw [h]
theorem bs_n {f : Nat} (h : X.ow = none) : bsF sp NL Pt E0 (f + 1) X = E0 := by
  show (match X.ow with
    | none => E0
    | some o => if tK (Pt o).N = 7 then (addC sp NL (bsF sp NL Pt E0 f (Pt o).X) (Pt o).L).go X.fu X.ta else bsF sp NL Pt E0 f (Pt o).X) = _
  rw [h]
theorem EQ_c {D : lyD} {p g a : Nat} (Q : EQx E X) : EQx ((addC sp NL E L).go g (lyC D X L p g a).ta) (lyC D X L p g a) := by
  obtain ⟨v1, v2, v3, v4, v5⟩ := ad_v (sp := sp) (NL := NL) (E := E) L
  have x1 : (lyC D X L p g a).nb = X.nb + cnZl L := rfl
  have x2 : (lyC D X L p g a).na = X.na + cnAl L := rfl
  have x3 : (lyC D X L p g a).rS = X.rA L := rfl
  refine EQx.of ⟨?_, ?_, fun x hx => ?_, rfl, rfl, ?_⟩
  · show (addC sp NL E L).nu = _
    rw [v1, Q.n, x1]
  · show (addC sp NL E L).ar = _
    rw [v2, Q.a, x2]
  · show (addC sp NL E L).rm x = _
    rw [x3, ad_r L x, Q.a]
    rw [x2] at hx
    show _ = (if x < X.na then X.rS x else aSz L (x - X.na))
    by_cases c : x < X.na
    · rw [if_pos c, if_pos c]
      exact Q.r x c
    · rw [if_neg c, if_neg c, if_pos hx]
  · show (addC sp NL E L).T = _
    rw [v3, Q.T, x1, x2, cnL_len L]
    omega
end ADs
