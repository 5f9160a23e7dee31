set_option maxRecDepth 100000
/-! WHAT THE CLASS READS OF STATEMENTS, pure: the scope as a list (newest first: token, size), statements as they stand -/
abbrev cen : Type := List (Nat × Nat)
def cnZl : cen → Nat
  | [] => 0
  | (_, z) :: r => cnZl r + (if z = 0 then 1 else 0)
def cnAl : cen → Nat
  | [] => 0
  | (_, z) :: r => cnAl r + (if z = 0 then 0 else 1)
def slE (r : cen) (z : Nat) : Nat := if z = 0 then cnZl r else cnAl r
def loE (sp : Nat → Nat → Bool) : cen → lkt
  | [], _ => none
  | (a, z) :: r, v => if sp a v.toNat = true then some (slE r z, z) else loE sp r v
/-- among the newest b -/
def twE (sp : Nat → Nat → Bool) : Nat → cen → Nat → Bool
  | 0, _, _ => false
  | _ + 1, [], _ => false
  | b + 1, (a, _) :: r, i => sp a i || twE sp b r i
def scR (s : cps) (m : Nat) : cen → Prop
  | [] => True
  | (a, z) :: r => scR s m r ∧ s.2 20 r.length = Int32.ofNat a ∧ a < m ∧ s.2 22 r.length = Int32.ofNat z ∧ z < 2147483648 ∧ s.2 21 r.length = Int32.ofNat (slE r z)
def SCE (s : cps) (m : Nat) (L : cen) : Prop := (s.1 10 = L.length) ∧ (s.1 12 = cnZl L) ∧ (s.1 13 = cnAl L) ∧ (scR s m L)
theorem SCE.of {s : cps} {m : Nat} {L : cen} (q : (s.1 10 = L.length) ∧ (s.1 12 = cnZl L) ∧ (s.1 13 = cnAl L) ∧ (scR s m L)) : SCE s m L := q
theorem SCE.c {s : cps} {m : Nat} {L : cen} (q : SCE s m L) : s.1 10 = L.length := q.1
theorem SCE.z {s : cps} {m : Nat} {L : cen} (q : SCE s m L) : s.1 12 = cnZl L := q.2.1
theorem SCE.a {s : cps} {m : Nat} {L : cen} (q : SCE s m L) : s.1 13 = cnAl L := q.2.2.1
theorem SCE.r {s : cps} {m : Nat} {L : cen} (q : SCE s m L) : scR s m L := q.2.2.2
def tlc : tr → Nat
  | .leaf _ => 0
  | .branch _ _ r => tlc r + 1
def suMR (lo : lkt) (s : cps) : tr → Nat → Prop
  | .leaf _, x => x ≤ s.1 6
  | .branch a cs r, x => SUX lo s x (.branch a cs r) false ∧ suMR lo s r (x + 1)
def fmH (sp : Nat → Nat → Bool) (H : Nat → Int32) (nf i : Nat) : Option Nat := fsr (fun f => sp (H (6 * f)).toNatClampNeg i) nf
/-- what is wrong with a call, by its names; then by its SUMs -/
def wrC (sp : Nat → Nat → Bool) (H : Nat → Int32) (nf : Nat) (lo : lkt) (a f : Nat) (t : tr) : Nat × Nat :=
  if (fw (if tK a = 13 then (lkW lo (tV a) false, tP a) else (0, 0)) (if fmH sp H nf (tV f).toNat = none then (4, tP f) else (0, 0))).1 = 0 then (match fmH sp H nf (tV f).toNat with
    | none => (0, 0)
    | some g => if ¬ Int32.ofNat (tlc t) = H (6 * g + 1) then (5, tP f) else if tK a = 13 ∧ H (6 * g + 5) = -1 then (6, tP f) else lwT lo t)
  else fw (if tK a = 13 then (lkW lo (tV a) false, tP a) else (0, 0)) (if fmH sp H nf (tV f).toNat = none then (4, tP f) else (0, 0))
def wrS (sp : Nat → Nat → Bool) (H : Nat → Int32) (nf : Nat) (L : cen) (b : Nat) (rl : Bool) (n : Nat) (cs : tr) : Nat × Nat :=
  if tK n = 3 then (match cs with
    | .branch a _ t => fw (if twE sp b L (tV a).toNat = true then (2, tP a) else (0, 0)) (lwT (loE sp L) t)
    | .leaf _ => (0, 0))
  else if tK n = 4 then (match cs with
    | .branch a _ (.branch q _ _) => fw (if twE sp b L (tV a).toNat = true then (2, tP a) else (0, 0)) (if tV q < 1 ∨ 64 < tV q then (9, tP q) else (0, 0))
    | _ => (0, 0))
  else if tK n = 6 then (match cs with
    | .branch a _ t => fw (lkW (loE sp L) (tV a) true, tP a) (lwT (loE sp L) t)
    | .leaf _ => (0, 0))
  else if tK n = 7 then (match cs with
    | .branch a _ (.branch f _ t) => wrC sp H nf (loE sp L) a f t
    | _ => (0, 0))
  else if tK n = 8 ∨ tK n = 9 then (match cs with
    | .branch c cc _ => lwT (loE sp L) (.branch c cc (.leaf ()))
    | .leaf _ => (0, 0))
  else if tK n = 11 then (if rl = true then lwT (loE sp L) cs else (6, tP n))
  else lwT (loE sp L) cs
/-- the class's number of its kind -/
def skN (n : Nat) : Nat := if tK n = 3 ∨ tK n = 4 then 1 else tK n - 3
/-- a statement's fields -/
def stN (sp : Nat → Nat → Bool) (s : cps) (nf : Nat) (rec : tr → Nat → Nat → cen → Prop) (n : Nat) (cs : tr) (k k' : Nat) (L : cen) (b : Nat) (rl : Bool) : Prop :=
  (s.2 (24 + k) 0 = Int32.ofNat (skN n) ∧ s.2 (24 + k) 1 = Int32.ofNat k ∧ s.2 (24 + k) 2 = Int32.ofNat (tP n) ∧ s.2 (24 + k) 3 = Int32.ofNat (cnZl L) ∧ s.2 (24 + k) 4 = Int32.ofNat (cnAl L) ∧ (s.2 (24 + k) 5, s.2 (24 + k) 6) = wn (0, 0) (wrS sp (s.2 15) nf L b rl n cs)) ∧
  ((tK n = 3 ∧ ∃ a t, cs = .branch a (.leaf ()) t ∧ k' = k + 1 ∧ s.2 (24 + k) 7 = Int32.ofNat (tV a).toNat ∧ s.2 (24 + k) 9 = 0 ∧ ((t = .leaf () ∧ s.2 (24 + k) 11 = 0) ∨ (0 < ts t ∧ s.2 (24 + k) 11 = 1 ∧ ∃ x, s.2 (24 + k) 10 = Int32.ofNat x ∧ SUX (loE sp L) s x t false))) ∨
   (tK n = 4 ∧ ∃ a q, cs = .branch a (.leaf ()) (.branch q (.leaf ()) (.leaf ())) ∧ k' = k + 1 ∧ s.2 (24 + k) 7 = Int32.ofNat (tV a).toNat ∧ s.2 (24 + k) 9 = Int32.ofNat (max 1 (tV q).toNat)) ∨
   (tK n = 5 ∧ ∃ a t x, cs = .branch a (.leaf ()) t ∧ k' = k + 1 ∧ s.2 (24 + k) 8 = Int32.ofNat (lkN (loE sp L) (tV a)) ∧ s.2 (24 + k) 10 = Int32.ofNat x ∧ SUX (loE sp L) s x t false) ∨
   (tK n = 6 ∧ ∃ a t x, cs = .branch a (.leaf ()) t ∧ k' = k + 1 ∧ ((∀ sl z, loE sp L (tV a) = some (sl, z) → 0 < z → s.2 (24 + k) 8 = Int32.ofNat sl ∧ s.2 (24 + k) 9 = Int32.ofNat z)) ∧ s.2 (24 + k) 10 = Int32.ofNat x ∧ SUX (loE sp L) s x t false ∧ SUX (loE sp L) s (x + 1) (tT t) false) ∨
   (tK n = 7 ∧ ∃ a f t x, cs = .branch a (.leaf ()) (.branch f (.leaf ()) t) ∧ k' = k + 1 ∧ s.2 (24 + k) 8 = (if tK a = 13 then Int32.ofNat (lkN (loE sp L) (tV a)) else -1) ∧ s.2 (24 + k) 14 = fsI (fmH sp (s.2 15) nf (tV f).toNat) ∧ s.2 (24 + k) 11 = Int32.ofNat (tlc t) ∧ s.2 (24 + k) 10 = Int32.ofNat x ∧ suMR (loE sp L) s t x) ∨
   (tK n = 8 ∧ ∃ c cc b1 bs1 q k1 c0 c1, cs = .branch c cc (.branch b1 bs1 q) ∧ s.2 (24 + k) 12 = Int32.ofNat c0 ∧ s.2 (24 + k) 13 = Int32.ofNat c1 ∧ c1 ≤ s.1 7 ∧ cy (s.2 12) (s.2 13) (rlx (loE sp L) s) (.branch c cc (.leaf ())) false false c0 c1 ∧ s.2 (24 + k) 15 = Int32.ofNat k1 ∧ s.2 (24 + k) 16 = Int32.ofNat k' ∧ rec bs1 (k + 1) k1 L ∧ ((q = .leaf () ∧ k' = k1) ∨ ∃ b2 bs2, q = .branch b2 bs2 (.leaf ()) ∧ rec bs2 k1 k' L)) ∨
   (tK n = 9 ∧ ∃ c cc b1 bs1 c0 c1, cs = .branch c cc (.branch b1 bs1 (.leaf ())) ∧ s.2 (24 + k) 12 = Int32.ofNat c0 ∧ s.2 (24 + k) 13 = Int32.ofNat c1 ∧ c1 ≤ s.1 7 ∧ cy (s.2 12) (s.2 13) (rlx (loE sp L) s) (.branch c cc (.leaf ())) false false c0 c1 ∧ s.2 (24 + k) 16 = Int32.ofNat k' ∧ rec bs1 (k + 1) k' L) ∨
   (tK n = 10 ∧ ∃ c0 c1, k' = k + 1 ∧ s.2 (24 + k) 12 = Int32.ofNat c0 ∧ s.2 (24 + k) 13 = Int32.ofNat c1 ∧ c1 ≤ s.1 7 ∧ cy (s.2 12) (s.2 13) (rlx (loE sp L) s) cs false false c0 c1) ∨
   (tK n = 11 ∧ ∃ x, k' = k + 1 ∧ s.2 (24 + k) 10 = Int32.ofNat x ∧ SUX (loE sp L) s x cs false))
/-- names known behind it -/
def nxE (n : Nat) (cs : tr) (L : cen) : cen := if tK n = 3 then (match cs with
    | .branch a _ _ => ((tV a).toNat, 0) :: L
    | .leaf _ => L) else if tK n = 4 then (match cs with
    | .branch a _ (.branch q _ _) => ((tV a).toNat, max 1 (tV q).toNat) :: L
    | _ => L) else L
/-- a row of statements stands from k to k' -/
def stR (sp : Nat → Nat → Bool) (s : cps) (nf : Nat) : Nat → Bool → tr → Nat → Nat → cen → Nat → Prop
  | _, _, .leaf _, k, k', _, _ => k' = k
  | 0, _, .branch _ _ _, _, _, _, _ => False
  | f + 1, fb, .branch n cs r, k, k', L, b => ∃ k1, stN sp s nf (fun bs x y L' => stR sp s nf f false bs x y L' 0) n cs k k1 L b (fb && decide (ts r = 0)) ∧ stR sp s nf f fb r k1 k' (nxE n cs L) (b + ((nxE n cs L).length - L.length))
section SEs
variable {Bt : Nat → Int32} {n m : Nat} {P U : Nat → Nat} {s s' : cps} {L : cen} {i k0 : Nat}
theorem cn_len : ∀ L : cen, cnZl L + cnAl L = L.length := by
  intro L
  induction L with
  | nil => rfl
  | cons e r ih =>
    obtain ⟨a, z⟩ := e
    show cnZl r + (if z = 0 then 1 else 0) + (cnAl r + (if z = 0 then 0 else 1)) = r.length + 1
    split <;> omega
theorem sl_len {r : cen} {z : Nat} : slE r z ≤ r.length := by
  have := cn_len r
  unfold slE
  split <;> omega
theorem scR_k : ∀ (L : cen) k, scR s m L → k < L.length → (nmT s k < m ∧ s.2 20 k = Int32.ofNat (nmT s k)) ∧ (zT s k < 2147483648 ∧ s.2 22 k = Int32.ofNat (zT s k)) ∧ (s.2 21 k = Int32.ofNat (slT s k) ∧ slT s k < L.length ∨ 2147483648 ≤ L.length) ∨ 1000000 < m := by
  intro L
  induction L with
  | nil => intro k _ h; exact absurd h (Nat.not_lt_zero _)
  | cons e r ih =>
    obtain ⟨a, z⟩ := e
    intro k w h
    obtain ⟨w1, w2, w3, w4, w5, w6⟩ := w
    have hk : k < r.length + 1 := h
    by_cases c : k = r.length
    · by_cases hm : 1000000 < m
      · exact Or.inr hm
      · refine Or.inl ?_
        subst c
        have e1 : nmT s r.length = a := by unfold nmT; rw [w2]; exact nn_clamp (by omega)
        have e2 : zT s r.length = z := by unfold zT; rw [w4]; exact nn_clamp w5
        rw [e1, e2]
        refine ⟨⟨w3, w2⟩, ⟨w5, w4⟩, ?_⟩
        have l := sl_len (r := r) (z := z)
        by_cases hl : 2147483648 ≤ (r.length + 1)
        · exact Or.inr hl
        · refine Or.inl ?_
          have e3 : slT s r.length = slE r z := by unfold slT; rw [w6]; exact nn_clamp (by omega)
          rw [e3]
          exact ⟨w6, by show slE r z < r.length + 1; omega⟩
    · rcases ih k w1 (by omega) with ⟨x1, x2, x3⟩ | x
      · refine Or.inl ⟨x1, x2, ?_⟩
        rcases x3 with ⟨y1, y2⟩ | y
        · exact Or.inl ⟨y1, by show slT s k < r.length + 1; omega⟩
        · exact Or.inr (by show 2147483648 ≤ r.length + 1; omega)
      · exact Or.inr x
theorem SCE_C (E : SCE s m L) (hl : L.length ≤ n / 2 + 1) (hn : n ≤ 16400) (hm : m ≤ n + 1) : CSC s n m := by
  have e := E.c
  have q : ∀ k, k < s.1 10 → (nmT s k < m ∧ s.2 20 k = Int32.ofNat (nmT s k)) ∧ (zT s k < 2147483648 ∧ s.2 22 k = Int32.ofNat (zT s k)) ∧ (slT s k < 20000 ∧ s.2 21 k = Int32.ofNat (slT s k)) := fun k hk => by
    rcases scR_k L k E.r (by omega) with ⟨x1, x2, x3⟩ | x
    · rcases x3 with ⟨y1, y2⟩ | y
      · exact ⟨x1, x2, by omega, y1⟩
      · omega
    · omega
  exact CSC.of ⟨by omega, fun k hk => (q k hk).1, fun k hk => (q k hk).2.1, fun k hk => (q k hk).2.2⟩
theorem scR_f : ∀ (L : cen), scR s m L → m ≤ 1000000 → L.length < 2147483648 → ∀ i : Nat, (fsr (fun k => spe Bt n P U (nmT s k) i) L.length).map (fun k => (slT s k, zT s k)) = loE (spe Bt n P U) L i := by
  intro L
  induction L with
  | nil => intro _ _ _ i; rfl
  | cons e r ih =>
    obtain ⟨a, z⟩ := e
    intro w hm hl i
    obtain ⟨w1, w2, w3, w4, w5, w6⟩ := w
    have hl' : r.length + 1 < 2147483648 := hl
    have l := sl_len (r := r) (z := z)
    have e1 : nmT s r.length = a := by unfold nmT; rw [w2]; exact nn_clamp (by omega)
    have e2 : zT s r.length = z := by unfold zT; rw [w4]; exact nn_clamp w5
    have e3 : slT s r.length = slE r z := by unfold slT; rw [w6]; exact nn_clamp (by omega)
    show (if spe Bt n P U (nmT s r.length) i = true then some r.length else fsr (fun k => spe Bt n P U (nmT s k) i) r.length).map _ = (if spe Bt n P U a (i : Int).toNat = true then some (slE r z, z) else loE (spe Bt n P U) r i)
    rw [e1, Int.toNat_natCast]
    by_cases c : spe Bt n P U a i = true
    · rw [if_pos c, if_pos c]
      show some (slT s r.length, zT s r.length) = _
      rw [e2, e3]
    · rw [if_neg c, if_neg c]
      exact ih w1 hm (by omega) i
theorem loE_n {sp : Nat → Nat → Bool} : ∀ (L : cen) (v : Int), loE sp L v = loE sp L (v.toNat : Int) := by
  intro L
  induction L with
  | nil => exact fun _ => rfl
  | cons e r ih =>
    intro v
    show (if sp e.1 v.toNat = true then some (slE r e.2, e.2) else loE sp r v) = (if sp e.1 ((v.toNat : Int)).toNat = true then some (slE r e.2, e.2) else loE sp r (v.toNat : Int))
    rw [Int.toNat_natCast, ih v]
theorem SCE_l (E : SCE s m L) (hm : m ≤ 1000000) (hl : L.length < 2147483648) : loF Bt n P U s = loE (spe Bt n P U) L := by
  funext v
  unfold loF fiT
  rw [E.c, scR_f L E.r hm hl v.toNat, ← loE_n]
theorem SCE_t (E : SCE s m L) (hm : m ≤ 1000000) (hk : k0 ≤ L.length) : isT (fiT Bt n P U s i) k0 = twE (spe Bt n P U) (L.length - k0) L i := by
  unfold fiT
  rw [E.c]
  have r := E.r
  clear E
  induction L with
  | nil =>
    have hk' : k0 ≤ 0 := hk
    have : k0 = 0 := by omega
    subst this
    rfl
  | cons e r' ih =>
    obtain ⟨a, z⟩ := e
    obtain ⟨w1, w2, w3, w4, w5, w6⟩ := r
    have hk' : k0 ≤ r'.length + 1 := hk
    have e1 : nmT s r'.length = a := by unfold nmT; rw [w2]; exact nn_clamp (by omega)
    show isT (if spe Bt n P U (nmT s r'.length) i = true then some r'.length else fsr (fun k => spe Bt n P U (nmT s k) i) r'.length) k0 = twE (spe Bt n P U) (r'.length + 1 - k0) ((a, z) :: r') i
    rw [e1]
    by_cases c : k0 = r'.length + 1
    · have z0 : r'.length + 1 - k0 = 0 := by omega
      rw [z0]
      show _ = false
      have big : ∀ o : Option Nat, (∀ k, o = some k → k < k0) → isT o k0 = false := fun o ho => by
        cases o with
        | none => rfl
        | some k => exact decide_eq_false (by have := ho k rfl; omega)
      refine big _ (fun k hk2 => ?_)
      split at hk2
      · cases hk2; omega
      · have := (fsr_b _ _ hk2).1; omega
    · have z1 : r'.length + 1 - k0 = (r'.length - k0) + 1 := by omega
      rw [z1]
      show _ = (spe Bt n P U a i || twE (spe Bt n P U) (r'.length - k0) r' i)
      by_cases q : spe Bt n P U a i = true
      · rw [if_pos q, q, Bool.true_or]
        exact decide_eq_true (by omega)
      · rw [if_neg q, Bool.eq_false_iff.mpr q, Bool.false_or]
        exact ih (by omega) w1
theorem scR_g : ∀ L : cen, (∀ o j, 20 ≤ o → o ≤ 22 → j < L.length → s'.2 o j = s.2 o j) → scR s m L → scR s' m L := by
  intro L
  induction L with
  | nil => exact fun _ _ => trivial
  | cons e r ih =>
    obtain ⟨a, z⟩ := e
    intro q w
    obtain ⟨w1, w2, w3, w4, w5, w6⟩ := w
    have q' : ∀ o j, 20 ≤ o → o ≤ 22 → j < r.length + 1 → s'.2 o j = s.2 o j := q
    exact ⟨ih (fun o j h1 h2 h3 => q' o j h1 h2 (by omega)) w1, (q' 20 _ (by decide) (by decide) (by omega)).trans w2, w3, (q' 22 _ (by decide) (by decide) (by omega)).trans w4, w5, (q' 21 _ (by decide) (by decide) (by omega)).trans w6⟩
theorem SCE_g (E : SCE s m L) (c : s'.1 10 = s.1 10) (z : s'.1 12 = s.1 12) (a : s'.1 13 = s.1 13) (q : ∀ o j, 20 ≤ o → o ≤ 22 → j < s.1 10 → s'.2 o j = s.2 o j) : SCE s' m L := SCE.of ⟨c.trans E.c, z.trans E.z, a.trans E.a, scR_g L (fun o j h1 h2 h3 => q o j h1 h2 (by rw [E.c]; exact h3)) E.r⟩
/-- a name more -/
theorem SCE_a (E : SCE s m L) {a z : Nat} (ha : a < m) (hz : z < 2147483648) : SCE (adS s (Int32.ofNat a) (Int32.ofNat z)) m ((a, z) :: L) := by
  have z0 : (Int32.ofNat z = 0) = (z = 0) := nn_eq (a := z) (b := 0) (by omega) (by decide)
  have e10 := E.c
  have e12 := E.z
  have e13 := E.a
  unfold adS
  by_cases c : z = 0
  · rw [if_pos (by rw [z0]; exact c)]
    refine SCE.of ⟨?_, ?_, ?_, scR_g L (fun o j h1 h2 h3 => ?_) E.r, ?_, ha, ?_, hz, ?_⟩
    · show s.1 10 + 1 = L.length + 1; omega
    · show s.1 12 + 1 = cnZl L + (if z = 0 then 1 else 0); rw [if_pos c]; omega
    · show s.1 13 = cnAl L + (if z = 0 then 0 else 1); rw [if_pos c]; omega
    · show (if o = 21 ∧ j = s.1 10 then _ else if o = 22 ∧ j = s.1 10 then _ else if o = 20 ∧ j = s.1 10 then _ else s.2 o j) = _
      rw [if_neg (by omega), if_neg (by omega), if_neg (by omega)]
    · rw [u1_2, u1_2, u2_2, if_neg (by omega), u2_2, if_neg (by omega), u2_2, if_pos (by omega)]
    · rw [u1_2, u1_2, u2_2, if_neg (by omega), u2_2, if_pos (by omega)]
    · rw [u1_2, u1_2, u2_2, if_pos (by omega), e12]
      unfold slE
      rw [if_pos c]
  · rw [if_neg (by rw [z0]; exact c)]
    refine SCE.of ⟨?_, ?_, ?_, scR_g L (fun o j h1 h2 h3 => ?_) E.r, ?_, ha, ?_, hz, ?_⟩
    · show s.1 10 + 1 = L.length + 1; omega
    · show s.1 12 = cnZl L + (if z = 0 then 1 else 0); rw [if_neg c]; omega
    · show s.1 13 + 1 = cnAl L + (if z = 0 then 0 else 1); rw [if_neg c]; omega
    · show (if o = 21 ∧ j = s.1 10 then _ else if o = 22 ∧ j = s.1 10 then _ else if o = 20 ∧ j = s.1 10 then _ else s.2 o j) = _
      rw [if_neg (by omega), if_neg (by omega), if_neg (by omega)]
    · rw [u1_2, u1_2, u2_2, if_neg (by omega), u2_2, if_neg (by omega), u2_2, if_pos (by omega)]
    · rw [u1_2, u1_2, u2_2, if_neg (by omega), u2_2, if_pos (by omega)]
    · rw [u1_2, u1_2, u2_2, if_pos (by omega), e13]
      unfold slE
      rw [if_neg c]
theorem cnZ_s : ∀ f k, cnZ s (f + 1) k = cnZ s f k + (if s.2 22 (k + f) = 0 then 1 else 0) := by
  intro f
  induction f with
  | zero =>
    intro k
    show (if s.2 22 k = 0 then 1 else 0) + 0 = 0 + (if s.2 22 (k + 0) = 0 then 1 else 0)
    rw [Nat.add_zero, Nat.zero_add]
    rfl
  | succ f ih =>
    intro k
    show (if s.2 22 k = 0 then 1 else 0) + cnZ s (f + 1) (k + 1) = (if s.2 22 k = 0 then 1 else 0) + cnZ s f (k + 1) + (if s.2 22 (k + (f + 1)) = 0 then 1 else 0)
    rw [ih (k + 1), show k + 1 + f = k + (f + 1) from by omega]
    omega
theorem cnZ_l : ∀ T R : cen, scR s m (T ++ R) → cnZl (T ++ R) = cnZl R + cnZ s T.length R.length := by
  intro T R
  induction T with
  | nil => intro _; exact (Nat.add_zero _).symm
  | cons e T ih =>
    obtain ⟨a, z⟩ := e
    intro w
    obtain ⟨w1, w2, w3, w4, w5, w6⟩ := w
    have z0 : (Int32.ofNat z = 0) = (z = 0) := nn_eq (a := z) (b := 0) (by omega) (by decide)
    show cnZl (T ++ R) + (if z = 0 then 1 else 0) = cnZl R + cnZ s (T.length + 1) R.length
    have el : (T ++ R).length = R.length + T.length := by rw [List.length_append]; omega
    have w4' : s.2 22 (R.length + T.length) = Int32.ofNat z := by rw [← el]; exact w4
    rw [cnZ_s, ih w1, w4']
    by_cases c : z = 0
    · rw [if_pos c, if_pos (by rw [z0]; exact c)]; omega
    · rw [if_neg c, if_neg (by rw [z0]; exact c)]; omega
theorem scR_d : ∀ T R : cen, scR s m (T ++ R) → scR s m R := by
  intro T R
  induction T with
  | nil => exact fun w => w
  | cons e T ih => exact fun w => ih w.1
/-- a BLOCK's names go -/
theorem SCE_s {T R : cen} (E : SCE s m (T ++ R)) : (cnZ s (s.1 10 - R.length) R.length ≤ s.1 12 ∧ s.1 10 - R.length - cnZ s (s.1 10 - R.length) R.length ≤ s.1 13) ∧ SCE (shS s R.length) m R := by
  have e10 := E.c
  have e12 := E.z
  have e13 := E.a
  have el : (T ++ R).length = R.length + T.length := by rw [List.length_append]; omega
  have c1 := cnZ_l T R E.r
  have c2 := cn_len (T ++ R)
  have c3 := cn_len R
  have et : s.1 10 - R.length = T.length := by omega
  have cb := cnZ_b (s := s) T.length R.length
  unfold shS
  rw [et]
  refine ⟨⟨by omega, by omega⟩, SCE.of ⟨rfl, ?_, ?_, scR_g (s := s) R (fun o j h1 h2 h3 => rfl) (scR_d T R E.r)⟩⟩
  · show s.1 12 - cnZ s T.length R.length = cnZl R; omega
  · show s.1 13 - (T.length - cnZ s T.length R.length) = cnAl R; omega
end SEs
