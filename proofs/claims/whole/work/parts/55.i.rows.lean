set_option maxRecDepth 100000
/-! rows of nodes, out of what keep leaves; functionOf by the heads of the class -/
theorem trR_of {h : mh_H} {sp : Nat → Nat → Bool} {NL : List Nat} (hN : NL.length < 100000) : ∀ t k o, nd (mh_i h 93) (mh_i h 95) (mh_i h 97) k (rn sp NL t) → pw (mh_i h 96) (mh_i h 94) t k o → trR h (fun a => nix sp NL a) t k o := by
  intro t
  induction t with
  | leaf _ => exact fun k o _ _ => trivial
  | branch n cs r i1 i2 =>
    intro k o w p
    have w' : nd (mh_i h 93) (mh_i h 95) (mh_i h 97) k (.branch (ndR sp NL n) (rn sp NL cs) (rn sp NL r)) := w
    obtain ⟨w1, w2, w3, w4, w5⟩ := w'
    obtain ⟨p1, p2, p3, p4⟩ := p
    rw [ts_rn] at w3 w5
    refine ⟨⟨?_, p1, fun q => ?_, fun q => ?_, p2, w3⟩, i1 _ _ w4 p3, i2 _ _ w5 p4⟩
    · rw [w1]
      congr 1
      unfold ndR
      by_cases q : tK n = 13
      · rw [if_pos q, tE_K (by decide), q]
      · rw [if_neg q]
    · have e : tV (ndR sp NL n) = (nix sp NL (tV n).toNat : Nat) := by
        unfold ndR
        rw [if_pos q, tE_V (by decide) tP_b]
      rw [e] at w2
      have := nix_le (sp := sp) (t := (tV n).toNat) NL
      exact Int32.toInt_inj.mp (w2.trans (nn_int (by omega)).symm)
    · have e : ndR sp NL n = n := if_neg q
      rw [e] at w2
      exact w2
/-- where the functions stand -/
def poZ : tr → Nat → Nat → Nat
  | .leaf _, k, _ => k
  | .branch _ _ _, k, 0 => k
  | .branch _ cs r, k, g + 1 => poZ r (k + 1 + ts cs) g
theorem poZ_le : ∀ t k g, k ≤ poZ t k g := by
  intro t
  induction t with
  | leaf _ => exact fun k g => Nat.le_refl _
  | branch n cs r _ ih =>
    intro k g
    cases g with
    | zero => exact Nat.le_refl _
    | succ g =>
      show k ≤ poZ r (k + 1 + ts cs) g
      have := ih (k + 1 + ts cs) g
      omega
/-- names of the functions, by what their heads say -/
def fnV (H : Nat → Int32) : tr → Nat → Prop
  | .leaf _, _ => True
  | .branch _ cs r, g => (H (6 * g)).toNatClampNeg = (tV (hd1 cs)).toNat ∧ fnV H r (g + 1)
/-- behind fu nothing counts -/
theorem fnO_e {nm : Nat → Nat} {v bf : Nat} : ∀ t k x, bf ≤ k → fnO nm v bf t k x = x := by
  intro t
  induction t with
  | leaf _ => exact fun k x _ => rfl
  | branch n cs r _ ih =>
    intro k x hk
    show fnO nm v bf r (k + 1 + ts cs) (if k + 1 + ts cs ≤ bf ∧ nm (tV (hd1 cs)).toNat = nm v then Int32.ofNat k else x) = x
    rw [if_neg (fun z => by omega)]
    exact ih _ _ (by omega)
/-- among the functions from g0 on, n of them, the last one of that name -/
def fsq (p : Nat → Bool) (g0 : Nat) : Nat → Option Nat
  | 0 => none
  | c + 1 => if p (g0 + c) = true then some (g0 + c) else fsq p g0 c
theorem fsq_0 {p : Nat → Bool} : ∀ c, fsq p 0 c = fsr p c := by
  intro c
  induction c with
  | zero => rfl
  | succ c ih =>
    show (if p (0 + c) = true then some (0 + c) else fsq p 0 c) = (if p c = true then some c else fsr p c)
    rw [Nat.zero_add, ih]
theorem fsq_s {p : Nat → Bool} {g0 : Nat} : ∀ c, fsq p g0 (c + 1) = match fsq p (g0 + 1) c with | some y => some y | none => if p g0 = true then some g0 else none := by
  intro c
  induction c with
  | zero => rfl
  | succ c ih =>
    have e : fsq p g0 (c + 1 + 1) = if p (g0 + (c + 1)) = true then some (g0 + (c + 1)) else fsq p g0 (c + 1) := rfl
    have e2 : fsq p (g0 + 1) (c + 1) = if p (g0 + 1 + c) = true then some (g0 + 1 + c) else fsq p (g0 + 1) c := rfl
    rw [e, e2, ih, show g0 + (c + 1) = g0 + 1 + c from by omega]
    by_cases q : p (g0 + 1 + c) = true
    · rw [if_pos q, if_pos q]
    · rw [if_neg q, if_neg q]
theorem fnO_f {nm : Nat → Nat} {sp : Nat → Nat → Bool} {H : Nat → Int32} {v : Nat} : ∀ t k g0 c x, fnV H t g0 → (∀ g, nm (H (6 * g)).toNatClampNeg = nm v ↔ sp (H (6 * g)).toNatClampNeg v = true) → fnO nm v (poZ t k c) t k x = match fsq (fun g => sp (H (6 * g)).toNatClampNeg v) g0 (min c (tlc t)) with | some y => Int32.ofNat (poZ t k (y - g0)) | none => x := by
  intro t
  induction t with
  | leaf _ =>
    intro k g0 c x _ _
    have e : min c (tlc (.leaf ())) = 0 := by show min c 0 = 0; omega
    show x = _
    rw [show tlc (Lean.RArray.leaf _) = 0 from rfl, Nat.min_zero]
    rfl
  | branch n cs r _ ih =>
    intro k g0 c x S hq
    obtain ⟨S1, S2⟩ := S
    cases c with
    | zero =>
      rw [Nat.zero_min]
      show fnO nm v k (.branch n cs r) k x = x
      exact fnO_e _ _ _ (Nat.le_refl _)
    | succ c =>
      have le := poZ_le r (k + 1 + ts cs) c
      have e0 : poZ (.branch n cs r) k (c + 1) = poZ r (k + 1 + ts cs) c := rfl
      rw [e0]
      show fnO nm v (poZ r (k + 1 + ts cs) c) r (k + 1 + ts cs) (if k + 1 + ts cs ≤ poZ r (k + 1 + ts cs) c ∧ nm (tV (hd1 cs)).toNat = nm v then Int32.ofNat k else x) = _
      rw [ih (k + 1 + ts cs) (g0 + 1) c _ S2 hq, show min (c + 1) (tlc (.branch n cs r)) = min c (tlc r) + 1 from by show min (c + 1) (tlc r + 1) = _; omega, fsq_s]
      have hb : ∀ c y, fsq (fun g => sp (H (6 * g)).toNatClampNeg v) (g0 + 1) c = some y → g0 + 1 ≤ y := by
        intro c
        induction c with
        | zero => intro y e; cases e
        | succ c ih2 =>
          intro y e
          have e' : (if sp (H (6 * (g0 + 1 + c))).toNatClampNeg v = true then some (g0 + 1 + c) else fsq (fun g => sp (H (6 * g)).toNatClampNeg v) (g0 + 1) c) = some y := e
          by_cases q : sp (H (6 * (g0 + 1 + c))).toNatClampNeg v = true
          · rw [if_pos q] at e'; cases e'; omega
          · rw [if_neg q] at e'; exact ih2 y e'
      cases hf : fsq (fun g => sp (H (6 * g)).toNatClampNeg v) (g0 + 1) (min c (tlc r)) with
      | some y =>
        have := hb _ y hf
        show Int32.ofNat (poZ r (k + 1 + ts cs) (y - (g0 + 1))) = Int32.ofNat (poZ (.branch n cs r) k (y - g0))
        rw [show y - g0 = (y - (g0 + 1)) + 1 from by omega]
        rfl
      | none =>
        show (if k + 1 + ts cs ≤ poZ r (k + 1 + ts cs) c ∧ nm (tV (hd1 cs)).toNat = nm v then Int32.ofNat k else x) = _
        have q0 := hq g0
        rw [S1] at q0
        by_cases q : nm (tV (hd1 cs)).toNat = nm v
        · rw [if_pos ⟨le, q⟩]
          have q' : sp (H (6 * g0)).toNatClampNeg v = true := by rw [S1]; exact q0.mp q
          rw [if_pos q']
          show Int32.ofNat k = Int32.ofNat (poZ (.branch n cs r) k (g0 - g0))
          rw [Nat.sub_self]
          rfl
        · rw [if_neg (fun z => q z.2)]
          have q' : ¬ sp (H (6 * g0)).toNatClampNeg v = true := by rw [S1]; exact fun z => q (q0.mpr z)
          rw [if_neg q']
