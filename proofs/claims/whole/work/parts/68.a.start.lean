set_option maxRecDepth 100000
/-! THE START: references stand only where a class has a field, a row a place -/
def iyk (h : mh_H) (b j : Nat) : Prop := (mh_k h b < 100 ∧ j < mt_nf (mh_k h b)) ∨ (104 ≤ mh_k h b ∧ mh_k h b < 107 ∧ j < mh_l h b)
def iyf (h : mh_H) : Prop := ∀ b j o, mh_r h b j = some o → b < mh_n h ∧ iyk h b j
def iyo (h : mh_H) (r : Option me_R) : Prop := ∀ (pc' : Nat) (ls' : me_L) (st' : List Value) (h' : mh_H), r = some (.inl (pc', ls', st', h')) → iyf h → iyf h'
section IYO
variable {h : mh_H} {pc : Nat} {ls : me_L} {st : List Value}
theorem iyo_none : iyo h none := fun _ _ _ _ e => by cases e
theorem iyo_go {h2 : mh_H} (k : iyf h → iyf h2) : iyo h (me_go pc ls st h2) := fun _ _ _ _ e => by cases e; exact k
theorem iyo_same : iyo h (me_go pc ls st h) := iyo_go id
theorem iyo_1 {r : Option me_R} {b : Bool} (k : b = true → iyo h r) : iyo h (me_1 r b) := fun p l s h' e => by
  cases b with
  | true => exact k rfl p l s h' e
  | false => cases e
theorem iyo_jp {off : Int} : iyo h (me_jp pc off ls st h) := by
  unfold me_jp
  split
  · exact iyo_same
  · exact iyo_none
theorem iyo_br {b : Bool} {off : Int} : iyo h (me_br b pc off ls st h) := by
  cases b with
  | true => exact iyo_jp
  | false => exact iyo_1 fun _ => iyo_same
theorem iyo_pv {r : Option Value} : iyo h (me_pv r pc ls st h) := by
  cases r with
  | none => exact iyo_none
  | some x => exact iyo_same
theorem iyo_pi {r : Option Int32} : iyo h (me_pi r pc ls st h) := by
  cases r with
  | none => exact iyo_none
  | some x => exact iyo_same
theorem iyo_pl {r : Option Int64} : iyo h (me_pl r pc ls st h) := by
  cases r with
  | none => exact iyo_none
  | some x => exact iyo_same
theorem iyo_sw {r : Option Int} : iyo h (me_sw r pc ls st h) := by
  cases r with
  | none => exact iyo_none
  | some x => exact iyo_jp
theorem iyo_ret {r : Option Value} : iyo h (some (.inr (.inr r))) := fun _ _ _ _ e => by cases e
theorem iyo_cl {y n : Nat} : iyo h (me_cl y n st) := iyo_1 fun _ _ _ _ _ e => by cases e
/-- writes of ints elsewhere -/
theorem iyf_si {o k : Nat} {v : Int32} (hb : iyf h) : iyf (mh_si h o k v) := hb
theorem iyf_sj {o k : Nat} {v : Int64} (hb : iyf h) : iyf (mh_sj h o k v) := hb
theorem iyf_cp {o sp d dp n : Nat} (hb : iyf h) : iyf (mh_cp h o sp d dp n) := hb
theorem iyf_sr {o k : Nat} {v : Option Nat} (w : o < mh_n h ∧ iyk h o k) (hb : iyf h) : iyf (mh_sr h o k v) := by
  intro b j x e
  show b < mh_n h ∧ iyk h b j
  rw [hr_sr] at e
  split at e
  · next z =>
    rw [z.1, z.2]
    exact w
  · exact hb b j x e
theorem iyf_new {kd len : Nat} (hb : iyf h) : iyf (mh_new h kd len) := by
  intro b j x e
  rw [hr_nw] at e
  split at e
  · cases e
  · next nb =>
    obtain ⟨a1, a2⟩ := hb b j x e
    refine ⟨by rw [hn_new]; omega, ?_⟩
    unfold iyk at a2 ⊢
    have k1 : mh_k (mh_new h kd len) b = mh_k h b := if_neg nb
    have l1 : mh_l (mh_new h kd len) b = mh_l h b := if_neg nb
    rw [k1, l1]
    exact a2
theorem iyf_cl {o : Nat} (ho : o < mh_n h) (hb : iyf h) : iyf (mh_cl h o) := by
  intro b j x e
  have e' : mh_w (mh_r h) (mh_n h) (mh_r h o) b j = some x := e
  have n1 : mh_n (mh_cl h o) = mh_n h + 1 := rfl
  unfold mh_w at e'
  split at e'
  · next z =>
    obtain ⟨a1, a2⟩ := hb o j x e'
    refine ⟨by rw [n1]; omega, ?_⟩
    have k1 : mh_k (mh_cl h o) b = mh_k h o := if_pos z
    have l1 : mh_l (mh_cl h o) b = mh_l h o := if_pos z
    unfold iyk at a2 ⊢
    rw [k1, l1]
    exact a2
  · next z =>
    obtain ⟨a1, a2⟩ := hb b j x e'
    refine ⟨by rw [n1]; omega, ?_⟩
    have k1 : mh_k (mh_cl h o) b = mh_k h b := if_neg z
    have l1 : mh_l (mh_cl h o) b = mh_l h b := if_neg z
    unfold iyk at a2 ⊢
    rw [k1, l1]
    exact a2
theorem iyo_ph {o ci k : Nat} {x : Value} (ho : o < mh_n h) (hk : mh_k h o = ci) (hc : ci < 100) (hn : k < mt_nf ci) : iyo h (me_ph (me_wr h o ci k x) pc ls st) := by
  have w : o < mh_n h ∧ iyk h o k := ⟨ho, Or.inl ⟨by rw [hk]; exact hc, by rw [hk]; exact hn⟩⟩
  unfold me_wr
  split
  · split
    · exact iyo_go iyf_si
    · exact iyo_none
  · split
    · exact iyo_go iyf_sj
    · exact iyo_none
  · split
    · exact iyo_go (iyf_sr w)
    · exact iyo_none
  · split
    · exact iyo_go (iyf_sr w)
    · exact iyo_none
  · exact iyo_none
theorem iyo_obk {o a b : Nat} (e : me_ob h o a b = true) : o < mh_n h ∧ mh_k h o = a ∧ a < 100 ∧ b < mt_nf a := by
  unfold me_ob at e
  simp only [Bool.and_eq_true, decide_eq_true_eq] at e
  exact e
theorem iyo_ixk {o : Nat} {i : Int32} {c : Bool} (e : (me_ix h o i && (decide (104 ≤ mh_k h o) && (decide (mh_k h o < 107) && c))) = true) : o < mh_n h ∧ iyk h o i.toNatClampNeg := by
  unfold me_ix at e
  simp only [Bool.and_eq_true, decide_eq_true_eq] at e
  exact ⟨e.1.1, Or.inr ⟨e.2.1, e.2.2.1, e.1.2.2.2⟩⟩
theorem iyo_ixn {o : Nat} {i : Int32} (e : (me_ix h o i && (decide (104 ≤ mh_k h o) && decide (mh_k h o < 107))) = true) : o < mh_n h ∧ iyk h o i.toNatClampNeg := by
  unfold me_ix at e
  simp only [Bool.and_eq_true, decide_eq_true_eq] at e
  exact ⟨e.1.1, Or.inr ⟨e.2.1, e.2.2, e.1.2.2.2⟩⟩
end IYO
theorem mm_ins_iyo (ins : Instr) (a b : Nat) (v : Int) (pc : Nat) (ls : me_L) (st : List Value) (h : mh_H) : iyo h (mm_ins ins a b v pc ls st h) := by
  cases ins <;> unfold mm_ins <;> dsimp only <;>
    first
    | exact iyo_none
    | exact iyo_same
    | exact iyo_pv
    | exact iyo_jp
    | exact iyo_1 fun _ => iyo_same
    | exact iyo_1 fun _ => iyo_go iyf_new
    | exact iyo_1 fun _ => iyo_cl
    | (split <;> first
        | exact iyo_none
        | exact iyo_same
        | exact iyo_1 fun _ => iyo_same
        | exact iyo_1 fun _ => iyo_go iyf_new
        | exact iyo_1 fun _ => iyo_ret
        | exact iyo_ret
        | exact iyo_1 fun _ => iyo_jp
        | exact iyo_jp
        | exact iyo_br
        | exact iyo_pi
        | exact iyo_pl
        | exact iyo_1 fun e => iyo_ph (iyo_obk e).1 (iyo_obk e).2.1 (iyo_obk e).2.2.1 (iyo_obk e).2.2.2
        | exact iyo_1 fun _ => iyo_cl
        | exact iyo_cl
        | exact iyo_1 fun _ => iyo_go iyf_sj
        | exact iyo_1 fun e => iyo_go (iyf_sr (iyo_ixk e))
        | exact iyo_1 fun e => iyo_go (iyf_sr (iyo_ixn e))
        | exact iyo_1 fun _ => iyo_go iyf_si
        | (split <;> first
            | exact iyo_none
            | exact iyo_jp
            | exact iyo_sw
            | exact iyo_same
            | exact iyo_1 fun _ => iyo_same
            | (refine iyo_1 fun e => iyo_go (iyf_cl ?_)
               simp only [Bool.and_eq_true, decide_eq_true_eq] at e
               exact e.1)
            | exact iyo_1 fun _ => iyo_go iyf_cp
            | exact iyo_1 fun _ => iyo_go iyf_si))
theorem mm_iyf (P : me_P) (nl : Nat → Nat) : ∀ (n d y pc : Nat) (ls : me_L) (st : List Value) (h : mh_H) (r : Option Value) (h' : mh_H), mm_run P nl n d y pc ls st h = some (r, h') → iyf h → iyf h' := by
  intro n
  induction n with
  | zero => intro d y pc ls st h r h' e; cases e
  | succ n ih =>
    intro d y pc ls st h r h' e hb
    unfold mm_run at e
    split at e
    next pc1 ls1 st1 h1 hst =>
      unfold mm_step at hst
      split at hst
      next ins len a b v hP => exact ih _ _ _ _ _ _ _ _ e (mm_ins_iyo ins a b v pc ls st h _ _ _ _ hst hb)
      next => cases hst
    next r1 hst => cases e; exact hb
    next y' args rest hst =>
      split at e
      next d1 hdec =>
        split at e
        next r2 h2 hr => exact ih _ _ _ _ _ _ _ _ e (ih _ _ _ _ _ _ _ _ hr hb)
        next => cases e
      next => cases e
    next => cases e
theorem mn_iyf : ∀ (k n d pc : Nat) (ls : me_L) (st : List Value) (h : mh_H) (pc' : Nat) (ls' : me_L) (st' : List Value) (h' : mh_H), mn_pre k n d pc ls st h = some (pc', ls', st', h') → iyf h → iyf h' := by
  intro k
  induction k with
  | zero => intro n d pc ls st h pc' ls' st' h' e hb; cases e; exact hb
  | succ k ih =>
    intro n d pc ls st h pc' ls' st' h' e hb
    unfold mn_pre at e
    split at e
    next ins len a b v hP =>
      split at e
      next hz =>
        split at e
        next pc1 ls1 st1 h1 hs => exact ih _ _ _ _ _ _ _ _ _ _ e (mm_ins_iyo ins a b v pc ls st h _ _ _ _ hs hb)
        next y' as rest hs =>
          split at e
          next d1 hdec =>
            split at e
            next r2 h2 hr => exact ih _ _ _ _ _ _ _ _ _ _ e (mm_iyf _ _ _ _ _ _ _ _ _ _ _ hr hb)
            next => cases e
          next => cases e
        next => cases e
      next => cases e
    next => cases e
theorem iyf_mh0 : iyf mh_0 := fun b j o e => by
  have e' : (none : Option Nat) = some o := e
  cases e'
theorem iyf_A : iyf mp_hA := mn_iyf _ _ _ _ _ _ _ _ _ _ _ (mq_eq mp_cA) iyf_mh0
/-- a call's end is one -/
theorem mc_one {d y : Nat} {as : List Value} {h h' : mh_H} {r : Option Value} (w : mcall d y as h (fun r0 z => r0 = r ∧ z = h')) : ∀ Q, mcall d y as h Q = Q r h' := fun Q => by
  obtain ⟨n, r0, z, e, q1, q2⟩ := w
  rw [q1, q2] at e
  refine propext ⟨fun q => ?_, fun q => ⟨n, r, h', e, q⟩⟩
  obtain ⟨n', r1, z1, e1, q3⟩ := q
  have a1 := mm_fuel mc_P mc_nl n (n + n') d y 0 _ _ h (r, h') (Nat.le_add_right _ _) e
  have a2 := mm_fuel mc_P mc_nl n' (n + n') d y 0 _ _ h (r1, z1) (Nat.le_add_left _ _) e1
  rw [a1] at a2
  have a3 : (r, h') = (r1, z1) := Option.some.inj a2
  have b1 : r = r1 := congrArg Prod.fst a3
  have b2 : h' = z1 := congrArg Prod.snd a3
  rw [b1, b2]
  exact q3
theorem mp_ca : ∀ Q, mcall 2046 298 [.ref 81] mp_hA Q = Q none mp_hE := mc_one (mp_mo ⟨rfl, rfl⟩)
theorem iyf_E : iyf mp_hE := by
  obtain ⟨n, r, z, e, q1, q2⟩ := mp_mo (Q := fun r z => r = none ∧ z = mp_hE) ⟨rfl, rfl⟩
  rw [← q2]
  exact mm_iyf _ _ _ _ _ _ _ _ _ _ _ e iyf_A
