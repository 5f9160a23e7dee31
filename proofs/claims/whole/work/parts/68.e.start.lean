set_option maxRecDepth 100000
/-! THE START: an int other than 0 stands only where a row has a place -/
def jyk (h : mh_H) (b j : Nat) : Prop := b < mh_n h ∧ (mh_k h b < 100 ∨ j < mh_l h b)
def jyf (h : mh_H) : Prop := ∀ b j, ¬ mh_i h b j = 0 → jyk h b j
def jyo (h : mh_H) (r : Option me_R) : Prop := ∀ (pc' : Nat) (ls' : me_L) (st' : List Value) (h' : mh_H), r = some (.inl (pc', ls', st', h')) → jyf h → jyf h'
section JYO
variable {h : mh_H} {pc : Nat} {ls : me_L} {st : List Value}
theorem jyo_none : jyo h none := fun _ _ _ _ e => by cases e
theorem jyo_go {h2 : mh_H} (k : jyf h → jyf h2) : jyo h (me_go pc ls st h2) := fun _ _ _ _ e => by cases e; exact k
theorem jyo_same : jyo h (me_go pc ls st h) := jyo_go id
theorem jyo_1 {r : Option me_R} {b : Bool} (k : b = true → jyo h r) : jyo h (me_1 r b) := fun p l s h' e => by
  cases b with
  | true => exact k rfl p l s h' e
  | false => cases e
theorem jyo_jp {off : Int} : jyo h (me_jp pc off ls st h) := by
  unfold me_jp
  split
  · exact jyo_same
  · exact jyo_none
theorem jyo_br {b : Bool} {off : Int} : jyo h (me_br b pc off ls st h) := by
  cases b with
  | true => exact jyo_jp
  | false => exact jyo_1 fun _ => jyo_same
theorem jyo_pv {r : Option Value} : jyo h (me_pv r pc ls st h) := by
  cases r with
  | none => exact jyo_none
  | some x => exact jyo_same
theorem jyo_pi {r : Option Int32} : jyo h (me_pi r pc ls st h) := by
  cases r with
  | none => exact jyo_none
  | some x => exact jyo_same
theorem jyo_pl {r : Option Int64} : jyo h (me_pl r pc ls st h) := by
  cases r with
  | none => exact jyo_none
  | some x => exact jyo_same
theorem jyo_sw {r : Option Int} : jyo h (me_sw r pc ls st h) := by
  cases r with
  | none => exact jyo_none
  | some x => exact jyo_jp
theorem jyo_ret {r : Option Value} : jyo h (some (.inr (.inr r))) := fun _ _ _ _ e => by cases e
theorem jyo_cl {y n : Nat} : jyo h (me_cl y n st) := jyo_1 fun _ _ _ _ _ e => by cases e
/-- writes of ints elsewhere -/
theorem jyf_sj {o k : Nat} {v : Int64} (hb : jyf h) : jyf (mh_sj h o k v) := hb
theorem jyf_sr {o k : Nat} {v : Option Nat} (hb : jyf h) : jyf (mh_sr h o k v) := hb
theorem jyf_si {o k : Nat} {v : Int32} (w : jyk h o k) (hb : jyf h) : jyf (mh_si h o k v) := by
  intro b j e
  show jyk h b j
  rw [hi_si] at e
  by_cases z : b = o ∧ j = k
  · rw [z.1, z.2]
    exact w
  · rw [if_neg z] at e
    exact hb b j e
theorem jyf_cp {o sp d dp n : Nat} (w : d < mh_n h ∧ dp + n ≤ mh_l h d) (hb : jyf h) : jyf (mh_cp h o sp d dp n) := by
  intro b j e
  show jyk h b j
  rw [hi_cp] at e
  by_cases z : b = d ∧ dp ≤ j ∧ j < dp + n
  · rw [z.1]
    exact ⟨w.1, Or.inr (by omega)⟩
  · rw [if_neg z] at e
    exact hb b j e
theorem jyf_new {kd len : Nat} (hb : jyf h) : jyf (mh_new h kd len) := by
  intro b j e
  rw [hi_new] at e
  by_cases nb : b = mh_n h
  · rw [if_pos nb] at e
    exact absurd rfl e
  · rw [if_neg nb] at e
    obtain ⟨a1, a2⟩ := hb b j e
    have k1 : mh_k (mh_new h kd len) b = mh_k h b := if_neg nb
    have l1 : mh_l (mh_new h kd len) b = mh_l h b := if_neg nb
    refine ⟨by rw [hn_new]; omega, ?_⟩
    rw [k1, l1]
    exact a2
theorem jyf_cl {o : Nat} (ho : o < mh_n h) (hb : jyf h) : jyf (mh_cl h o) := by
  intro b j e
  have e' : ¬ mh_w (mh_i h) (mh_n h) (mh_i h o) b j = 0 := e
  have n1 : mh_n (mh_cl h o) = mh_n h + 1 := rfl
  unfold mh_w at e'
  by_cases z : b = mh_n h
  · rw [if_pos z] at e'
    obtain ⟨a1, a2⟩ := hb o j e'
    have k1 : mh_k (mh_cl h o) b = mh_k h o := if_pos z
    have l1 : mh_l (mh_cl h o) b = mh_l h o := if_pos z
    refine ⟨by rw [n1]; omega, ?_⟩
    rw [k1, l1]
    exact a2
  · rw [if_neg z] at e'
    obtain ⟨a1, a2⟩ := hb b j e'
    have k1 : mh_k (mh_cl h o) b = mh_k h b := if_neg z
    have l1 : mh_l (mh_cl h o) b = mh_l h b := if_neg z
    refine ⟨by rw [n1]; omega, ?_⟩
    rw [k1, l1]
    exact a2
theorem jyo_ph {o ci k : Nat} {x : Value} (ho : o < mh_n h) (hk : mh_k h o = ci) (hc : ci < 100) : jyo h (me_ph (me_wr h o ci k x) pc ls st) := by
  have w : jyk h o k := ⟨ho, Or.inl (by rw [hk]; exact hc)⟩
  unfold me_wr
  split
  · split
    · exact jyo_go (jyf_si w)
    · exact jyo_none
  · split
    · exact jyo_go jyf_sj
    · exact jyo_none
  · split
    · exact jyo_go jyf_sr
    · exact jyo_none
  · split
    · exact jyo_go jyf_sr
    · exact jyo_none
  · exact jyo_none
theorem jyo_ix {o : Nat} {i : Int32} (e : me_ix h o i = true) : jyk h o i.toNatClampNeg := by
  unfold me_ix at e
  simp only [Bool.and_eq_true, decide_eq_true_eq] at e
  exact ⟨e.1, Or.inr e.2.2.2⟩
theorem jyo_ia {o : Nat} {i : Int32} {c : Bool} (e : (me_ix h o i && c) = true) : jyk h o i.toNatClampNeg := jyo_ix (Bool.and_eq_true_iff.mp e).1
theorem jyo_cq {o d : Nat} {sp dp n : Int32} {c : Bool} (e : (me_cpok h o d sp dp n && c) = true) : d < mh_n h ∧ dp.toNatClampNeg + n.toNatClampNeg ≤ mh_l h d := by
  unfold me_cpok at e
  simp only [Bool.and_eq_true, decide_eq_true_eq] at e
  exact ⟨e.1.1.2.1, e.1.2.1.2.2.2.2⟩
end JYO
theorem mm_ins_jyo (ins : Instr) (a b : Nat) (v : Int) (pc : Nat) (ls : me_L) (st : List Value) (h : mh_H) : jyo h (mm_ins ins a b v pc ls st h) := by
  cases ins <;> unfold mm_ins <;> dsimp only <;>
    first
    | exact jyo_none
    | exact jyo_same
    | exact jyo_pv
    | exact jyo_jp
    | exact jyo_1 fun _ => jyo_same
    | exact jyo_1 fun _ => jyo_go jyf_new
    | exact jyo_1 fun _ => jyo_cl
    | (split <;> first
        | exact jyo_none
        | exact jyo_same
        | exact jyo_1 fun _ => jyo_same
        | exact jyo_1 fun _ => jyo_go jyf_new
        | exact jyo_1 fun _ => jyo_ret
        | exact jyo_ret
        | exact jyo_1 fun _ => jyo_jp
        | exact jyo_jp
        | exact jyo_br
        | exact jyo_pi
        | exact jyo_pl
        | exact jyo_1 fun e => jyo_ph (iyo_obk e).1 (iyo_obk e).2.1 (iyo_obk e).2.2.1
        | exact jyo_1 fun _ => jyo_cl
        | exact jyo_cl
        | exact jyo_1 fun _ => jyo_go jyf_sj
        | exact jyo_1 fun _ => jyo_go jyf_sr
        | exact jyo_1 fun e => jyo_go (jyf_si (jyo_ia e))
        | exact jyo_1 fun e => jyo_go (jyf_si (jyo_ix e))
        | (split <;> first
            | exact jyo_none
            | exact jyo_jp
            | exact jyo_sw
            | exact jyo_same
            | exact jyo_1 fun _ => jyo_same
            | (refine jyo_1 fun e => jyo_go (jyf_cl ?_)
               simp only [Bool.and_eq_true, decide_eq_true_eq] at e
               exact e.1)
            | exact jyo_1 fun e => jyo_go (jyf_cp (jyo_cq e))
            | exact jyo_1 fun e => jyo_go (jyf_si (jyo_ia e))
            | exact jyo_1 fun e => jyo_go (jyf_si (jyo_ix e))))
theorem mm_jyf (P : me_P) (nl : Nat → Nat) : ∀ (n d y pc : Nat) (ls : me_L) (st : List Value) (h : mh_H) (r : Option Value) (h' : mh_H), mm_run P nl n d y pc ls st h = some (r, h') → jyf h → jyf h' := by
  intro n
  induction n with
  | zero => intro d y pc ls st h r h' e; cases e
  | succ n ih =>
    intro d y pc ls st h r h' e hb
    unfold mm_run at e
    split at e
    next pc1 ls1 st1 h1 hst =>
      unfold mm_step at hst
      split at hst
      next ins len a b v hP => exact ih _ _ _ _ _ _ _ _ e (mm_ins_jyo ins a b v pc ls st h _ _ _ _ hst hb)
      next => cases hst
    next r1 hst => cases e; exact hb
    next y' args rest hst =>
      split at e
      next d1 hdec =>
        split at e
        next r2 h2 hr => exact ih _ _ _ _ _ _ _ _ e (ih _ _ _ _ _ _ _ _ hr hb)
        next => cases e
      next => cases e
    next => cases e
theorem mq_jyf {y : Nat} : ∀ (k n d pc : Nat) (ls : me_L) (st : List Value) (h : mh_H) (pc' : Nat) (ls' : me_L) (st' : List Value) (h' : mh_H), mq_pre y k n d pc ls st h = some (pc', ls', st', h') → jyf h → jyf h' := by
  intro k
  induction k with
  | zero => intro n d pc ls st h pc' ls' st' h' e hb; cases e; exact hb
  | succ k ih =>
    intro n d pc ls st h pc' ls' st' h' e hb
    unfold mq_pre at e
    split at e
    next pc1 ls1 st1 h1 hs =>
      unfold mm_step at hs
      split at hs
      next ins len a b v hP => exact ih _ _ _ _ _ _ _ _ _ _ e (mm_ins_jyo ins a b v pc ls st h _ _ _ _ hs hb)
      next => cases hs
    next y' as rest hs =>
      split at e
      next d1 hdec =>
        split at e
        next r2 h2 hr => exact ih _ _ _ _ _ _ _ _ _ _ e (mm_jyf _ _ _ _ _ _ _ _ _ _ _ hr hb)
        next => cases e
      next => cases e
    next => cases e
theorem mn_jyf : ∀ (k n d pc : Nat) (ls : me_L) (st : List Value) (h : mh_H) (pc' : Nat) (ls' : me_L) (st' : List Value) (h' : mh_H), mn_pre k n d pc ls st h = some (pc', ls', st', h') → jyf h → jyf h' := by
  intro k
  induction k with
  | zero => intro n d pc ls st h pc' ls' st' h' e hb; cases e; exact hb
  | succ k ih =>
    intro n d pc ls st h pc' ls' st' h' e hb
    unfold mn_pre at e
    split at e
    next ins len a b v hP =>
      split at e
      next hz =>
        split at e
        next pc1 ls1 st1 h1 hs => exact ih _ _ _ _ _ _ _ _ _ _ e (mm_ins_jyo ins a b v pc ls st h _ _ _ _ hs hb)
        next y' as rest hs =>
          split at e
          next d1 hdec =>
            split at e
            next r2 h2 hr => exact ih _ _ _ _ _ _ _ _ _ _ e (mm_jyf _ _ _ _ _ _ _ _ _ _ _ hr hb)
            next => cases e
          next => cases e
        next => cases e
      next => cases e
    next => cases e
theorem jyf_mh0 : jyf mh_0 := fun b j e => absurd rfl e
theorem jyf_A : jyf mp_hA := mn_jyf _ _ _ _ _ _ _ _ _ _ _ (mq_eq mp_cA) jyf_mh0
set_option maxRecDepth 100000 in
theorem hA_68 : ((decide (mh_k mp_hA 68 = 100) && decide (mh_l mp_hA 68 = 1000)) && ((List.range 1000).all fun j => decide (mh_i mp_hA 68 j = 0))) = true := by decide +kernel
theorem z68 : mh_i mp_hE 68 = fun _ => 0 := by
  rw [(sx_E.2 68 (by omega)).1]
  have w := hA_68
  rw [Bool.and_eq_true, Bool.and_eq_true, decide_eq_true_eq, decide_eq_true_eq] at w
  funext j
  by_cases c : mh_i mp_hA 68 j = 0
  · exact c
  · have q := (jyf_A 68 j c).2
    rw [w.1.1, w.1.2] at q
    have l : j < 1000 := by omega
    exact of_decide_eq_true (List.all_eq_true.mp w.2 j (List.mem_range.mpr l))
