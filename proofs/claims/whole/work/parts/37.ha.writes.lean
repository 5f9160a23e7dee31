set_option maxRecDepth 100000
/-! WHAT IS WRITTEN: a field that the code of some methods (and of all that they call) never writes stays -/
def kf (c k : Nat) (h h' : mh_H) : Prop := mh_n h ≤ mh_n h' ∧ (∀ b, b < mh_n h → mh_k h' b = mh_k h b) ∧ ∀ b, b < mh_n h → mh_k h b = c → mh_i h' b k = mh_i h b k
theorem kf_id {c k : Nat} {h : mh_H} : kf c k h h := ⟨Nat.le_refl _, fun _ _ => rfl, fun _ _ _ => rfl⟩
theorem kf_t {c k : Nat} {h h1 h2 : mh_H} (x : kf c k h h1) (y : kf c k h1 h2) : kf c k h h2 := ⟨Nat.le_trans x.1 y.1, fun b hb => (y.2.1 b (Nat.lt_of_lt_of_le hb x.1)).trans (x.2.1 b hb), fun b hb hc => (y.2.2 b (Nat.lt_of_lt_of_le hb x.1) ((x.2.1 b hb).trans hc)).trans (x.2.2 b hb hc)⟩
section KFs
variable {c k : Nat} {h : mh_H}
theorem kf_si {o j : Nat} {v : Int32} (w : ¬ (mh_k h o = c ∧ j = k)) : kf c k h (mh_si h o j v) := ⟨Nat.le_refl _, fun _ _ => rfl, fun b hb hc => by
  rw [hi_si, if_neg (fun z => w (by rw [← z.1, ← z.2]; exact ⟨hc, rfl⟩))]⟩
theorem kf_sj {o j : Nat} {v : Int64} : kf c k h (mh_sj h o j v) := ⟨Nat.le_refl _, fun _ _ => rfl, fun b hb hc => by rw [hi_sj]⟩
theorem kf_sr {o j : Nat} {v : Option Nat} : kf c k h (mh_sr h o j v) := ⟨Nat.le_refl _, fun _ _ => rfl, fun b hb hc => by rw [hi_sr]⟩
theorem kf_new {kd len : Nat} : kf c k h (mh_new h kd len) := ⟨by rw [hn_new]; omega, fun b hb => by rw [hk_new, if_neg (by omega)], fun b hb hc => by rw [hi_new, if_neg (by omega)]⟩
theorem kf_cp {o sp a dp n : Nat} (w : ¬ mh_k h a = c) : kf c k h (mh_cp h o sp a dp n) := ⟨Nat.le_refl _, fun _ _ => rfl, fun b hb hc => by rw [hi_cp, if_neg (fun z => w (by rw [← z.1]; exact hc))]⟩
theorem kf_cl {o : Nat} : kf c k h (mh_cl h o) := by
  refine ⟨Nat.le_succ _, fun b hb => ?_, fun b hb hc => ?_⟩
  · show mh_w (mh_k h) (mh_n h) (mh_k h o) b = mh_k h b
    unfold mh_w
    rw [if_neg (by omega)]
  · show mh_w (mh_i h) (mh_n h) (mh_i h o) b k = mh_i h b k
    unfold mh_w
    rw [if_neg (by omega)]
def me_kf (c k : Nat) (h : mh_H) (r : Option me_R) : Prop := ∀ (pc' : Nat) (ls' : me_L) (st' : List Value) (h' : mh_H), r = some (.inl (pc', ls', st', h')) → kf c k h h'
theorem mk_none : me_kf c k h none := fun _ _ _ _ e => by cases e
theorem mk_go {h2 : mh_H} {pc : Nat} {ls : me_L} {st : List Value} (x : kf c k h h2) : me_kf c k h (me_go pc ls st h2) := fun _ _ _ _ e => by cases e; exact x
theorem mk_same {pc : Nat} {ls : me_L} {st : List Value} : me_kf c k h (me_go pc ls st h) := mk_go kf_id
theorem mk_b {r : Option me_R} {b : Bool} (x : b = true → me_kf c k h r) : me_kf c k h (me_1 r b) := fun p l s h' e => by
  cases b with
  | true => exact x rfl p l s h' e
  | false => cases e
theorem mk_1 {r : Option me_R} {b : Bool} (x : me_kf c k h r) : me_kf c k h (me_1 r b) := mk_b fun _ => x
theorem mk_jp {pc : Nat} {off : Int} {ls : me_L} {st : List Value} : me_kf c k h (me_jp pc off ls st h) := by
  unfold me_jp
  split
  · exact mk_same
  · exact mk_none
theorem mk_br {b : Bool} {pc : Nat} {off : Int} {ls : me_L} {st : List Value} : me_kf c k h (me_br b pc off ls st h) := by
  cases b with
  | true => exact mk_jp
  | false => exact mk_1 mk_same
theorem mk_pv {r : Option Value} {pc : Nat} {ls : me_L} {st : List Value} : me_kf c k h (me_pv r pc ls st h) := by
  cases r with
  | none => exact mk_none
  | some x => exact mk_same
theorem mk_pi {r : Option Int32} {pc : Nat} {ls : me_L} {st : List Value} : me_kf c k h (me_pi r pc ls st h) := by
  cases r with
  | none => exact mk_none
  | some x => exact mk_same
theorem mk_pl {r : Option Int64} {pc : Nat} {ls : me_L} {st : List Value} : me_kf c k h (me_pl r pc ls st h) := by
  cases r with
  | none => exact mk_none
  | some x => exact mk_same
theorem mk_sw {r : Option Int} {pc : Nat} {ls : me_L} {st : List Value} : me_kf c k h (me_sw r pc ls st h) := by
  cases r with
  | none => exact mk_none
  | some x => exact mk_jp
theorem mk_ph {o ci j : Nat} {x : Value} {pc : Nat} {ls : me_L} {st : List Value} (w : ¬ (mh_k h o = c ∧ j = k)) : me_kf c k h (me_ph (me_wr h o ci j x) pc ls st) := by
  unfold me_wr
  split
  · split
    · exact mk_go (kf_si w)
    · exact mk_none
  · split
    · exact mk_go kf_sj
    · exact mk_none
  · split
    · exact mk_go kf_sr
    · exact mk_none
  · split
    · exact mk_go kf_sr
    · exact mk_none
  · exact mk_none
theorem mk_ret {r : Option Value} : me_kf c k h (some (.inr (.inr r))) := fun _ _ _ _ e => by cases e
theorem mk_cl {y n : Nat} {st : List Value} : me_kf c k h (me_cl y n st) := mk_1 fun _ _ _ _ e => by cases e
/-- an instruction that is no putfield of that field -/
theorem ix_k {o : Nat} {i : Int32} (b : me_ix h o i = true) : 100 ≤ mh_k h o := by
  unfold me_ix at b
  simp only [Bool.and_eq_true, decide_eq_true_eq] at b
  exact b.2.1
theorem mm_ins_kf (hc : c < 100) (ins : Instr) (a b : Nat) (v : Int) (pc : Nat) (ls : me_L) (st : List Value) (w : ∀ x, ins = .putfield x → ¬ (a = c ∧ b = k)) : me_kf c k h (mm_ins ins a b v pc ls st h) := by
  have arr : ∀ {o : Nat} {i : Int32} {z : Bool} {v : Int32} {j pc' : Nat} {ls' : me_L} {st' : List Value}, me_kf c k h (me_1 (me_go pc' ls' st' (mh_si h o j v)) (me_ix h o i && z)) := fun {o i z v j pc' ls' st'} => mk_b fun e => by
    have e1 : me_ix h o i = true := by cases hx : me_ix h o i; rw [hx] at e; cases e; rfl
    have := ix_k e1
    exact mk_go (kf_si (by omega))
  have arr1 : ∀ {o : Nat} {i : Int32} {v : Int32} {j pc' : Nat} {ls' : me_L} {st' : List Value}, me_kf c k h (me_1 (me_go pc' ls' st' (mh_si h o j v)) (me_ix h o i)) := fun {o i v j pc' ls' st'} => mk_b fun e => by
    have := ix_k e
    exact mk_go (kf_si (by omega))
  have fld : ∀ {o : Nat} {x : Value} {pc' : Nat} {ls' : me_L} {st' : List Value}, ¬ (a = c ∧ b = k) → me_kf c k h (me_1 (me_ph (me_wr h o a b x) pc' ls' st') (me_ob h o a b)) := fun {o x pc' ls' st'} nw => mk_b fun e => by
    have e1 : mh_k h o = a := by
      unfold me_ob at e
      simp only [Bool.and_eq_true, decide_eq_true_eq] at e
      exact e.2.1
    exact mk_ph (by rw [e1]; exact nw)
  have cpy : ∀ {o d : Nat} {sp dp n : Int32} {z : Bool} {pc' : Nat} {ls' : me_L} {st' : List Value}, me_kf c k h (me_1 (me_go pc' ls' st' (mh_cp h o sp.toNatClampNeg d dp.toNatClampNeg n.toNatClampNeg)) (me_cpok h o d sp dp n && z)) := fun {o d sp dp n z pc' ls' st'} => mk_b fun e => by
    have e1 : 100 ≤ mh_k h d := by
      have e2 : me_cpok h o d sp dp n = true := by cases hx : me_cpok h o d sp dp n; rw [hx] at e; cases e; rfl
      unfold me_cpok at e2
      simp only [Bool.and_eq_true, decide_eq_true_eq] at e2
      exact e2.1.2.2.2.1
    exact mk_go (kf_cp (by omega))
  cases ins with
  | putfield x =>
    have nw := w x rfl
    unfold mm_ins
    dsimp only
    split
    · exact fld nw
    · exact mk_none
  | _ =>
    clear w
    unfold mm_ins
    dsimp only
    first
    | exact mk_none
    | exact mk_same
    | exact mk_pv
    | exact mk_jp
    | exact mk_1 mk_same
    | exact mk_1 (mk_go kf_new)
    | exact mk_1 mk_cl
    | (split <;> first
        | exact mk_none
        | exact mk_same
        | exact mk_1 mk_same
        | exact arr
        | exact mk_1 (mk_go kf_sj)
        | exact mk_1 (mk_go kf_sr)
        | exact mk_1 (mk_go kf_new)
        | exact mk_1 mk_ret
        | exact mk_ret
        | exact mk_1 mk_jp
        | exact mk_jp
        | exact mk_br
        | exact mk_pi
        | exact mk_pl
        | exact mk_1 mk_cl
        | exact mk_cl
        | (split <;> first
            | exact mk_none
            | exact mk_jp
            | exact mk_sw
            | exact mk_same
            | exact mk_1 mk_same
            | exact arr
            | exact arr1
            | exact cpy
            | exact mk_1 (mk_go kf_cl)))
end KFs
