set_option maxRecDepth 100000
/-! what is written: over runs -/
def okI (S : Nat → Bool) (c k : Nat) (e : me_E) : Bool := match e with
  | (ins, _, a, b, _) => match ins with
    | .putfield _ => !(a == c && b == k)
    | .invokevirtual _ => b == 91 || S a
    | .invokestatic _ => !(b == 0) || S a
    | .invokespecial _ => b == 1 || S a
    | _ => true
theorem lk_all {f : me_E → Bool} {pc : Nat} {e : me_E} : ∀ {l : List (Nat × me_E)}, l.all (fun q => f q.2) = true → me_lk l pc = some e → f e = true := by
  intro l
  induction l with
  | nil => intro _ z; cases z
  | cons q r ih =>
    intro w z
    obtain ⟨q1, q2⟩ := q
    rw [List.all_cons, Bool.and_eq_true] at w
    unfold me_lk at z
    split at z
    · cases z; exact w.1
    · exact ih w.2 z
def me_cs (S : Nat → Bool) (r : Option me_R) : Prop := ∀ (y' : Nat) (as rest : List Value), r = some (.inr (.inl (y', as, rest))) → S y' = true
section KGs
variable {S : Nat → Bool} {h : mh_H}
theorem cs_none : me_cs S none := fun _ _ _ e => by cases e
theorem cs_go {pc : Nat} {ls : me_L} {st : List Value} {h : mh_H} : me_cs S (me_go pc ls st h) := fun _ _ _ e => by cases e
theorem cs_1 {r : Option me_R} {b : Bool} (x : me_cs S r) : me_cs S (me_1 r b) := fun y a s e => by
  cases b with
  | true => exact x y a s e
  | false => cases e
theorem cs_jp {pc : Nat} {off : Int} {ls : me_L} {st : List Value} : me_cs S (me_jp pc off ls st h) := by
  unfold me_jp
  split
  · exact cs_go
  · exact cs_none
theorem cs_br {b : Bool} {pc : Nat} {off : Int} {ls : me_L} {st : List Value} : me_cs S (me_br b pc off ls st h) := by
  cases b with
  | true => exact cs_jp
  | false => exact cs_1 cs_go
theorem cs_pv {r : Option Value} {pc : Nat} {ls : me_L} {st : List Value} : me_cs S (me_pv r pc ls st h) := by
  cases r with
  | none => exact cs_none
  | some x => exact cs_go
theorem cs_pi {r : Option Int32} {pc : Nat} {ls : me_L} {st : List Value} : me_cs S (me_pi r pc ls st h) := by
  cases r with
  | none => exact cs_none
  | some x => exact cs_go
theorem cs_pl {r : Option Int64} {pc : Nat} {ls : me_L} {st : List Value} : me_cs S (me_pl r pc ls st h) := by
  cases r with
  | none => exact cs_none
  | some x => exact cs_go
theorem cs_sw {r : Option Int} {pc : Nat} {ls : me_L} {st : List Value} : me_cs S (me_sw r pc ls st h) := by
  cases r with
  | none => exact cs_none
  | some x => exact cs_jp
theorem cs_ph {r : Option mh_H} {pc : Nat} {ls : me_L} {st : List Value} : me_cs S (me_ph r pc ls st) := by
  cases r with
  | none => exact cs_none
  | some x => exact cs_go
theorem cs_ret {r : Option Value} : me_cs S (some (.inr (.inr r))) := fun _ _ _ e => by cases e
theorem cs_cl {y n : Nat} {st : List Value} (w : S y = true) : me_cs S (me_cl y n st) := cs_1 fun _ _ _ e => by cases e; exact w
theorem mm_ins_cs {c k len : Nat} (ins : Instr) (a b : Nat) (v : Int) (pc : Nat) (ls : me_L) (st : List Value) (w : okI S c k (ins, len, a, b, v) = true) : me_cs S (mm_ins ins a b v pc ls st h) := by
  cases ins with
  | invokevirtual x =>
    unfold mm_ins
    dsimp only
    have w' : (b == 91 || S a) = true := w
    split
    · exact cs_1 (cs_cl w')
    · split
      · exact cs_1 cs_go
      · exact cs_none
    · next n90 n91 =>
      rw [Bool.or_eq_true] at w'
      rcases w' with z | z
      · exact absurd (eq_of_beq z) n91
      · exact cs_1 (cs_cl z)
  | invokestatic x =>
    unfold mm_ins
    dsimp only
    have w' : (!(b == 0) || S a) = true := w
    split
    · have wa : S a = true := by
        rw [Bool.or_eq_true] at w'
        rcases w' with z | z
        · cases z
        · exact z
      exact cs_cl wa
    all_goals first | exact cs_none | (split <;> first | exact cs_none | exact cs_1 cs_go)
  | invokespecial x =>
    unfold mm_ins
    dsimp only
    have w' : (b == 1 || S a) = true := w
    split
    · split
      · exact cs_1 cs_go
      · exact cs_none
    · next n1 =>
      rw [Bool.or_eq_true] at w'
      rcases w' with z | z
      · exact absurd (eq_of_beq z) n1
      · exact cs_1 (cs_cl z)
  | _ =>
    clear w
    unfold mm_ins
    dsimp only
    first
    | exact cs_none
    | exact cs_go
    | exact cs_pv
    | exact cs_jp
    | exact cs_1 cs_go
    | (split <;> first
        | exact cs_none
        | exact cs_go
        | exact cs_1 cs_go
        | exact cs_1 cs_ret
        | exact cs_ret
        | exact cs_1 cs_jp
        | exact cs_jp
        | exact cs_br
        | exact cs_pi
        | exact cs_pl
        | exact cs_1 cs_ph
        | (split <;> first
            | exact cs_none
            | exact cs_jp
            | exact cs_sw
            | exact cs_go
            | exact cs_1 cs_go))
end KGs
def okM (ys : List Nat) (c k : Nat) : Bool := ys.all fun y => (mc_all.getD y []).all fun q => okI (fun z => ys.contains z) c k q.2
theorem mm_kf {ys : List Nat} {c k : Nat} (hc : c < 100) (ok : okM ys c k = true) : ∀ (n d y pc : Nat) (ls : me_L) (st : List Value) (h : mh_H) (r : Option Value) (h' : mh_H), ys.contains y = true → mm_run mc_P mc_nl n d y pc ls st h = some (r, h') → kf c k h h' := by
  have okp : ∀ y pc e, ys.contains y = true → mc_P y pc = some e → okI (fun z => ys.contains z) c k e = true := fun y pc e hy he => by
    have a1 : (mc_all.getD y []).all (fun q => okI (fun z => ys.contains z) c k q.2) = true := by
      unfold okM at ok
      exact List.all_eq_true.mp ok y (List.contains_iff_mem.mp hy)
    unfold mc_P at he
    rw [List.getD_eq_getElem?_getD] at a1
    split at he
    next l hl =>
      rw [hl] at a1
      exact lk_all a1 he
    next => cases he
  intro n
  induction n with
  | zero => intro d y pc ls st h r h' _ e; cases e
  | succ n ih =>
    intro d y pc ls st h r h' hy e
    unfold mm_run at e
    split at e
    next pc1 ls1 st1 h1 hst =>
      refine kf_t ?_ (ih _ _ _ _ _ _ _ _ hy e)
      unfold mm_step at hst
      split at hst
      next ins len a b v hP =>
        have o := okp y pc _ hy hP
        exact mm_ins_kf hc ins a b v pc ls st (fun x hx z => by
          subst hx
          have o' : (!(a == c && b == k)) = true := o
          rw [z.1, z.2, beq_self_eq_true, beq_self_eq_true] at o'
          cases o') _ _ _ _ hst
      next => cases hst
    next r1 hst => cases e; exact kf_id
    next y' args rest hst =>
      have hy' : ys.contains y' = true := by
        unfold mm_step at hst
        split at hst
        next ins len a b v hP => exact mm_ins_cs (S := fun z => ys.contains z) ins a b v pc ls st (okp y pc _ hy hP) y' args rest hst
        next => cases hst
      split at e
      next d1 hdec =>
        split at e
        next r2 h2 hr => exact kf_t (ih _ _ _ _ _ _ _ _ hy' hr) (ih _ _ _ _ _ _ _ _ hy e)
        next => cases e
      next => cases e
    next => cases e
/-- two ends of one call are the same -/
theorem cal_u {d y : Nat} {as : List Value} {h h1 h2 : mh_H} {r1 r2 : Option Value} (e1 : ∀ Q, mcall d y as h Q = Q r1 h1) (e2 : ∀ Q, mcall d y as h Q = Q r2 h2) : h1 = h2 := by
  have z := (e1 (fun _ x => x = h2)).symm.trans (e2 (fun _ x => x = h2))
  exact z.mpr rfl
theorem cal_kf {ys : List Nat} {c k : Nat} (hc : c < 100) (ok : okM ys c k = true) {d y : Nat} {as : List Value} {h h' : mh_H} {r : Option Value} (hy : ys.contains y = true) (e : ∀ Q, mcall d y as h Q = Q r h') : kf c k h h' := by
  have z : mcall d y as h (fun _ x => x = h') := by rw [e]
  obtain ⟨n, r', h2, q1, q2⟩ := z
  rw [← q2]
  exact mm_kf hc ok n d y 0 _ _ h r' h2 hy q1
/-- relation and set, and all that they call -/
def ySet : List Nat := [228, 229, 231, 232, 233, 234, 235, 236, 237, 238, 239, 240, 241, 242, 243, 244, 245, 246, 247, 248, 249, 252, 277, 278, 279, 282, 283, 284, 285, 286, 287, 288, 291, 292]
theorem ySet_1 : okM ySet 13 2 = true := by decide +kernel
def yRel : List Nat := [228, 229, 231, 232, 233, 234, 235, 236, 237, 238, 239, 240, 241, 242, 243, 244, 245, 246, 248, 249, 252, 277, 282, 283, 284, 285, 286]
theorem yRel_1 : okM yRel 13 1 = true := by decide +kernel
theorem yRel_2 : okM yRel 13 2 = true := by decide +kernel
