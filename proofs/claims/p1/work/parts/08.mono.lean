/-! the heap of the small machine only grows; which instructions go on, call, return -/
theorem me_len_flat (as : List Value) : (as.flatMap fun v => if v.category = 2 then [some v, none] else [some v]).length = (as.map fun v => v.category).sum := by
  induction as with
  | nil => rfl
  | cons x r ih =>
    rw [List.flatMap_cons, List.length_append, ih, List.map_cons, List.sum_cons]
    rcases lv_cat x with hc | hc
    · rw [if_neg (by omega), hc]; rfl
    · rw [if_pos hc, hc]; rfl
theorem me_flat_at (base : Nat) (xt : Nat → Option Nat) (as : List Value) : ∀ (i : Nat) (v : Value), (as.flatMap fun v => if v.category = 2 then [some v, none] else [some v])[i]? = some (some v) → (lg_sl (as.map (ms_v base xt)))[i]? = some (.val (ms_v base xt v)) := by
  induction as with
  | nil => intro i v h; simp at h
  | cons x r ih =>
    intro i v h
    rw [List.flatMap_cons] at h
    show ((ms_v base xt x :: r.map (ms_v base xt)).flatMap fun v => if v.category = 2 then [Slot.val v, Slot.second] else [Slot.val v])[i]? = _
    rw [List.flatMap_cons]
    rcases lv_cat x with hc | hc
    · rw [if_neg (by omega)] at h
      rw [if_neg (by rw [ms_cat]; omega)]
      cases i with
      | zero => simp at h; subst h; simp
      | succ j =>
        simp only [List.cons_append, List.nil_append, List.getElem?_cons_succ] at h ⊢
        exact ih j v h
    · rw [if_pos hc] at h
      rw [if_pos (by rw [ms_cat]; exact hc)]
      cases i with
      | zero => simp at h; subst h; simp
      | succ j =>
        cases j with
        | zero => simp at h
        | succ j2 =>
          simp only [List.cons_append, List.nil_append, List.getElem?_cons_succ] at h ⊢
          exact ih j2 v h
theorem lg_sl_len (base : Nat) (xt : Nat → Option Nat) (as : List Value) : (lg_sl (as.map (ms_v base xt))).length = (as.map fun v => v.category).sum := by
  induction as with
  | nil => rfl
  | cons x r ih =>
    show ((ms_v base xt x :: r.map (ms_v base xt)).flatMap fun v => if v.category = 2 then [Slot.val v, Slot.second] else [Slot.val v]).length = _
    rw [List.flatMap_cons, List.length_append]
    rw [show ((r.map (ms_v base xt)).flatMap fun v => if v.category = 2 then [Slot.val v, Slot.second] else [Slot.val v]).length = _ from ih, List.map_cons, List.sum_cons]
    rcases lv_cat x with hc | hc
    · rw [if_neg (by rw [ms_cat]; omega), hc]; rfl
    · rw [if_pos (by rw [ms_cat]; exact hc), hc]; rfl
/-- the locals at a method's entry -/
theorem ms_entry (base : Nat) (xt : Nat → Option Nat) {nL : Nat} {as : List Value} (hs : (as.map fun v => v.category).sum ≤ nL) : ms_L base xt nL (me_en nL as) ((lg_sl (as.map (ms_v base xt)) ++ List.replicate (nL - (lg_sl (as.map (ms_v base xt))).length) Slot.unset).toArray) := by
  have hl := lv_entry (as.map (ms_v base xt)) (n := nL) (by rw [lg_sl_len]; exact hs)
  refine ⟨?_, hl.1, hl.2.1, fun i v hi => ?_⟩
  · unfold me_en
    rw [List.length_append, List.length_replicate, me_len_flat]
    omega
  · unfold me_en at hi
    by_cases hlt : i < (as.map fun v => v.category).sum
    · rw [List.getElem?_append_left (by rw [me_len_flat]; exact hlt)] at hi
      rw [List.getElem?_toArray, List.getElem?_append_left (by rw [lg_sl_len]; exact hlt)]
      exact me_flat_at base xt as i v hi
    · rw [List.getElem?_append_right (by rw [me_len_flat]; omega)] at hi
      have := List.eq_of_mem_replicate (List.mem_of_getElem? hi)
      cases this
/-- a step that goes on makes the heap no smaller -/
def me_mo (h : mh_H) (r : Option me_R) : Prop := ∀ (pc' : Nat) (ls' : me_L) (st' : List Value) (h' : mh_H), r = some (.inl (pc', ls', st', h')) → mh_n h ≤ mh_n h' ∧ mh_s h ≤ mh_s h'
theorem me_mo_none {h : mh_H} : me_mo h none := fun _ _ _ _ e => by cases e
theorem me_mo_go {h h2 : mh_H} {pc : Nat} {ls : me_L} {st : List Value} (hn : mh_n h ≤ mh_n h2) (hs : mh_s h ≤ mh_s h2) : me_mo h (me_go pc ls st h2) := fun _ _ _ _ e => by cases e; exact ⟨hn, hs⟩
theorem me_mo_same {h : mh_H} {pc : Nat} {ls : me_L} {st : List Value} : me_mo h (me_go pc ls st h) := me_mo_go (Nat.le_refl _) (Nat.le_refl _)
theorem me_mo_1 {h : mh_H} {r : Option me_R} {b : Bool} (k : me_mo h r) : me_mo h (me_1 r b) := fun p l s h' e => by
  cases b with
  | true => exact k p l s h' e
  | false => cases e
theorem me_mo_jp {h : mh_H} {pc : Nat} {off : Int} {ls : me_L} {st : List Value} : me_mo h (me_jp pc off ls st h) := by
  unfold me_jp
  split
  · exact me_mo_same
  · exact me_mo_none
theorem me_mo_br {h : mh_H} {b : Bool} {pc : Nat} {off : Int} {ls : me_L} {st : List Value} : me_mo h (me_br b pc off ls st h) := by
  cases b with
  | true => exact me_mo_jp
  | false => exact me_mo_1 me_mo_same
theorem me_mo_pv {h : mh_H} {r : Option Value} {pc : Nat} {ls : me_L} {st : List Value} : me_mo h (me_pv r pc ls st h) := by
  cases r with
  | none => exact me_mo_none
  | some x => exact me_mo_same
theorem me_mo_pi {h : mh_H} {r : Option Int32} {pc : Nat} {ls : me_L} {st : List Value} : me_mo h (me_pi r pc ls st h) := by
  cases r with
  | none => exact me_mo_none
  | some x => exact me_mo_same
theorem me_mo_pl {h : mh_H} {r : Option Int64} {pc : Nat} {ls : me_L} {st : List Value} : me_mo h (me_pl r pc ls st h) := by
  cases r with
  | none => exact me_mo_none
  | some x => exact me_mo_same
theorem me_mo_sw {h : mh_H} {r : Option Int} {pc : Nat} {ls : me_L} {st : List Value} : me_mo h (me_sw r pc ls st h) := by
  cases r with
  | none => exact me_mo_none
  | some x => exact me_mo_jp
theorem me_mo_ph {h : mh_H} {o ci k : Nat} {x : Value} {pc : Nat} {ls : me_L} {st : List Value} : me_mo h (me_ph (me_wr h o ci k x) pc ls st) := by
  unfold me_wr
  split
  · split
    · exact me_mo_go (Nat.le_refl _) (Nat.le_refl _)
    · exact me_mo_none
  · split
    · exact me_mo_go (Nat.le_refl _) (Nat.le_refl _)
    · exact me_mo_none
  · split
    · exact me_mo_go (Nat.le_refl _) (Nat.le_refl _)
    · exact me_mo_none
  · split
    · exact me_mo_go (Nat.le_refl _) (Nat.le_refl _)
    · exact me_mo_none
  · exact me_mo_none
theorem me_mo_new {h : mh_H} {kind len pc : Nat} {ls : me_L} {st : List Value} : me_mo h (me_go pc ls st (mh_new h kind len)) := me_mo_go (Nat.le_succ _) (Nat.le_add_right _ _)
theorem me_mo_ret {h : mh_H} {r : Option Value} : me_mo h (some (.inr (.inr r))) := fun _ _ _ _ e => by cases e
theorem me_mo_cl {h : mh_H} {y n : Nat} {st : List Value} : me_mo h (me_cl y n st) := me_mo_1 fun _ _ _ _ e => by cases e
theorem mm_ins_mo (ins : Instr) (a b : Nat) (v : Int) (pc : Nat) (ls : me_L) (st : List Value) (h : mh_H) : me_mo h (mm_ins ins a b v pc ls st h) := by
  cases ins <;> unfold mm_ins <;> dsimp only <;>
    first
    | exact me_mo_none
    | exact me_mo_same
    | exact me_mo_pv
    | exact me_mo_jp
    | exact me_mo_1 me_mo_same
    | exact me_mo_1 me_mo_new
    | exact me_mo_1 me_mo_cl
    | (split <;> first
        | exact me_mo_none
        | exact me_mo_same
        | exact me_mo_1 me_mo_same
        | exact me_mo_1 me_mo_new
        | exact me_mo_1 me_mo_ret
        | exact me_mo_ret
        | exact me_mo_1 me_mo_jp
        | exact me_mo_jp
        | exact me_mo_br
        | exact me_mo_pi
        | exact me_mo_pl
        | exact me_mo_1 me_mo_ph
        | exact me_mo_1 (me_mo_go (Nat.le_refl _) (Nat.le_refl _))
        | exact me_mo_1 me_mo_cl
        | exact me_mo_cl
        | (split <;> first
            | exact me_mo_none
            | exact me_mo_jp
            | exact me_mo_sw
            | exact me_mo_same
            | exact me_mo_1 me_mo_same
            | exact me_mo_1 (me_mo_go (Nat.le_refl _) (Nat.le_refl _))
            | exact me_mo_1 (me_mo_go (Nat.le_succ _) (Nat.le_add_right _ _))))
theorem mm_mono (P : me_P) (nl : Nat → Nat) : ∀ (n d y pc : Nat) (ls : me_L) (st : List Value) (h : mh_H) (r : Option Value) (h' : mh_H), mm_run P nl n d y pc ls st h = some (r, h') → mh_n h ≤ mh_n h' ∧ mh_s h ≤ mh_s h' := by
  intro n
  induction n with
  | zero => intro d y pc ls st h r h' e; cases e
  | succ n ih =>
    intro d y pc ls st h r h' e
    unfold mm_run at e
    split at e
    next pc1 ls1 st1 h1 hst =>
      obtain ⟨a1, a2⟩ := ih _ _ _ _ _ _ _ _ e
      unfold mm_step at hst
      split at hst
      next ins len a b v hP =>
        obtain ⟨b1, b2⟩ := mm_ins_mo ins a b v pc ls st h _ _ _ _ hst
        exact ⟨Nat.le_trans b1 a1, Nat.le_trans b2 a2⟩
      next => cases hst
    next r1 hst =>
      cases e
      exact ⟨Nat.le_refl _, Nat.le_refl _⟩
    next y' args rest hst =>
      split at e
      next d1 hdec =>
        split at e
        next r2 h2 hr =>
          obtain ⟨a1, a2⟩ := ih _ _ _ _ _ _ _ _ hr
          obtain ⟨b1, b2⟩ := ih _ _ _ _ _ _ _ _ e
          exact ⟨Nat.le_trans a1 b1, Nat.le_trans a2 b2⟩
        next => cases e
      next => cases e
    next => cases e
