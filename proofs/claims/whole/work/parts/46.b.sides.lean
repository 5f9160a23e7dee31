set_option maxRecDepth 100000
set_option maxRecDepth 100000
/-! SIDES: what a call can't reach stays. S: a set of cells that is closed under references and holds all new ones -/
def sxV (S : Nat → Prop) : Value → Prop
  | .ref o => S o
  | _ => True
def sxT (S : Nat → Prop) (st : List Value) : Prop := ∀ v, v ∈ st → sxV S v
def sxL (S : Nat → Prop) (ls : me_L) : Prop := ∀ v, some v ∈ ls → sxV S v
def sxC (S : Nat → Prop) (h : mh_H) : Prop := (∀ b, mh_n h ≤ b → S b) ∧ ∀ b j o, S b → mh_r h b j = some o → S o
def sxU (S : Nat → Prop) (h h' : mh_H) : Prop := mh_n h ≤ mh_n h' ∧ mh_s h ≤ mh_s h' ∧ (∀ b, b < mh_n h → mh_k h' b = mh_k h b ∧ mh_l h' b = mh_l h b) ∧ ∀ b, ¬ S b → mh_k h' b = mh_k h b ∧ mh_l h' b = mh_l h b ∧ mh_i h' b = mh_i h b ∧ mh_j h' b = mh_j h b ∧ mh_r h' b = mh_r h b
def sxR (S : Nat → Prop) (h : mh_H) (r : Option me_R) : Prop := (∀ (pc' : Nat) (ls' : me_L) (st' : List Value) (h' : mh_H), r = some (.inl (pc', ls', st', h')) → sxC S h' ∧ sxU S h h' ∧ sxL S ls' ∧ sxT S st') ∧ (∀ (y : Nat) (as rest : List Value), r = some (.inr (.inl (y, as, rest))) → sxT S as ∧ sxT S rest) ∧ ∀ v : Value, r = some (.inr (.inr (some v))) → sxV S v
section SXs
variable {S : Nat → Prop} {h h' h2 : mh_H} {ls : me_L} {st : List Value} {pc : Nat}
theorem sxT_n : sxT S [] := fun v z => by cases z
theorem sxT_c {v : Value} {r : List Value} : sxT S (v :: r) ↔ sxV S v ∧ sxT S r := by
  unfold sxT
  constructor
  · exact fun z => ⟨z v (List.mem_cons_self ..), fun w hw => z w (List.mem_cons_of_mem _ hw)⟩
  · rintro ⟨z1, z2⟩ w hw
    rcases List.mem_cons.mp hw with e | e
    · rw [e]; exact z1
    · exact z2 w e
theorem sxU_id : sxU S h h := ⟨Nat.le_refl _, Nat.le_refl _, fun _ _ => ⟨rfl, rfl⟩, fun _ _ => ⟨rfl, rfl, rfl, rfl, rfl⟩⟩
theorem sxU_t (x : sxU S h h') (y : sxU S h' h2) : sxU S h h2 := ⟨Nat.le_trans x.1 y.1, Nat.le_trans x.2.1 y.2.1, fun b hb => ⟨(y.2.2.1 b (Nat.lt_of_lt_of_le hb x.1)).1.trans (x.2.2.1 b hb).1, (y.2.2.1 b (Nat.lt_of_lt_of_le hb x.1)).2.trans (x.2.2.1 b hb).2⟩, fun b hb => ⟨(y.2.2.2 b hb).1.trans (x.2.2.2 b hb).1, (y.2.2.2 b hb).2.1.trans (x.2.2.2 b hb).2.1, (y.2.2.2 b hb).2.2.1.trans (x.2.2.2 b hb).2.2.1, (y.2.2.2 b hb).2.2.2.1.trans (x.2.2.2 b hb).2.2.2.1, (y.2.2.2 b hb).2.2.2.2.trans (x.2.2.2 b hb).2.2.2.2⟩⟩
theorem sx_si (C : sxC S h) {o k : Nat} {v : Int32} (ho : S o) : sxC S (mh_si h o k v) ∧ sxU S h (mh_si h o k v) := ⟨C, Nat.le_refl _, Nat.le_refl _, fun _ _ => ⟨rfl, rfl⟩, fun b hb => ⟨rfl, rfl, by
  funext j
  rw [hi_si, if_neg (fun z => hb (by rw [z.1]; exact ho))], rfl, rfl⟩⟩
theorem sx_sj (C : sxC S h) {o k : Nat} {v : Int64} (ho : S o) : sxC S (mh_sj h o k v) ∧ sxU S h (mh_sj h o k v) := ⟨C, Nat.le_refl _, Nat.le_refl _, fun _ _ => ⟨rfl, rfl⟩, fun b hb => ⟨rfl, rfl, rfl, by
  funext j
  rw [hj_sj, if_neg (fun z => hb (by rw [z.1]; exact ho))], rfl⟩⟩
theorem sx_sr (C : sxC S h) {o k : Nat} {v : Option Nat} (ho : S o) (hv : ∀ x, v = some x → S x) : sxC S (mh_sr h o k v) ∧ sxU S h (mh_sr h o k v) := by
  refine ⟨⟨C.1, fun b j x hb e => ?_⟩, Nat.le_refl _, Nat.le_refl _, fun _ _ => ⟨rfl, rfl⟩, fun b hb => ⟨rfl, rfl, rfl, rfl, by
    funext j
    rw [hr_sr, if_neg (fun z => hb (by rw [z.1]; exact ho))]⟩⟩
  rw [hr_sr] at e
  split at e
  · exact hv x e
  · exact C.2 b j x hb e
theorem sx_new (C : sxC S h) {kd len : Nat} : sxC S (mh_new h kd len) ∧ sxU S h (mh_new h kd len) := by
  have hn : S (mh_n h) := C.1 _ (Nat.le_refl _)
  refine ⟨⟨fun b hb => C.1 b (by rw [hn_new] at hb; omega), fun b j x hb e => ?_⟩, by rw [hn_new]; omega, Nat.le_add_right _ _, fun b hb => ⟨by rw [hk_new, if_neg (by omega)], by rw [hl_new, if_neg (by omega)]⟩, fun b hb => ?_⟩
  · rw [hr_nw] at e
    split at e
    · cases e
    · exact C.2 b j x hb e
  · have ne : b ≠ mh_n h := fun z => hb (by rw [z]; exact hn)
    exact ⟨by rw [hk_new, if_neg ne], by rw [hl_new, if_neg ne], by funext j; rw [hi_new, if_neg ne], by funext j; rw [hj_new, if_neg ne], by funext j; rw [hr_nw, if_neg ne]⟩
theorem sx_cl (C : sxC S h) {o : Nat} (ho : S o) : sxC S (mh_cl h o) ∧ sxU S h (mh_cl h o) := by
  have hn : S (mh_n h) := C.1 _ (Nat.le_refl _)
  refine ⟨⟨fun b hb => C.1 b (Nat.le_trans (Nat.le_succ _) hb), fun b j x hb e => ?_⟩, Nat.le_succ _, Nat.le_add_right _ _, fun b hb => ?_, fun b hb => ?_⟩
  · have e' : mh_w (mh_r h) (mh_n h) (mh_r h o) b j = some x := e
    unfold mh_w at e'
    split at e'
    · exact C.2 o j x ho e'
    · exact C.2 b j x hb e'
  · have ne : b ≠ mh_n h := by omega
    refine ⟨?_, ?_⟩
    · show mh_w (mh_k h) (mh_n h) (mh_k h o) b = mh_k h b
      unfold mh_w; rw [if_neg ne]
    · show mh_w (mh_l h) (mh_n h) (mh_l h o) b = mh_l h b
      unfold mh_w; rw [if_neg ne]
  · have ne : b ≠ mh_n h := fun z => hb (by rw [z]; exact hn)
    refine ⟨?_, ?_, ?_, ?_, ?_⟩
    · show mh_w (mh_k h) (mh_n h) (mh_k h o) b = mh_k h b
      unfold mh_w; rw [if_neg ne]
    · show mh_w (mh_l h) (mh_n h) (mh_l h o) b = mh_l h b
      unfold mh_w; rw [if_neg ne]
    · show mh_w (mh_i h) (mh_n h) (mh_i h o) b = mh_i h b
      unfold mh_w; rw [if_neg ne]
    · show mh_w (mh_j h) (mh_n h) (mh_j h o) b = mh_j h b
      unfold mh_w; rw [if_neg ne]
    · show mh_w (mh_r h) (mh_n h) (mh_r h o) b = mh_r h b
      unfold mh_w; rw [if_neg ne]
theorem sx_cp (C : sxC S h) {o sp a dp n : Nat} (ho : S a) : sxC S (mh_cp h o sp a dp n) ∧ sxU S h (mh_cp h o sp a dp n) := by
  refine ⟨C, Nat.le_refl _, Nat.le_refl _, fun _ _ => ⟨rfl, rfl⟩, fun b hb => ⟨rfl, rfl, ?_, ?_, rfl⟩⟩
  · funext j
    show (if b = a ∧ dp ≤ j ∧ j < dp + n then mh_i h o (sp + (j - dp)) else mh_i h b j) = mh_i h b j
    rw [if_neg (fun z => hb (by rw [z.1]; exact ho))]
  · funext j
    show (if b = a ∧ dp ≤ j ∧ j < dp + n then mh_j h o (sp + (j - dp)) else mh_j h b j) = mh_j h b j
    rw [if_neg (fun z => hb (by rw [z.1]; exact ho))]
theorem sr_none : sxR S h none := ⟨fun _ _ _ _ e => (by cases e), fun _ _ _ e => (by cases e), fun _ e => (by cases e)⟩
theorem sr_go (x : sxC S h2 ∧ sxU S h h2) (L : sxL S ls) (T : sxT S st) : sxR S h (me_go pc ls st h2) := ⟨fun _ _ _ _ e => (by cases e; exact ⟨x.1, x.2, L, T⟩), fun _ _ _ e => (by cases e), fun _ e => (by cases e)⟩
theorem sr_1 {r : Option me_R} {b : Bool} (x : sxR S h r) : sxR S h (me_1 r b) := by
  cases b with
  | true => exact x
  | false => exact sr_none
theorem sr_s (C : sxC S h) (L : sxL S ls) (T : sxT S st) : sxR S h (me_go pc ls st h) := sr_go ⟨C, sxU_id⟩ L T
theorem sr_jp {off : Int} (C : sxC S h) (L : sxL S ls) (T : sxT S st) : sxR S h (me_jp pc off ls st h) := by
  unfold me_jp
  split
  · exact sr_s C L T
  · exact sr_none
theorem sr_br {b : Bool} {off : Int} (C : sxC S h) (L : sxL S ls) (T : sxT S st) : sxR S h (me_br b pc off ls st h) := by
  cases b with
  | true => exact sr_jp C L T
  | false => exact sr_1 (sr_s C L T)
theorem sr_pv {r : Option Value} (C : sxC S h) (L : sxL S ls) (T : sxT S st) (w : ∀ x, r = some x → sxV S x) : sxR S h (me_pv r pc ls st h) := by
  cases r with
  | none => exact sr_none
  | some x => exact sr_s C L (sxT_c.mpr ⟨w x rfl, T⟩)
theorem sr_pi {r : Option Int32} (C : sxC S h) (L : sxL S ls) (T : sxT S st) : sxR S h (me_pi r pc ls st h) := by
  cases r with
  | none => exact sr_none
  | some x => exact sr_s C L (sxT_c.mpr ⟨trivial, T⟩)
theorem sr_pl {r : Option Int64} (C : sxC S h) (L : sxL S ls) (T : sxT S st) : sxR S h (me_pl r pc ls st h) := by
  cases r with
  | none => exact sr_none
  | some x => exact sr_s C L (sxT_c.mpr ⟨trivial, T⟩)
theorem sr_sw {r : Option Int} (C : sxC S h) (L : sxL S ls) (T : sxT S st) : sxR S h (me_sw r pc ls st h) := by
  cases r with
  | none => exact sr_none
  | some x => exact sr_jp C L T
theorem sr_ph {o ci j : Nat} {x : Value} (C : sxC S h) (L : sxL S ls) (T : sxT S st) (ho : S o) (hx : sxV S x) : sxR S h (me_ph (me_wr h o ci j x) pc ls st) := by
  unfold me_wr
  split
  · split
    · exact sr_go (sx_si C ho) L T
    · exact sr_none
  · split
    · exact sr_go (sx_sj C ho) L T
    · exact sr_none
  · split
    · exact sr_go (sx_sr C ho (fun _ e => by cases e; exact hx)) L T
    · exact sr_none
  · split
    · exact sr_go (sx_sr C ho (fun _ e => by cases e)) L T
    · exact sr_none
  · exact sr_none
theorem sr_cl {y n : Nat} (T : sxT S st) : sxR S h (me_cl y n st) := sr_1 ⟨fun _ _ _ _ e => (by cases e), fun _ _ _ e => (by
  cases e
  exact ⟨fun v hv => T v (List.mem_of_mem_take (List.mem_reverse.mp hv)), fun v hv => T v (List.mem_of_mem_drop hv)⟩), fun _ e => (by cases e)⟩
theorem sxL_set {i : Nat} {x : Option Value} (L : sxL S ls) (hx : ∀ v, x = some v → sxV S v) : sxL S (ls.set i x) := fun v hv => by
  rcases List.mem_or_eq_of_mem_set hv with e | e
  · exact L v e
  · exact hx v e.symm
theorem sxL_c2 {i : Nat} (L : sxL S ls) : sxL S (me_c2 ls i) := by
  unfold me_c2
  split
  · exact L
  · split
    · split
      · exact sxL_set L (fun _ e => by cases e)
      · exact L
    · exact L
theorem sr_st {i : Nat} {x : Value} (C : sxC S h) (L : sxL S ls) (T : sxT S st) (hx : sxV S x) : sxR S h (me_st pc ls i x st h) := sr_1 (sr_s C (sxL_set (sxL_c2 L) (fun _ e => by cases e; exact hx)) T)
theorem sr_sl {i : Nat} {x : Value} (C : sxC S h) (L : sxL S ls) (T : sxT S st) (hx : sxV S x) : sxR S h (me_sl pc ls i x st h) := sr_1 (sr_s C (sxL_set (sxL_set (sxL_c2 L) (fun _ e => by cases e; exact hx)) (fun _ e => by cases e)) T)
theorem sx_ld {i : Nat} {x : Value} (L : sxL S ls) (e : me_ld ls i = some x) : sxV S x := by
  unfold me_ld at e
  split at e
  · next v hv =>
    cases e
    exact L _ (List.mem_of_getElem? hv)
  · cases e
theorem sx_oi {i : Nat} (x : Value) (e : me_oi (me_ld ls i) = some x) : sxV S x := by
  unfold me_oi at e
  split at e
  · cases e; trivial
  · cases e
theorem sx_ol {i : Nat} (x : Value) (e : me_ol (me_ld ls i) = some x) : sxV S x := by
  unfold me_ol at e
  split at e
  · cases e; trivial
  · cases e
theorem sx_oa {i : Nat} (L : sxL S ls) (x : Value) (e : me_oa (me_ld ls i) = some x) : sxV S x := by
  unfold me_oa at e
  split at e
  · next v hv => cases e; exact sx_ld L hv
  · cases e; trivial
  · cases e; trivial
  · cases e
theorem sx_rd {o k : Nat} (C : sxC S h) (ho : S o) : sxV S (me_rd h o k) := by
  unfold me_rd
  split
  · trivial
  · cases hr : mh_r h o k with
    | none => exact trivial
    | some x => exact C.2 o k x ho hr
  · unfold me_xr; split <;> trivial
  · trivial
theorem sx_xf {b x : Nat} : sxV S (me_xf b x) := by
  unfold me_xf
  split <;> trivial
theorem sx_ret {v : Value} (w : sxV S v) : sxR S h (some (.inr (.inr (some v)))) := ⟨fun _ _ _ _ e => (by cases e), fun _ _ _ e => (by cases e), fun _ e => (by cases e; exact w)⟩
theorem sx_ret0 : sxR S h (some (.inr (.inr none))) := ⟨fun _ _ _ _ e => (by cases e), fun _ _ _ e => (by cases e), fun _ e => (by cases e)⟩
end SXs
