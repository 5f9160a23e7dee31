set_option maxRecDepth 100000
/-! nothing stands beyond the cells that are there, and no reference leads beyond them -/
def ltS (n b : Nat) : Prop := b < n
def dxC (h : mh_H) : Prop := ∀ b j o, mh_r h b j = some o → b < mh_n h ∧ o < mh_n h
def dxR (h : mh_H) (r : Option me_R) : Prop := (∀ (pc' : Nat) (ls' : me_L) (st' : List Value) (h' : mh_H), r = some (.inl (pc', ls', st', h')) → dxC h' ∧ mh_n h ≤ mh_n h' ∧ sxL (ltS (mh_n h')) ls' ∧ sxT (ltS (mh_n h')) st') ∧ (∀ (y : Nat) (as rest : List Value), r = some (.inr (.inl (y, as, rest))) → sxT (ltS (mh_n h)) as ∧ sxT (ltS (mh_n h)) rest) ∧ ∀ v : Value, r = some (.inr (.inr (some v))) → sxV (ltS (mh_n h)) v
section DXs
variable {h h' h2 : mh_H} {ls : me_L} {st : List Value} {pc : Nat}
theorem lt_V {n m : Nat} (e : n ≤ m) {v : Value} (w : sxV (ltS n) v) : sxV (ltS m) v := by
  cases v with
  | ref o => exact Nat.lt_of_lt_of_le w e
  | _ => trivial
theorem lt_L {n m : Nat} (e : n ≤ m) (w : sxL (ltS n) ls) : sxL (ltS m) ls := fun v q => lt_V e (w v q)
theorem lt_T {n m : Nat} (e : n ≤ m) (w : sxT (ltS n) st) : sxT (ltS m) st := fun v q => lt_V e (w v q)
theorem dx_si (C : dxC h) {o k : Nat} {v : Int32} (_ : ltS (mh_n h) o) : dxC (mh_si h o k v) ∧ mh_n (mh_si h o k v) = mh_n h := ⟨C, rfl⟩
theorem dx_sj (C : dxC h) {o k : Nat} {v : Int64} (_ : ltS (mh_n h) o) : dxC (mh_sj h o k v) ∧ mh_n (mh_sj h o k v) = mh_n h := ⟨C, rfl⟩
theorem dx_cp (C : dxC h) {o sp a dp n : Nat} (_ : ltS (mh_n h) a) : dxC (mh_cp h o sp a dp n) ∧ mh_n (mh_cp h o sp a dp n) = mh_n h := ⟨C, rfl⟩
theorem dx_sr (C : dxC h) {o k : Nat} {v : Option Nat} (ho : ltS (mh_n h) o) (hv : ∀ x, v = some x → ltS (mh_n h) x) : dxC (mh_sr h o k v) ∧ mh_n (mh_sr h o k v) = mh_n h := by
  refine ⟨fun b j x e => ?_, rfl⟩
  rw [hr_sr] at e
  split at e
  · next z => rw [z.1]; exact ⟨ho, hv x e⟩
  · exact C b j x e
theorem dx_new (C : dxC h) {kd len : Nat} : dxC (mh_new h kd len) ∧ mh_n (mh_new h kd len) = mh_n h + 1 := by
  refine ⟨fun b j x e => ?_, hn_new⟩
  rw [hr_nw] at e
  rw [hn_new]
  split at e
  · cases e
  · obtain ⟨a1, a2⟩ := C b j x e
    omega
theorem dx_cl (C : dxC h) {o : Nat} (_ : ltS (mh_n h) o) : dxC (mh_cl h o) ∧ mh_n (mh_cl h o) = mh_n h + 1 := by
  refine ⟨fun b j x e => ?_, rfl⟩
  have e' : mh_w (mh_r h) (mh_n h) (mh_r h o) b j = some x := e
  have n1 : mh_n (mh_cl h o) = mh_n h + 1 := rfl
  rw [n1]
  unfold mh_w at e'
  split at e'
  · next z =>
    obtain ⟨a1, a2⟩ := C o j x e'
    omega
  · obtain ⟨a1, a2⟩ := C b j x e'
    omega
theorem dr_none : dxR h none := ⟨fun _ _ _ _ e => (by cases e), fun _ _ _ e => (by cases e), fun _ e => (by cases e)⟩
theorem dr_go (x : dxC h2 ∧ mh_n h2 = mh_n h) (L : sxL (ltS (mh_n h)) ls) (T : sxT (ltS (mh_n h)) st) : dxR h (me_go pc ls st h2) := ⟨fun _ _ _ _ e => (by cases e; exact ⟨x.1, Nat.le_of_eq x.2.symm, lt_L (Nat.le_of_eq x.2.symm) L, lt_T (Nat.le_of_eq x.2.symm) T⟩), fun _ _ _ e => (by cases e), fun _ e => (by cases e)⟩
theorem dr_nw (x : dxC h2 ∧ mh_n h2 = mh_n h + 1) (L : sxL (ltS (mh_n h)) ls) (T : sxT (ltS (mh_n h)) st) : dxR h (me_go pc ls (.ref (mh_n h) :: st) h2) := ⟨fun _ _ _ _ e => (by
  cases e
  have le : mh_n h ≤ mh_n h2 := by rw [x.2]; exact Nat.le_succ _
  exact ⟨x.1, le, lt_L le L, sxT_c.mpr ⟨(by show mh_n h < mh_n h2; rw [x.2]; exact Nat.lt_succ_self _), lt_T le T⟩⟩), fun _ _ _ e => (by cases e), fun _ e => (by cases e)⟩
theorem dr_1 {r : Option me_R} {b : Bool} (x : dxR h r) : dxR h (me_1 r b) := by
  cases b with
  | true => exact x
  | false => exact dr_none
theorem dr_sm (C : dxC h) (L : sxL (ltS (mh_n h)) ls) (T : sxT (ltS (mh_n h)) st) : dxR h (me_go pc ls st h) := dr_go ⟨C, rfl⟩ L T
theorem dr_jp {off : Int} (C : dxC h) (L : sxL (ltS (mh_n h)) ls) (T : sxT (ltS (mh_n h)) st) : dxR h (me_jp pc off ls st h) := by
  unfold me_jp
  split
  · exact dr_sm C L T
  · exact dr_none
theorem dr_br {b : Bool} {off : Int} (C : dxC h) (L : sxL (ltS (mh_n h)) ls) (T : sxT (ltS (mh_n h)) st) : dxR h (me_br b pc off ls st h) := by
  cases b with
  | true => exact dr_jp C L T
  | false => exact dr_1 (dr_sm C L T)
theorem dr_pv {r : Option Value} (C : dxC h) (L : sxL (ltS (mh_n h)) ls) (T : sxT (ltS (mh_n h)) st) (w : ∀ x, r = some x → sxV (ltS (mh_n h)) x) : dxR h (me_pv r pc ls st h) := by
  cases r with
  | none => exact dr_none
  | some x => exact dr_sm C L (sxT_c.mpr ⟨w x rfl, T⟩)
theorem dr_pi {r : Option Int32} (C : dxC h) (L : sxL (ltS (mh_n h)) ls) (T : sxT (ltS (mh_n h)) st) : dxR h (me_pi r pc ls st h) := by
  cases r with
  | none => exact dr_none
  | some x => exact dr_sm C L (sxT_c.mpr ⟨trivial, T⟩)
theorem dr_pl {r : Option Int64} (C : dxC h) (L : sxL (ltS (mh_n h)) ls) (T : sxT (ltS (mh_n h)) st) : dxR h (me_pl r pc ls st h) := by
  cases r with
  | none => exact dr_none
  | some x => exact dr_sm C L (sxT_c.mpr ⟨trivial, T⟩)
theorem dr_sw {r : Option Int} (C : dxC h) (L : sxL (ltS (mh_n h)) ls) (T : sxT (ltS (mh_n h)) st) : dxR h (me_sw r pc ls st h) := by
  cases r with
  | none => exact dr_none
  | some x => exact dr_jp C L T
theorem dr_ph {o ci j : Nat} {x : Value} (C : dxC h) (L : sxL (ltS (mh_n h)) ls) (T : sxT (ltS (mh_n h)) st) (ho : ltS (mh_n h) o) (hx : sxV (ltS (mh_n h)) x) : dxR h (me_ph (me_wr h o ci j x) pc ls st) := by
  unfold me_wr
  split
  · split
    · exact dr_go (dx_si C ho) L T
    · exact dr_none
  · split
    · exact dr_go (dx_sj C ho) L T
    · exact dr_none
  · split
    · exact dr_go (dx_sr C ho (fun _ e => by cases e; exact hx)) L T
    · exact dr_none
  · split
    · exact dr_go (dx_sr C ho (fun _ e => by cases e)) L T
    · exact dr_none
  · exact dr_none
theorem dr_cl {y n : Nat} (T : sxT (ltS (mh_n h)) st) : dxR h (me_cl y n st) := dr_1 ⟨fun _ _ _ _ e => (by cases e), fun _ _ _ e => (by
  cases e
  exact ⟨fun v hv => T v (List.mem_of_mem_take (List.mem_reverse.mp hv)), fun v hv => T v (List.mem_of_mem_drop hv)⟩), fun _ e => (by cases e)⟩
theorem dr_st {i : Nat} {x : Value} (C : dxC h) (L : sxL (ltS (mh_n h)) ls) (T : sxT (ltS (mh_n h)) st) (hx : sxV (ltS (mh_n h)) x) : dxR h (me_st pc ls i x st h) := dr_1 (dr_sm C (sxL_set (sxL_c2 L) (fun _ e => by cases e; exact hx)) T)
theorem dr_sl {i : Nat} {x : Value} (C : dxC h) (L : sxL (ltS (mh_n h)) ls) (T : sxT (ltS (mh_n h)) st) (hx : sxV (ltS (mh_n h)) x) : dxR h (me_sl pc ls i x st h) := dr_1 (dr_sm C (sxL_set (sxL_set (sxL_c2 L) (fun _ e => by cases e; exact hx)) (fun _ e => by cases e)) T)
theorem dx_rd {o k : Nat} (C : dxC h) (_ : ltS (mh_n h) o) : sxV (ltS (mh_n h)) (me_rd h o k) := by
  unfold me_rd
  split
  · trivial
  · cases hr : mh_r h o k with
    | none => exact trivial
    | some x => exact (C o k x hr).2
  · unfold me_xr; split <;> trivial
  · trivial
theorem dx_ret {v : Value} (w : sxV (ltS (mh_n h)) v) : dxR h (some (.inr (.inr (some v)))) := ⟨fun _ _ _ _ e => (by cases e), fun _ _ _ e => (by cases e), fun _ e => (by cases e; exact w)⟩
theorem dx_ret0 : dxR h (some (.inr (.inr none))) := ⟨fun _ _ _ _ e => (by cases e), fun _ _ _ e => (by cases e), fun _ e => (by cases e)⟩
theorem mm_ins_dx (ins : Instr) (a b : Nat) (v : Int) (pc : Nat) (ls : me_L) (st : List Value) (C : dxC h) (L : sxL (ltS (mh_n h)) ls) (T : sxT (ltS (mh_n h)) st) : dxR h (mm_ins ins a b v pc ls st h) := by
  have t0 : ∀ {x : Value} {r : List Value}, sxT (ltS (mh_n h)) (x :: r) → sxV (ltS (mh_n h)) x := fun w => (sxT_c.mp w).1
  have t1 : ∀ {x : Value} {r : List Value}, sxT (ltS (mh_n h)) (x :: r) → sxT (ltS (mh_n h)) r := fun w => (sxT_c.mp w).2
  have tI : ∀ {x : Int32} {r : List Value}, sxT (ltS (mh_n h)) r → sxT (ltS (mh_n h)) (.int x :: r) := fun w => sxT_c.mpr ⟨trivial, w⟩
  have tJ : ∀ {x : Int64} {r : List Value}, sxT (ltS (mh_n h)) r → sxT (ltS (mh_n h)) (.long x :: r) := fun w => sxT_c.mpr ⟨trivial, w⟩
  have tA : ∀ {x : Nat} {r : List Value}, sxT (ltS (mh_n h)) r → sxT (ltS (mh_n h)) (.retAddr x :: r) := fun w => sxT_c.mpr ⟨trivial, w⟩
  have tC : ∀ {x : Value} {r : List Value}, sxV (ltS (mh_n h)) x → sxT (ltS (mh_n h)) r → sxT (ltS (mh_n h)) (x :: r) := fun q w => sxT_c.mpr ⟨q, w⟩
  cases ins with
  | invokevirtual x =>
    unfold mm_ins
    dsimp only
    split
    · exact dr_1 (dr_cl T)
    · split
      · exact dr_1 (dr_nw (dx_cl C (t0 T)) L (t1 T))
      · exact dr_none
    · exact dr_1 (dr_cl T)
  | invokestatic x =>
    unfold mm_ins
    dsimp only
    split
    · exact dr_cl T
    all_goals first
      | exact dr_none
      | (split <;> first
          | exact dr_none
          | exact dr_1 (dr_sm C L (tI (t1 (t1 T))))
          | exact dr_1 (dr_sm C L (tJ (t1 (t1 T))))
          | exact dr_1 (dr_sm C L (tJ (t1 T)))
          | exact dr_1 (dr_go (dx_cp C (t0 (t1 (t1 T)))) L (t1 (t1 (t1 (t1 (t1 T)))))))
  | invokespecial x =>
    unfold mm_ins
    dsimp only
    split
    · split
      · exact dr_1 (dr_sm C L (t1 T))
      · exact dr_none
    · exact dr_1 (dr_cl T)
  | _ =>
    unfold mm_ins
    dsimp only
    first
    | exact dr_none
    | exact dr_sm C L (tI T)
    | exact dr_sm C L (tJ T)
    | exact dr_sm C L (tC trivial T)
    | exact dr_pv C L T sx_oi
    | exact dr_pv C L T sx_ol
    | exact dr_pv C L T (sx_oa L)
    | exact dr_jp C L T
    | exact dr_1 (dr_nw (dx_new C) L T)
    | (split <;> first
        | exact dr_none
        | exact dr_sm C L (tI T)
        | exact dr_sm C L (tA T)
        | exact dr_st C L (t1 T) trivial
        | exact dr_sl C L (t1 T) trivial
        | exact dr_st C L (t1 T) (t0 T)
        | exact dr_st C L T trivial
        | exact dr_1 (dr_sm C L (tC (dx_rd C (t0 T)) (t1 T)))
        | exact dr_1 (dr_sm C L (tC sx_xf (t1 T)))
        | exact dr_1 (dr_ph C L (t1 (t1 T)) (t0 (t1 T)) (t0 T))
        | exact dr_1 (dr_sm C L (tI (t1 (t1 T))))
        | exact dr_1 (dr_sm C L (tJ (t1 (t1 T))))
        | exact dr_1 (dr_sm C L (tC (dx_rd C (t0 (t1 T))) (t1 (t1 T))))
        | exact dr_1 (dr_go (dx_si C (t0 (t1 (t1 T)))) L (t1 (t1 (t1 T))))
        | exact dr_1 (dr_go (dx_sj C (t0 (t1 (t1 T)))) L (t1 (t1 (t1 T))))
        | exact dr_1 (dr_go (dx_sr C (t0 (t1 (t1 T))) (fun _ e => by cases e; exact t0 T)) L (t1 (t1 (t1 T))))
        | exact dr_1 (dr_go (dx_sr C (t0 (t1 (t1 T))) (fun _ e => by cases e)) L (t1 (t1 (t1 T))))
        | exact dr_1 (dr_sm C L (tI (t1 T)))
        | exact dr_1 (dr_sm C L (tC (t0 T) (t1 T)))
        | exact dr_1 (dr_sm C L (t1 T))
        | exact dr_1 (dr_nw (dx_new C) L (t1 T))
        | exact dr_pi C L (t1 (t1 T))
        | exact dr_pl C L (t1 (t1 T))
        | exact dr_sm C L (tJ (t1 (t1 T)))
        | exact dr_sm C L (tI (t1 (t1 T)))
        | exact dr_sm C L (tI (t1 T))
        | exact dr_sm C L (tJ (t1 T))
        | exact dr_1 (dr_sm C L (tC (t0 T) T))
        | exact dr_1 (dr_sm C L (tC (t0 T) (tC (t0 (t1 T)) (tC (t0 T) (t1 (t1 T))))))
        | exact dr_br C L (t1 T)
        | exact dr_br C L (t1 (t1 T))
        | exact dr_jp C L (t1 T)
        | exact dr_sm C L (t1 T)
        | exact dr_1 (dr_jp C L (t1 T))
        | exact dr_1 (dx_ret trivial)
        | exact dx_ret trivial
        | exact dx_ret (t0 T)
        | exact dx_ret0
        | (split <;> first
            | exact dr_none
            | exact dr_jp C L (t1 T)
            | exact dr_sw C L (t1 T)
            | exact dr_sm C L (tC (t0 T) T)
            | exact dr_1 (dr_sm C L (tC (t0 T) (tC (t0 (t1 T)) T)))
            | exact dr_1 (dr_go (dx_si C (t0 (t1 (t1 T)))) L (t1 (t1 (t1 T))))
            | exact dr_1 (dr_sm C L (tI (t1 T)))))
theorem mm_dx : ∀ (n d y pc : Nat) (ls : me_L) (st : List Value) (h : mh_H) (r : Option Value) (h' : mh_H), dxC h → sxL (ltS (mh_n h)) ls → sxT (ltS (mh_n h)) st → mm_run mc_P mc_nl n d y pc ls st h = some (r, h') → dxC h' ∧ mh_n h ≤ mh_n h' ∧ ∀ v, r = some v → sxV (ltS (mh_n h')) v := by
  intro n
  induction n with
  | zero => intro d y pc ls st h r h' _ _ _ e; cases e
  | succ n ih =>
    intro d y pc ls st h r h' C L T e
    have step : ∀ x, mm_step mc_P y pc ls st h = x → dxR h x := fun x hx => by
      unfold mm_step at hx
      split at hx
      next ins len a b v hP => rw [← hx]; exact mm_ins_dx ins a b v pc ls st C L T
      next => rw [← hx]; exact dr_none
    unfold mm_run at e
    split at e
    next pc1 ls1 st1 h1 hst =>
      obtain ⟨c1, u1, l1, q1⟩ := (step _ hst).1 _ _ _ _ rfl
      obtain ⟨c2, u2, q2⟩ := ih _ _ _ _ _ _ _ _ c1 l1 q1 e
      exact ⟨c2, Nat.le_trans u1 u2, q2⟩
    next r1 hst =>
      cases e
      exact ⟨C, Nat.le_refl _, fun v hv => (step _ hst).2.2 v (by rw [hv])⟩
    next y' args rest hst =>
      obtain ⟨q1, q2⟩ := (step _ hst).2.1 _ _ _ rfl
      split at e
      next d1 hdec =>
        split at e
        next r2 h2 hr =>
          obtain ⟨c1, u1, w1⟩ := ih _ _ _ _ _ _ _ _ C (sx_en q1) sxT_n hr
          obtain ⟨c2, u2, w2⟩ := ih _ _ _ _ _ _ _ _ c1 (lt_L u1 L) (fun v hv => by
            rcases List.mem_append.mp hv with z | z
            · cases r2 with
              | none => cases z
              | some x =>
                have : v = x := by
                  rcases List.mem_cons.mp z with y | y
                  · exact y
                  · cases y
                rw [this]
                exact w1 x rfl
            · exact lt_V u1 (q2 v z)) e
          exact ⟨c2, Nat.le_trans u1 u2, w2⟩
        next => cases e
      next => cases e
    next => cases e
/-- a call leaves it so -/
theorem cal_dx {d y : Nat} {as : List Value} {r : Option Value} (C : dxC h) (T : sxT (ltS (mh_n h)) as) (e : ∀ Q, mcall d y as h Q = Q r h') : dxC h' := by
  have z : mcall d y as h (fun q x => q = r ∧ x = h') := by rw [e]; exact ⟨rfl, rfl⟩
  obtain ⟨n, r', h2, q1, q2, q3⟩ := z
  rw [← q3]
  exact (mm_dx n d y 0 _ _ h r' h2 C (sx_en T) sxT_n q1).1
theorem cal_mb {d y : Nat} {as : List Value} {r : Option Value} (C : mbf h) (e : ∀ Q, mcall d y as h Q = Q r h') : mbf h' := by
  have z : mcall d y as h (fun q x => q = r ∧ x = h') := by rw [e]; exact ⟨rfl, rfl⟩
  obtain ⟨n, r', h2, q1, q2, q3⟩ := z
  rw [← q3]
  exact mm_mbf _ _ _ _ _ _ _ _ _ _ _ q1 C
end DXs
/-! the two sides: R are the reference's cells -/
def SDs (R : Nat → Prop) (h : mh_H) : Prop := (dxC h) ∧ (mbf h) ∧ (∀ b, R b → b < mh_n h) ∧ (∀ b j o, ¬ R b → mh_r h b j = some o → ¬ R o) ∧ (∀ b j o, R b → mh_r h b j = some o → R o) ∧ (∀ b, b < 81 → ¬ R b) ∧ (∀ b, 81 ≤ b → b < 2644 → R b)
theorem SDs.of {R : Nat → Prop} {h : mh_H} (q : (dxC h) ∧ (mbf h) ∧ (∀ b, R b → b < mh_n h) ∧ (∀ b j o, ¬ R b → mh_r h b j = some o → ¬ R o) ∧ (∀ b j o, R b → mh_r h b j = some o → R o) ∧ (∀ b, b < 81 → ¬ R b) ∧ (∀ b, 81 ≤ b → b < 2644 → R b)) : SDs R h := q
theorem SDs.d {R : Nat → Prop} {h : mh_H} (q : SDs R h) : dxC h := q.1
theorem SDs.m {R : Nat → Prop} {h : mh_H} (q : SDs R h) : mbf h := q.2.1
theorem SDs.n {R : Nat → Prop} {h : mh_H} (q : SDs R h) : ∀ b, R b → b < mh_n h := q.2.2.1
theorem SDs.c {R : Nat → Prop} {h : mh_H} (q : SDs R h) : ∀ b j o, ¬ R b → mh_r h b j = some o → ¬ R o := q.2.2.2.1
theorem SDs.r {R : Nat → Prop} {h : mh_H} (q : SDs R h) : ∀ b j o, R b → mh_r h b j = some o → R o := q.2.2.2.2.1
theorem SDs.l {R : Nat → Prop} {h : mh_H} (q : SDs R h) : ∀ b, b < 81 → ¬ R b := q.2.2.2.2.2.1
theorem SDs.u {R : Nat → Prop} {h : mh_H} (q : SDs R h) : ∀ b, 81 ≤ b → b < 2644 → R b := q.2.2.2.2.2.2
/-- all of a side stays -/
def sdK (K : Nat → Prop) (h h1 : mh_H) : Prop := mh_n h ≤ mh_n h1 ∧ mh_s h ≤ mh_s h1 ∧ (∀ b, b < mh_n h → mh_k h1 b = mh_k h b ∧ mh_l h1 b = mh_l h b) ∧ ∀ b, K b → mh_i h1 b = mh_i h b ∧ mh_j h1 b = mh_j h b ∧ mh_r h1 b = mh_r h b
section SDt
variable {R : Nat → Prop} {h h' : mh_H} {d y : Nat} {as : List Value} {r : Option Value}
/-- a call of the class -/
theorem sd_c (D : SDs R h) (T : ∀ v, v ∈ as → ∀ o, v = .ref o → o < 81) (e : ∀ Q, mcall d y as h Q = Q r h') (hn : 2644 ≤ mh_n h) : SDs R h' ∧ sdK R h h' := by
  have tx : sxT (fun b => ¬ R b) as := fun v hv => by
    cases v with
    | ref o => exact D.l o (T _ hv o rfl)
    | _ => trivial
  have td : sxT (ltS (mh_n h)) as := fun v hv => by
    cases v with
    | ref o => exact Nat.lt_of_lt_of_le (T _ hv o rfl) (by omega)
    | _ => trivial
  obtain ⟨c1, ⟨u1, u2, u3, u4⟩, -⟩ := cal_sx (S := fun b => ¬ R b) ⟨fun b hb q => absurd (D.n b q) (by omega), fun b j o hb q => D.c b j o hb q⟩ tx e
  have k4 : ∀ b, R b → mh_i h' b = mh_i h b ∧ mh_j h' b = mh_j h b ∧ mh_r h' b = mh_r h b := fun b hb => (u4 b (fun z => z hb)).2.2
  refine ⟨SDs.of ⟨cal_dx D.d td e, cal_mb D.m e, fun b hb => Nat.lt_of_lt_of_le (D.n b hb) u1, fun b j o hb q => c1.2 b j o hb q, fun b j o hb q => ?_, D.l, D.u⟩, u1, u2, u3, k4⟩
  rw [(k4 b hb).2.2] at q
  exact D.r b j o hb q
/-- a call of the reference -/
theorem sd_r (D : SDs R h) (T : ∀ v, v ∈ as → ∀ o, v = .ref o → 81 ≤ o ∧ o < 2644) (e : ∀ Q, mcall d y as h Q = Q r h') (hn : 2644 ≤ mh_n h) : SDs (fun b => R b ∨ (mh_n h ≤ b ∧ b < mh_n h')) h' ∧ sdK (fun b => ¬ R b ∧ b < mh_n h) h h' := by
  have tx : sxT (fun b => R b ∨ mh_n h ≤ b) as := fun v hv => by
    cases v with
    | ref o => exact Or.inl (D.u o (T _ hv o rfl).1 (T _ hv o rfl).2)
    | _ => trivial
  have td : sxT (ltS (mh_n h)) as := fun v hv => by
    cases v with
    | ref o => exact Nat.lt_of_lt_of_le (T _ hv o rfl).2 hn
    | _ => trivial
  obtain ⟨c1, ⟨u1, u2, u3, u4⟩, -⟩ := cal_sx (S := fun b => R b ∨ mh_n h ≤ b) ⟨fun b hb => Or.inr hb, fun b j o hb q => hb.elim (fun z => Or.inl (D.r b j o z q)) (fun z => absurd (D.d b j o q).1 (by omega))⟩ tx e
  have dx := cal_dx D.d td e
  have k4 : ∀ b, ¬ R b ∧ b < mh_n h → mh_i h' b = mh_i h b ∧ mh_j h' b = mh_j h b ∧ mh_r h' b = mh_r h b := fun b hb => (u4 b (fun z => z.elim hb.1 (fun q => absurd hb.2 (by omega)))).2.2
  refine ⟨SDs.of ⟨dx, cal_mb D.m e, fun b hb => ?_, fun b j o hb q => ?_, fun b j o hb q => ?_, fun b hb z => ?_, fun b h1 h2 => Or.inl (D.u b h1 h2)⟩, u1, u2, u3, k4⟩
  · rcases hb with z | z
    · exact Nat.lt_of_lt_of_le (D.n b z) u1
    · exact z.2
  · obtain ⟨d1, d2⟩ := dx b j o q
    have nb : ¬ R b ∧ b < mh_n h := ⟨fun z => hb (Or.inl z), by
      by_cases c : b < mh_n h
      · exact c
      · exact absurd (Or.inr ⟨by omega, d1⟩) hb⟩
    rw [(k4 b nb).2.2] at q
    have nR := D.c b j o nb.1 q
    have := (D.d b j o q).2
    exact fun z => z.elim nR (fun z => by omega)
  · have bS : R b ∨ mh_n h ≤ b := hb.elim Or.inl (fun z => Or.inr z.1)
    have := (dx b j o q).2
    rcases c1.2 b j o bS q with z | z
    · exact Or.inl z
    · exact Or.inr ⟨z, this⟩
  · rcases z with z | z
    · exact D.l b hb z
    · omega
end SDt
