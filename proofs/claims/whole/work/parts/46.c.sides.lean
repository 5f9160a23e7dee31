set_option maxRecDepth 100000
/-! sides: an instruction, a run, a call -/
section SYs
variable {S : Nat → Prop} {h h' h2 : mh_H}
theorem mm_ins_sx (ins : Instr) (a b : Nat) (v : Int) (pc : Nat) (ls : me_L) (st : List Value) (C : sxC S h) (L : sxL S ls) (T : sxT S st) : sxR S h (mm_ins ins a b v pc ls st h) := by
  have hn : S (mh_n h) := C.1 _ (Nat.le_refl _)
  have t0 : ∀ {x : Value} {r : List Value}, sxT S (x :: r) → sxV S x := fun w => (sxT_c.mp w).1
  have t1 : ∀ {x : Value} {r : List Value}, sxT S (x :: r) → sxT S r := fun w => (sxT_c.mp w).2
  have tI : ∀ {x : Int32} {r : List Value}, sxT S r → sxT S (.int x :: r) := fun w => sxT_c.mpr ⟨trivial, w⟩
  have tJ : ∀ {x : Int64} {r : List Value}, sxT S r → sxT S (.long x :: r) := fun w => sxT_c.mpr ⟨trivial, w⟩
  have tA : ∀ {x : Nat} {r : List Value}, sxT S r → sxT S (.retAddr x :: r) := fun w => sxT_c.mpr ⟨trivial, w⟩
  have tC : ∀ {x : Value} {r : List Value}, sxV S x → sxT S r → sxT S (x :: r) := fun q w => sxT_c.mpr ⟨q, w⟩
  cases ins with
  | invokevirtual x =>
    unfold mm_ins
    dsimp only
    split
    · exact sr_1 (sr_cl T)
    · split
      · exact sr_1 (sr_go (sx_cl C (t0 T)) L (tC hn (t1 T)))
      · exact sr_none
    · exact sr_1 (sr_cl T)
  | invokestatic x =>
    unfold mm_ins
    dsimp only
    split
    · exact sr_cl T
    all_goals first
      | exact sr_none
      | (split <;> first
          | exact sr_none
          | exact sr_1 (sr_s C L (tI (t1 (t1 T))))
          | exact sr_1 (sr_s C L (tJ (t1 (t1 T))))
          | exact sr_1 (sr_s C L (tJ (t1 T)))
          | exact sr_1 (sr_go (sx_cp C (t0 (t1 (t1 T)))) L (t1 (t1 (t1 (t1 (t1 T)))))))
  | invokespecial x =>
    unfold mm_ins
    dsimp only
    split
    · split
      · exact sr_1 (sr_s C L (t1 T))
      · exact sr_none
    · exact sr_1 (sr_cl T)
  | _ =>
    unfold mm_ins
    dsimp only
    first
    | exact sr_none
    | exact sr_s C L (tI T)
    | exact sr_s C L (tJ T)
    | exact sr_s C L (tC trivial T)
    | exact sr_pv C L T sx_oi
    | exact sr_pv C L T sx_ol
    | exact sr_pv C L T (sx_oa L)
    | exact sr_jp C L T
    | exact sr_1 (sr_go (sx_new C) L (tC hn T))
    | (split <;> first
        | exact sr_none
        | exact sr_s C L (tI T)
        | exact sr_s C L (tA T)
        | exact sr_st C L (t1 T) trivial
        | exact sr_sl C L (t1 T) trivial
        | exact sr_st C L (t1 T) (t0 T)
        | exact sr_st C L T trivial
        | exact sr_1 (sr_s C L (tC (sx_rd C (t0 T)) (t1 T)))
        | exact sr_1 (sr_s C L (tC sx_xf (t1 T)))
        | exact sr_1 (sr_ph C L (t1 (t1 T)) (t0 (t1 T)) (t0 T))
        | exact sr_1 (sr_s C L (tI (t1 (t1 T))))
        | exact sr_1 (sr_s C L (tJ (t1 (t1 T))))
        | exact sr_1 (sr_s C L (tC (sx_rd C (t0 (t1 T))) (t1 (t1 T))))
        | exact sr_1 (sr_go (sx_si C (t0 (t1 (t1 T)))) L (t1 (t1 (t1 T))))
        | exact sr_1 (sr_go (sx_sj C (t0 (t1 (t1 T)))) L (t1 (t1 (t1 T))))
        | exact sr_1 (sr_go (sx_sr C (t0 (t1 (t1 T))) (fun _ e => by cases e; exact t0 T)) L (t1 (t1 (t1 T))))
        | exact sr_1 (sr_go (sx_sr C (t0 (t1 (t1 T))) (fun _ e => by cases e)) L (t1 (t1 (t1 T))))
        | exact sr_1 (sr_s C L (tI (t1 T)))
        | exact sr_1 (sr_s C L (tC (t0 T) (t1 T)))
        | exact sr_1 (sr_s C L (t1 T))
        | exact sr_1 (sr_go (sx_new C) L (tC hn (t1 T)))
        | exact sr_pi C L (t1 (t1 T))
        | exact sr_pl C L (t1 (t1 T))
        | exact sr_s C L (tJ (t1 (t1 T)))
        | exact sr_s C L (tI (t1 (t1 T)))
        | exact sr_s C L (tI (t1 T))
        | exact sr_s C L (tJ (t1 T))
        | exact sr_1 (sr_s C L (tC (t0 T) T))
        | exact sr_1 (sr_s C L (tC (t0 T) (tC (t0 (t1 T)) (tC (t0 T) (t1 (t1 T))))))
        | exact sr_br C L (t1 T)
        | exact sr_br C L (t1 (t1 T))
        | exact sr_jp C L (t1 T)
        | exact sr_s C L (t1 T)
        | exact sr_1 (sr_jp C L (t1 T))
        | exact sr_1 (sx_ret trivial)
        | exact sx_ret trivial
        | exact sx_ret (t0 T)
        | exact sx_ret0
        | (split <;> first
            | exact sr_none
            | exact sr_jp C L (t1 T)
            | exact sr_sw C L (t1 T)
            | exact sr_s C L (tC (t0 T) T)
            | exact sr_1 (sr_s C L (tC (t0 T) (tC (t0 (t1 T)) T)))
            | exact sr_1 (sr_go (sx_si C (t0 (t1 (t1 T)))) L (t1 (t1 (t1 T))))
            | exact sr_1 (sr_s C L (tI (t1 T)))))
theorem sx_en {nL : Nat} {as : List Value} (T : sxT S as) : sxL S (me_en nL as) := fun v hv => by
  unfold me_en at hv
  rcases List.mem_append.mp hv with e | e
  · obtain ⟨x, hx, e⟩ := List.mem_flatMap.mp e
    split at e
    · rcases List.mem_cons.mp e with z | z
      · cases z; exact T _ hx
      · rcases List.mem_cons.mp z with z | z
        · cases z
        · cases z
    · rcases List.mem_cons.mp e with z | z
      · cases z; exact T _ hx
      · cases z
  · have := List.eq_of_mem_replicate e
    cases this
theorem mm_sx : ∀ (n d y pc : Nat) (ls : me_L) (st : List Value) (h : mh_H) (r : Option Value) (h' : mh_H), sxC S h → sxL S ls → sxT S st → mm_run mc_P mc_nl n d y pc ls st h = some (r, h') → sxC S h' ∧ sxU S h h' ∧ ∀ v, r = some v → sxV S v := by
  intro n
  induction n with
  | zero => intro d y pc ls st h r h' _ _ _ e; cases e
  | succ n ih =>
    intro d y pc ls st h r h' C L T e
    have step : ∀ x, mm_step mc_P y pc ls st h = x → sxR S h x := fun x hx => by
      unfold mm_step at hx
      split at hx
      next ins len a b v hP => rw [← hx]; exact mm_ins_sx ins a b v pc ls st C L T
      next => rw [← hx]; exact sr_none
    unfold mm_run at e
    split at e
    next pc1 ls1 st1 h1 hst =>
      obtain ⟨c1, u1, l1, q1⟩ := (step _ hst).1 _ _ _ _ rfl
      obtain ⟨c2, u2, q2⟩ := ih _ _ _ _ _ _ _ _ c1 l1 q1 e
      exact ⟨c2, sxU_t u1 u2, q2⟩
    next r1 hst =>
      cases e
      exact ⟨C, sxU_id, fun v hv => (step _ hst).2.2 v (by rw [hv])⟩
    next y' args rest hst =>
      obtain ⟨q1, q2⟩ := (step _ hst).2.1 _ _ _ rfl
      split at e
      next d1 hdec =>
        split at e
        next r2 h2 hr =>
          obtain ⟨c1, u1, w1⟩ := ih _ _ _ _ _ _ _ _ C (sx_en q1) sxT_n hr
          obtain ⟨c2, u2, w2⟩ := ih _ _ _ _ _ _ _ _ c1 L (fun v hv => by
            rcases List.mem_append.mp hv with z | z
            · cases r2 with
              | none => cases z
              | some x =>
                have : v = x := by
                  rcases List.mem_cons.mp z with y | y
                  · exact y
                  · cases y
                rw [this]
                exact w1 x rfl
            · exact q2 v z) e
          exact ⟨c2, sxU_t u1 u2, w2⟩
        next => cases e
      next => cases e
    next => cases e
/-- a call: what it can't reach stays -/
theorem cal_sx {d y : Nat} {as : List Value} {r : Option Value} (C : sxC S h) (T : sxT S as) (e : ∀ Q, mcall d y as h Q = Q r h') : sxC S h' ∧ sxU S h h' ∧ ∀ v, r = some v → sxV S v := by
  have z : mcall d y as h (fun q x => q = r ∧ x = h') := by rw [e]; exact ⟨rfl, rfl⟩
  obtain ⟨n, r', h2, q1, q2, q3⟩ := z
  rw [← q2, ← q3]
  exact mm_sx n d y 0 _ _ h r' h2 C (sx_en T) sxT_n q1
end SYs
