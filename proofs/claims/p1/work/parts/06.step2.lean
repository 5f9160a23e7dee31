/-! the small machine's steps, second part: stores, the stack, branches, fields, arrays, new cells -/
section MSP
variable {p : Program} {l : Launch} {e : Env} {R : Room} {s : State} {m : MethodId} {args : Array Value} {below : List Frame} {meth : Method} {c : Code} {D : va_G} {cA : Nat → ClassId} {base n0 s0 nL : Nat} {xt : Nat → Option Nat} {Q : State → Prop} {M : me_M} {y : Nat}
variable {a b : Nat} {v : Int} {pc pc' : Nat} {ls ls' : me_L} {st st' : List Value} {h h' : mh_H}
theorem me_1_some {r : Option me_R} {q : Bool} {x : me_R} (hs : me_1 r q = some x) : q = true ∧ r = some x := by
  cases q with
  | true => exact ⟨rfl, hs⟩
  | false => cases hs
theorem me_jp_some {pc : Nat} {off : Int} {ls : me_L} {st : List Value} {h : mh_H} {x : me_R} (hs : me_jp pc off ls st h = some x) : ∃ tgt : Nat, (pc : Int) + off = (tgt : Int) ∧ x = .inl (tgt, ls, st, h) := by
  unfold me_jp at hs
  by_cases hp : 0 ≤ (pc : Int) + off
  · rw [if_pos hp] at hs
    cases hs
    exact ⟨_, (Int.toNat_of_nonneg hp).symm, rfl⟩
  · rw [if_neg hp] at hs
    cases hs
theorem me_br_some {q : Bool} {pc : Nat} {off : Int} {ls : me_L} {st : List Value} {h : mh_H} {x : me_R} (hs : me_br q pc off ls st h = some x) : ∃ tgt : Nat, (pc : Int) + off = (tgt : Int) ∧ ((q = true ∧ x = .inl (tgt, ls, st, h)) ∨ (q = false ∧ x = .inl (pc + 3, ls, st, h))) := by
  cases q with
  | true =>
    obtain ⟨t, h1, h2⟩ := me_jp_some hs
    exact ⟨t, h1, Or.inl ⟨rfl, h2⟩⟩
  | false =>
    obtain ⟨h1, h2⟩ := me_1_some hs
    cases h2
    exact ⟨_, (Int.toNat_of_nonneg (of_decide_eq_true h1)).symm, Or.inr ⟨rfl, rfl⟩⟩
theorem ms_in {C : String} {T : u_T} {N : Nat} {w : Jvm.Cond} (hw : w ∈ u_ws C T N) (h : w ∈ tables_1) : w ∈ ms_tb := by
  refine List.mem_append_left _ (List.mem_filter.mpr ⟨List.mem_append_right _ h, ?_⟩)
  obtain ⟨k, -, rfl⟩ := List.mem_map.mp hw
  unfold u_lay
  split <;> rfl

theorem mo_istore {i : Nat} (E : ms_E p s m args meth c M y D cA) (hd : decode (M y).2.1 pc = .ok (.istore i, 2)) (hs : mm_ins (.istore i) a b v pc ls st h = some (.inl (pc', ls', st', h'))) (k : ms_W p l e R s m args below meth c D cA base xt n0 s0 nL Q pc' ls' st' h') : ms_W p l e R s m args below meth c D cA base xt n0 s0 nL Q pc ls st h := by
  obtain ⟨hx, hb, hml, hown, hts, hK, hr, hlk, hnm⟩ := E
  unfold mm_ins at hs
  dsimp only at hs
  split at hs
  next x r =>
    obtain ⟨hi, hs⟩ := me_1_some hs
    have hi := of_decide_eq_true hi
    cases hs
    exact fun h1 h2 H locs rs hH hF hL hS => lv_istore hx hb hd (ms_L_has hS) (hS.1 ▸ hi) rfl (fun rs' hl => k h1 h2 H locs rs' hH hF hL (ms_L_s1 hS.1 (hS.1 ▸ hi) hl))
  next => cases hs
theorem mo_istore_n {i : Fin 4} (E : ms_E p s m args meth c M y D cA) (hd : decode (M y).2.1 pc = .ok (.istore_n i, 1)) (hs : mm_ins (.istore_n i) a b v pc ls st h = some (.inl (pc', ls', st', h'))) (k : ms_W p l e R s m args below meth c D cA base xt n0 s0 nL Q pc' ls' st' h') : ms_W p l e R s m args below meth c D cA base xt n0 s0 nL Q pc ls st h := by
  obtain ⟨hx, hb, hml, hown, hts, hK, hr, hlk, hnm⟩ := E
  unfold mm_ins at hs
  dsimp only at hs
  split at hs
  next x r =>
    obtain ⟨hi, hs⟩ := me_1_some hs
    have hi := of_decide_eq_true hi
    cases hs
    exact fun h1 h2 H locs rs hH hF hL hS => lv_istore_n hx hb hd rfl (ms_L_has hS) (hS.1 ▸ hi) rfl (fun rs' hl => k h1 h2 H locs rs' hH hF hL (ms_L_s1 hS.1 (hS.1 ▸ hi) hl))
  next => cases hs
theorem mo_lstore {i : Nat} (E : ms_E p s m args meth c M y D cA) (hd : decode (M y).2.1 pc = .ok (.lstore i, 2)) (hs : mm_ins (.lstore i) a b v pc ls st h = some (.inl (pc', ls', st', h'))) (k : ms_W p l e R s m args below meth c D cA base xt n0 s0 nL Q pc' ls' st' h') : ms_W p l e R s m args below meth c D cA base xt n0 s0 nL Q pc ls st h := by
  obtain ⟨hx, hb, hml, hown, hts, hK, hr, hlk, hnm⟩ := E
  unfold mm_ins at hs
  dsimp only at hs
  split at hs
  next x r =>
    obtain ⟨hi, hs⟩ := me_1_some hs
    have hi := of_decide_eq_true hi
    cases hs
    exact fun h1 h2 H locs rs hH hF hL hS => lv_lstore hx hb hd (ms_L_has hS) (hS.1 ▸ hi) rfl (fun rs' hl => k h1 h2 H locs rs' hH hF hL (ms_L_s2 hS.1 (hS.1 ▸ hi) hl))
  next => cases hs
theorem mo_lstore_n {i : Fin 4} (E : ms_E p s m args meth c M y D cA) (hd : decode (M y).2.1 pc = .ok (.lstore_n i, 1)) (hs : mm_ins (.lstore_n i) a b v pc ls st h = some (.inl (pc', ls', st', h'))) (k : ms_W p l e R s m args below meth c D cA base xt n0 s0 nL Q pc' ls' st' h') : ms_W p l e R s m args below meth c D cA base xt n0 s0 nL Q pc ls st h := by
  obtain ⟨hx, hb, hml, hown, hts, hK, hr, hlk, hnm⟩ := E
  unfold mm_ins at hs
  dsimp only at hs
  split at hs
  next x r =>
    obtain ⟨hi, hs⟩ := me_1_some hs
    have hi := of_decide_eq_true hi
    cases hs
    exact fun h1 h2 H locs rs hH hF hL hS => lv_lstore_n hx hb hd rfl (ms_L_has hS) (hS.1 ▸ hi) rfl (fun rs' hl => k h1 h2 H locs rs' hH hF hL (ms_L_s2 hS.1 (hS.1 ▸ hi) hl))
  next => cases hs
theorem mo_astore {i : Nat} (E : ms_E p s m args meth c M y D cA) (hd : decode (M y).2.1 pc = .ok (.astore i, 2)) (hs : mm_ins (.astore i) a b v pc ls st h = some (.inl (pc', ls', st', h'))) (k : ms_W p l e R s m args below meth c D cA base xt n0 s0 nL Q pc' ls' st' h') : ms_W p l e R s m args below meth c D cA base xt n0 s0 nL Q pc ls st h := by
  obtain ⟨hx, hb, hml, hown, hts, hK, hr, hlk, hnm⟩ := E
  unfold mm_ins at hs
  dsimp only at hs
  split at hs
  next x r =>
    obtain ⟨hi, hs⟩ := me_1_some hs
    have hi := of_decide_eq_true hi
    cases hs
    exact fun h1 h2 H locs rs hH hF hL hS =>  lv_astore hx hb hd  (ms_L_has hS) (hS.1 ▸ hi) rfl (fun rs' hl => k h1 h2 H locs rs' hH hF hL (ms_L_s1 hS.1 (hS.1 ▸ hi) hl))
  next r =>
    obtain ⟨hi, hs⟩ := me_1_some hs
    have hi := of_decide_eq_true hi
    cases hs
    exact fun h1 h2 H locs rs hH hF hL hS =>  lv_astoreN hx hb hd  (ms_L_has hS) (hS.1 ▸ hi) rfl (fun rs' hl => k h1 h2 H locs rs' hH hF hL (ms_L_s1 hS.1 (hS.1 ▸ hi) hl))
  next x r =>
    obtain ⟨hi, hs⟩ := me_1_some hs
    have hi := of_decide_eq_true hi
    cases hs
    intro h1 h2 H locs rs hH hF hL hS
    have kk : ∀ rs' : Array Slot, lv_has rs' nL ((i, ms_v base xt (.retAddr x)) :: (ms_A base xt ls).filter (fun q => !(q.1 == (i : Nat)) && !(q.1 + 1 == (i : Nat) && q.2.category == 2))) → _ := (fun rs' hl => k h1 h2 H locs rs' hH hF hL (ms_L_s1 hS.1 (hS.1 ▸ hi) hl))
    cases hxt : xt x with
    | none =>
      rw [show ms_v base xt (.retAddr x) = .null by show va_rf (xt x) = _; rw [hxt]; rfl] at kk
      rw [List.map_cons, show ms_v base xt (.retAddr x) = .null by show va_rf (xt x) = _; rw [hxt]; rfl]
      exact lv_astoreN hx hb hd  (ms_L_has hS) (hS.1 ▸ hi) rfl kk
    | some t =>
      rw [show ms_v base xt (.retAddr x) = .ref t by show va_rf (xt x) = _; rw [hxt]; rfl] at kk
      rw [List.map_cons, show ms_v base xt (.retAddr x) = .ref t by show va_rf (xt x) = _; rw [hxt]; rfl]
      exact lv_astore hx hb hd  (ms_L_has hS) (hS.1 ▸ hi) rfl kk
  next => cases hs
theorem mo_astore_n {i : Fin 4} (E : ms_E p s m args meth c M y D cA) (hd : decode (M y).2.1 pc = .ok (.astore_n i, 1)) (hs : mm_ins (.astore_n i) a b v pc ls st h = some (.inl (pc', ls', st', h'))) (k : ms_W p l e R s m args below meth c D cA base xt n0 s0 nL Q pc' ls' st' h') : ms_W p l e R s m args below meth c D cA base xt n0 s0 nL Q pc ls st h := by
  obtain ⟨hx, hb, hml, hown, hts, hK, hr, hlk, hnm⟩ := E
  unfold mm_ins at hs
  dsimp only at hs
  split at hs
  next x r =>
    obtain ⟨hi, hs⟩ := me_1_some hs
    have hi := of_decide_eq_true hi
    cases hs
    exact fun h1 h2 H locs rs hH hF hL hS =>  lv_astore_n hx hb hd rfl  (ms_L_has hS) (hS.1 ▸ hi) rfl (fun rs' hl => k h1 h2 H locs rs' hH hF hL (ms_L_s1 hS.1 (hS.1 ▸ hi) hl))
  next r =>
    obtain ⟨hi, hs⟩ := me_1_some hs
    have hi := of_decide_eq_true hi
    cases hs
    exact fun h1 h2 H locs rs hH hF hL hS =>  lv_astore_nN hx hb hd rfl  (ms_L_has hS) (hS.1 ▸ hi) rfl (fun rs' hl => k h1 h2 H locs rs' hH hF hL (ms_L_s1 hS.1 (hS.1 ▸ hi) hl))
  next x r =>
    obtain ⟨hi, hs⟩ := me_1_some hs
    have hi := of_decide_eq_true hi
    cases hs
    intro h1 h2 H locs rs hH hF hL hS
    have kk : ∀ rs' : Array Slot, lv_has rs' nL ((i, ms_v base xt (.retAddr x)) :: (ms_A base xt ls).filter (fun q => !(q.1 == (i : Nat)) && !(q.1 + 1 == (i : Nat) && q.2.category == 2))) → _ := (fun rs' hl => k h1 h2 H locs rs' hH hF hL (ms_L_s1 hS.1 (hS.1 ▸ hi) hl))
    cases hxt : xt x with
    | none =>
      rw [show ms_v base xt (.retAddr x) = .null by show va_rf (xt x) = _; rw [hxt]; rfl] at kk
      rw [List.map_cons, show ms_v base xt (.retAddr x) = .null by show va_rf (xt x) = _; rw [hxt]; rfl]
      exact lv_astore_nN hx hb hd rfl  (ms_L_has hS) (hS.1 ▸ hi) rfl kk
    | some t =>
      rw [show ms_v base xt (.retAddr x) = .ref t by show va_rf (xt x) = _; rw [hxt]; rfl] at kk
      rw [List.map_cons, show ms_v base xt (.retAddr x) = .ref t by show va_rf (xt x) = _; rw [hxt]; rfl]
      exact lv_astore_n hx hb hd rfl  (ms_L_has hS) (hS.1 ▸ hi) rfl kk
  next => cases hs
theorem mo_iinc {i : Nat} {n : Int} (E : ms_E p s m args meth c M y D cA) (hd : decode (M y).2.1 pc = .ok (.iinc i n, 3)) (hs : mm_ins (.iinc i n) a b v pc ls st h = some (.inl (pc', ls', st', h'))) (k : ms_W p l e R s m args below meth c D cA base xt n0 s0 nL Q pc' ls' st' h') : ms_W p l e R s m args below meth c D cA base xt n0 s0 nL Q pc ls st h := by
  obtain ⟨hx, hb, hml, hown, hts, hK, hr, hlk, hnm⟩ := E
  unfold mm_ins at hs
  dsimp only at hs
  split at hs
  next x hv =>
    obtain ⟨hi, hs⟩ := me_1_some hs
    have hi := of_decide_eq_true hi
    cases hs
    intro h1 h2 H locs rs hH hF hL hS
    have hm : (i, ms_v base xt (.int x)) ∈ ms_A base xt ls := by
      refine List.mem_filterMap.mpr ⟨i, List.mem_range.mpr hi, ?_⟩
      rw [hv]; rfl
    obtain ⟨kk, hkk⟩ := List.getElem?_of_mem hm
    exact lv_iinc hx hb hd (ms_L_has hS) hkk rfl (hS.1 ▸ hi) rfl (fun rs' hl => k h1 h2 H locs rs' hH hF hL (ms_L_s1 hS.1 (hS.1 ▸ hi) hl))
  next => cases hs
theorem mo_ldc {idx : Nat} (E : ms_E p s m args meth c M y D cA) (hd : decode (M y).2.1 pc = .ok (.ldc idx, 2)) (hq : ms_fact M y (.ldc idx) a b v) (hX : mx_ok base xt s) (hs : mm_ins (.ldc idx) a b v pc ls st h = some (.inl (pc', ls', st', h'))) (k : ms_W p l e R s m args below meth c D cA base xt n0 s0 nL Q pc' ls' st' h') : ms_W p l e R s m args below meth c D cA base xt n0 s0 nL Q pc ls st h := by
  obtain ⟨hx, hb, hml, hown, hts, hK, hr, hlk, hnm⟩ := E
  unfold mm_ins at hs
  dsimp only at hs
  split at hs
  · cases hs
    exact fun h1 h2 H locs rs hH hF hL hS =>  lv_ldc hx hb hown (hts _ (hq.1 rfl)) hd (k h1 h2 H locs rs hH hF hL hS)
  · cases hs
    obtain ⟨tx, hm⟩ := hq.2 rfl
    obtain ⟨t, e1, e2⟩ := hX.2.1 _ hm
    intro h1 h2 H locs rs hH hF hL hS
    have kk := (k h1 h2 H locs rs hH hF hL hS)
    rw [List.map_cons, show ms_v base xt (.retAddr a) = .ref t by show va_rf (xt a) = _; rw [e1]; rfl] at kk
    exact va_ldcS hx hb hown e2 hd kk
  · cases hs
theorem mo_ldc_w {idx : Nat} (E : ms_E p s m args meth c M y D cA) (hd : decode (M y).2.1 pc = .ok (.ldc_w idx, 3)) (hq : ms_fact M y (.ldc_w idx) a b v) (hX : mx_ok base xt s) (hs : mm_ins (.ldc_w idx) a b v pc ls st h = some (.inl (pc', ls', st', h'))) (k : ms_W p l e R s m args below meth c D cA base xt n0 s0 nL Q pc' ls' st' h') : ms_W p l e R s m args below meth c D cA base xt n0 s0 nL Q pc ls st h := by
  obtain ⟨hx, hb, hml, hown, hts, hK, hr, hlk, hnm⟩ := E
  unfold mm_ins at hs
  dsimp only at hs
  split at hs
  · cases hs
    obtain ⟨tx, hm⟩ := hq rfl
    obtain ⟨t, e1, e2⟩ := hX.2.1 _ hm
    intro h1 h2 H locs rs hH hF hL hS
    have kk := (k h1 h2 H locs rs hH hF hL hS)
    rw [List.map_cons, show ms_v base xt (.retAddr a) = .ref t by show va_rf (xt a) = _; rw [e1]; rfl] at kk
    intro T hT XX
    obtain ⟨t9, a1, b1⟩ := kk T hT XX
    exact ⟨t9, XX.ldcStringW hx hown e2.1 e2.2 (g := F0 m pc rs (st.map (ms_v base xt))) rfl (by rw [hb]; exact hd) t9 a1, b1⟩
  · cases hs
theorem mo_getstatic {idx : Nat} (E : ms_E p s m args meth c M y D cA) (hd : decode (M y).2.1 pc = .ok (.getstatic idx, 3)) (hq : ms_fact M y (.getstatic idx) a b v) (hX : mx_ok base xt s) (hs : mm_ins (.getstatic idx) a b v pc ls st h = some (.inl (pc', ls', st', h'))) (k : ms_W p l e R s m args below meth c D cA base xt n0 s0 nL Q pc' ls' st' h') : ms_W p l e R s m args below meth c D cA base xt n0 s0 nL Q pc ls st h := by
  obtain ⟨hx, hb, hml, hown, hts, hK, hr, hlk, hnm⟩ := E
  unfold mm_ins at hs
  dsimp only at hs
  split at hs
  · cases hs
    intro h1 h2 H locs rs hH hF hL hS
    have kk := (k h1 h2 H locs rs hH hF hL hS)
    have hSS := mx_S (n := n0) h1.2 (by rw [hH.1]; omega) hF hL
    rcases hq.1 rfl with ⟨rfl, hl⟩ | ⟨rfl, hl⟩
    · obtain ⟨t, e1, e2, -⟩ := hX.2.2.1
      rw [List.map_cons, show ms_v base xt (.retAddr 2) = .ref t by show va_rf (xt 2) = _; rw [e1]; rfl] at kk
      exact va_gets hx hb e2 hSS hown (hts _ hl) (fun _ z => z) hd kk
    · exact va_gets hx hb hX.2.2.2.2.1 hSS hown (hts _ hl) (fun _ z => z) hd kk
  · cases hs
    intro h1 h2 H locs rs hH hF hL hS
    have kk := (k h1 h2 H locs rs hH hF hL hS)
    have hSS := mx_S (n := n0) h1.2 (by rw [hH.1]; omega) hF hL
    obtain ⟨rfl, hl⟩ := hq.2 rfl
    exact va_gets hx hb hX.2.2.2.1 hSS hown (hts _ hl) (fun _ z => z) hd kk
  · cases hs
theorem mo_ldc2_w {idx : Nat} (E : ms_E p s m args meth c M y D cA) (hd : decode (M y).2.1 pc = .ok (.ldc2_w idx, 3)) (hq : ms_fact M y (.ldc2_w idx) a b v) (hs : mm_ins (.ldc2_w idx) a b v pc ls st h = some (.inl (pc', ls', st', h'))) (k : ms_W p l e R s m args below meth c D cA base xt n0 s0 nL Q pc' ls' st' h') : ms_W p l e R s m args below meth c D cA base xt n0 s0 nL Q pc ls st h := by
  obtain ⟨hx, hb, hml, hown, hts, hK, hr, hlk, hnm⟩ := E
  cases hs
  exact fun h1 h2 H locs rs hH hF hL hS => lv_ldc2 hx hb hown (hts _ hq) hd (k h1 h2 H locs rs hH hF hL hS)
theorem mo_dup (E : ms_E p s m args meth c M y D cA) (hd : decode (M y).2.1 pc = .ok (.dup, 1)) (hs : mm_ins (.dup) a b v pc ls st h = some (.inl (pc', ls', st', h'))) (k : ms_W p l e R s m args below meth c D cA base xt n0 s0 nL Q pc' ls' st' h') : ms_W p l e R s m args below meth c D cA base xt n0 s0 nL Q pc ls st h := by
  obtain ⟨hx, hb, hml, hown, hts, hK, hr, hlk, hnm⟩ := E
  unfold mm_ins at hs
  dsimp only at hs
  split at hs
  next x r =>
    obtain ⟨hc, hs⟩ := me_1_some hs
    have hc := of_decide_eq_true hc
    cases hs
    exact fun h1 h2 H locs rs hH hF hL hS => lv_dup hx hb hd ((ms_cat base xt x).trans hc) (k h1 h2 H locs rs hH hF hL hS)
  next => cases hs
theorem mo_pop (E : ms_E p s m args meth c M y D cA) (hd : decode (M y).2.1 pc = .ok (.pop, 1)) (hs : mm_ins (.pop) a b v pc ls st h = some (.inl (pc', ls', st', h'))) (k : ms_W p l e R s m args below meth c D cA base xt n0 s0 nL Q pc' ls' st' h') : ms_W p l e R s m args below meth c D cA base xt n0 s0 nL Q pc ls st h := by
  obtain ⟨hx, hb, hml, hown, hts, hK, hr, hlk, hnm⟩ := E
  unfold mm_ins at hs
  dsimp only at hs
  split at hs
  next x r =>
    obtain ⟨hc, hs⟩ := me_1_some hs
    have hc := of_decide_eq_true hc
    cases hs
    exact fun h1 h2 H locs rs hH hF hL hS => lv_pop hx hb hd ((ms_cat base xt x).trans hc) (k h1 h2 H locs rs hH hF hL hS)
  next => cases hs
theorem mo_pop2 (E : ms_E p s m args meth c M y D cA) (hd : decode (M y).2.1 pc = .ok (.pop2, 1)) (hs : mm_ins (.pop2) a b v pc ls st h = some (.inl (pc', ls', st', h'))) (k : ms_W p l e R s m args below meth c D cA base xt n0 s0 nL Q pc' ls' st' h') : ms_W p l e R s m args below meth c D cA base xt n0 s0 nL Q pc ls st h := by
  obtain ⟨hx, hb, hml, hown, hts, hK, hr, hlk, hnm⟩ := E
  unfold mm_ins at hs
  dsimp only at hs
  split at hs
  next x r =>
    obtain ⟨hc, hs⟩ := me_1_some hs
    have hc := of_decide_eq_true hc
    cases hs
    exact fun h1 h2 H locs rs hH hF hL hS => lv_pop2_2 hx hb hd ((ms_cat base xt x).trans hc) (k h1 h2 H locs rs hH hF hL hS)
  next => cases hs
theorem mo_dup_x1 (E : ms_E p s m args meth c M y D cA) (hd : decode (M y).2.1 pc = .ok (.dup_x1, 1)) (hs : mm_ins (.dup_x1) a b v pc ls st h = some (.inl (pc', ls', st', h'))) (k : ms_W p l e R s m args below meth c D cA base xt n0 s0 nL Q pc' ls' st' h') : ms_W p l e R s m args below meth c D cA base xt n0 s0 nL Q pc ls st h := by
  obtain ⟨hx, hb, hml, hown, hts, hK, hr, hlk, hnm⟩ := E
  unfold mm_ins at hs
  dsimp only at hs
  split at hs
  next x z r =>
    obtain ⟨hc, hs⟩ := me_1_some hs
    simp only [Bool.and_eq_true, decide_eq_true_eq] at hc
    cases hs
    exact fun h1 h2 H locs rs hH hF hL hS => lv_dup_x1 hx hb hd ((ms_cat base xt x).trans hc.1) ((ms_cat base xt z).trans hc.2) (k h1 h2 H locs rs hH hF hL hS)
  next => cases hs
theorem mo_dup2 (E : ms_E p s m args meth c M y D cA) (hd : decode (M y).2.1 pc = .ok (.dup2, 1)) (hs : mm_ins (.dup2) a b v pc ls st h = some (.inl (pc', ls', st', h'))) (k : ms_W p l e R s m args below meth c D cA base xt n0 s0 nL Q pc' ls' st' h') : ms_W p l e R s m args below meth c D cA base xt n0 s0 nL Q pc ls st h := by
  obtain ⟨hx, hb, hml, hown, hts, hK, hr, hlk, hnm⟩ := E
  unfold mm_ins at hs
  dsimp only at hs
  split at hs
  next x z r =>
    split at hs
    next hc =>
      have hc := of_decide_eq_true hc
      cases hs
      exact fun h1 h2 H locs rs hH hF hL hS => lv_dup2_2 hx hb hd ((ms_cat base xt x).trans hc) (k h1 h2 H locs rs hH hF hL hS)
    next =>
      obtain ⟨hc, hs⟩ := me_1_some hs
      simp only [Bool.and_eq_true, decide_eq_true_eq] at hc
      cases hs
      exact fun h1 h2 H locs rs hH hF hL hS => lv_dup2_11 hx hb hd ((ms_cat base xt x).trans hc.1) ((ms_cat base xt z).trans hc.2) (k h1 h2 H locs rs hH hF hL hS)
  next => cases hs
theorem mo_goto {off : Int} (E : ms_E p s m args meth c M y D cA) (hd : decode (M y).2.1 pc = .ok (.goto off, 3)) (hs : mm_ins (.goto off) a b v pc ls st h = some (.inl (pc', ls', st', h'))) (k : ms_W p l e R s m args below meth c D cA base xt n0 s0 nL Q pc' ls' st' h') : ms_W p l e R s m args below meth c D cA base xt n0 s0 nL Q pc ls st h := by
  obtain ⟨hx, hb, hml, hown, hts, hK, hr, hlk, hnm⟩ := E
  obtain ⟨tgt, ht, e⟩ := me_jp_some hs
  cases e
  exact fun h1 h2 H locs rs hH hF hL hS => lv_goto hx hb hd ht (k h1 h2 H locs rs hH hF hL hS)
theorem mo_ifCond {q : ClassFile.Cond} {off : Int} (E : ms_E p s m args meth c M y D cA) (hd : decode (M y).2.1 pc = .ok (.ifCond q off, 3)) (hs : mm_ins (.ifCond q off) a b v pc ls st h = some (.inl (pc', ls', st', h'))) (k : ms_W p l e R s m args below meth c D cA base xt n0 s0 nL Q pc' ls' st' h') : ms_W p l e R s m args below meth c D cA base xt n0 s0 nL Q pc ls st h := by
  obtain ⟨hx, hb, hml, hown, hts, hK, hr, hlk, hnm⟩ := E
  unfold mm_ins at hs
  dsimp only at hs
  split at hs
  next x r =>
    obtain ⟨tgt, ht, e⟩ := me_br_some hs
    rcases e with ⟨hc, e⟩ | ⟨hc, e⟩
    · cases e
      cases q with
      | eq => exact fun h1 h2 H locs rs hH hF hL hS => lv_if_eq hx hb hd ht (fun _ => (k h1 h2 H locs rs hH hF hL hS)) (fun z => absurd z (by have hc := of_decide_eq_true hc; first | exact hc | exact not_not_intro hc))
      | ne => exact fun h1 h2 H locs rs hH hF hL hS => lv_if_ne hx hb hd ht (fun _ => (k h1 h2 H locs rs hH hF hL hS)) (fun z => absurd z (by have hc := of_decide_eq_true hc; first | exact hc | exact not_not_intro hc))
      | lt => exact fun h1 h2 H locs rs hH hF hL hS => lv_if_lt hx hb hd ht (fun _ => (k h1 h2 H locs rs hH hF hL hS)) (fun z => absurd z (by have hc := of_decide_eq_true hc; first | exact hc | exact not_not_intro hc))
      | ge => exact fun h1 h2 H locs rs hH hF hL hS => lv_if_ge hx hb hd ht (fun _ => (k h1 h2 H locs rs hH hF hL hS)) (fun z => absurd z (by have hc := of_decide_eq_true hc; first | exact hc | exact not_not_intro hc))
      | gt => exact fun h1 h2 H locs rs hH hF hL hS => lv_if_gt hx hb hd ht (fun _ => (k h1 h2 H locs rs hH hF hL hS)) (fun z => absurd z (by have hc := of_decide_eq_true hc; first | exact hc | exact not_not_intro hc))
      | le => exact fun h1 h2 H locs rs hH hF hL hS => lv_if_le hx hb hd ht (fun _ => (k h1 h2 H locs rs hH hF hL hS)) (fun z => absurd z (by have hc := of_decide_eq_true hc; first | exact hc | exact not_not_intro hc))
    · cases e
      cases q with
      | eq => exact fun h1 h2 H locs rs hH hF hL hS => lv_if_eq hx hb hd ht (fun z => absurd z (of_decide_eq_false hc)) (fun _ => (k h1 h2 H locs rs hH hF hL hS))
      | ne => exact fun h1 h2 H locs rs hH hF hL hS => lv_if_ne hx hb hd ht (fun z => absurd z (of_decide_eq_false hc)) (fun _ => (k h1 h2 H locs rs hH hF hL hS))
      | lt => exact fun h1 h2 H locs rs hH hF hL hS => lv_if_lt hx hb hd ht (fun z => absurd z (of_decide_eq_false hc)) (fun _ => (k h1 h2 H locs rs hH hF hL hS))
      | ge => exact fun h1 h2 H locs rs hH hF hL hS => lv_if_ge hx hb hd ht (fun z => absurd z (of_decide_eq_false hc)) (fun _ => (k h1 h2 H locs rs hH hF hL hS))
      | gt => exact fun h1 h2 H locs rs hH hF hL hS => lv_if_gt hx hb hd ht (fun z => absurd z (of_decide_eq_false hc)) (fun _ => (k h1 h2 H locs rs hH hF hL hS))
      | le => exact fun h1 h2 H locs rs hH hF hL hS => lv_if_le hx hb hd ht (fun z => absurd z (of_decide_eq_false hc)) (fun _ => (k h1 h2 H locs rs hH hF hL hS))
  next => cases hs
theorem mo_icmp {q : ClassFile.Cond} {off : Int} (E : ms_E p s m args meth c M y D cA) (hd : decode (M y).2.1 pc = .ok (.if_icmp q off, 3)) (hs : mm_ins (.if_icmp q off) a b v pc ls st h = some (.inl (pc', ls', st', h'))) (k : ms_W p l e R s m args below meth c D cA base xt n0 s0 nL Q pc' ls' st' h') : ms_W p l e R s m args below meth c D cA base xt n0 s0 nL Q pc ls st h := by
  obtain ⟨hx, hb, hml, hown, hts, hK, hr, hlk, hnm⟩ := E
  unfold mm_ins at hs
  dsimp only at hs
  split at hs
  next z x r =>
    obtain ⟨tgt, ht, e⟩ := me_br_some hs
    rcases e with ⟨hc, e⟩ | ⟨hc, e⟩
    · cases e
      cases q with
      | eq => exact fun h1 h2 H locs rs hH hF hL hS => lv_icmp_eq hx hb hd ht (fun _ => (k h1 h2 H locs rs hH hF hL hS)) (fun z => absurd z (by have hc := of_decide_eq_true hc; first | exact hc | exact not_not_intro hc))
      | ne => exact fun h1 h2 H locs rs hH hF hL hS => lv_icmp_ne hx hb hd ht (fun _ => (k h1 h2 H locs rs hH hF hL hS)) (fun z => absurd z (by have hc := of_decide_eq_true hc; first | exact hc | exact not_not_intro hc))
      | lt => exact fun h1 h2 H locs rs hH hF hL hS => lv_icmp_lt hx hb hd ht (fun _ => (k h1 h2 H locs rs hH hF hL hS)) (fun z => absurd z (by have hc := of_decide_eq_true hc; first | exact hc | exact not_not_intro hc))
      | ge => exact fun h1 h2 H locs rs hH hF hL hS => lv_icmp_ge hx hb hd ht (fun _ => (k h1 h2 H locs rs hH hF hL hS)) (fun z => absurd z (by have hc := of_decide_eq_true hc; first | exact hc | exact not_not_intro hc))
      | gt => exact fun h1 h2 H locs rs hH hF hL hS => lv_icmp_gt hx hb hd ht (fun _ => (k h1 h2 H locs rs hH hF hL hS)) (fun z => absurd z (by have hc := of_decide_eq_true hc; first | exact hc | exact not_not_intro hc))
      | le => exact fun h1 h2 H locs rs hH hF hL hS => lv_icmp_le hx hb hd ht (fun _ => (k h1 h2 H locs rs hH hF hL hS)) (fun z => absurd z (by have hc := of_decide_eq_true hc; first | exact hc | exact not_not_intro hc))
    · cases e
      cases q with
      | eq => exact fun h1 h2 H locs rs hH hF hL hS => lv_icmp_eq hx hb hd ht (fun z => absurd z (of_decide_eq_false hc)) (fun _ => (k h1 h2 H locs rs hH hF hL hS))
      | ne => exact fun h1 h2 H locs rs hH hF hL hS => lv_icmp_ne hx hb hd ht (fun z => absurd z (of_decide_eq_false hc)) (fun _ => (k h1 h2 H locs rs hH hF hL hS))
      | lt => exact fun h1 h2 H locs rs hH hF hL hS => lv_icmp_lt hx hb hd ht (fun z => absurd z (of_decide_eq_false hc)) (fun _ => (k h1 h2 H locs rs hH hF hL hS))
      | ge => exact fun h1 h2 H locs rs hH hF hL hS => lv_icmp_ge hx hb hd ht (fun z => absurd z (of_decide_eq_false hc)) (fun _ => (k h1 h2 H locs rs hH hF hL hS))
      | gt => exact fun h1 h2 H locs rs hH hF hL hS => lv_icmp_gt hx hb hd ht (fun z => absurd z (of_decide_eq_false hc)) (fun _ => (k h1 h2 H locs rs hH hF hL hS))
      | le => exact fun h1 h2 H locs rs hH hF hL hS => lv_icmp_le hx hb hd ht (fun z => absurd z (of_decide_eq_false hc)) (fun _ => (k h1 h2 H locs rs hH hF hL hS))
  next => cases hs
theorem mo_ifnull {off : Int} (E : ms_E p s m args meth c M y D cA) (hd : decode (M y).2.1 pc = .ok (.ifnull off, 3)) (hs : mm_ins (.ifnull off) a b v pc ls st h = some (.inl (pc', ls', st', h'))) (k : ms_W p l e R s m args below meth c D cA base xt n0 s0 nL Q pc' ls' st' h') : ms_W p l e R s m args below meth c D cA base xt n0 s0 nL Q pc ls st h := by
  obtain ⟨hx, hb, hml, hown, hts, hK, hr, hlk, hnm⟩ := E
  unfold mm_ins at hs
  dsimp only at hs
  split at hs
  next r =>
    obtain ⟨tgt, ht, e⟩ := me_jp_some hs
    cases e
    exact fun h1 h2 H locs rs hH hF hL hS => lv_ifnullN hx hb hd ht (k h1 h2 H locs rs hH hF hL hS)
  next x r =>
    cases hs
    exact fun h1 h2 H locs rs hH hF hL hS => lv_ifnull hx hb hd (k h1 h2 H locs rs hH hF hL hS)
  next => cases hs
theorem mo_ifnonnull {off : Int} (E : ms_E p s m args meth c M y D cA) (hd : decode (M y).2.1 pc = .ok (.ifnonnull off, 3)) (hs : mm_ins (.ifnonnull off) a b v pc ls st h = some (.inl (pc', ls', st', h'))) (k : ms_W p l e R s m args below meth c D cA base xt n0 s0 nL Q pc' ls' st' h') : ms_W p l e R s m args below meth c D cA base xt n0 s0 nL Q pc ls st h := by
  obtain ⟨hx, hb, hml, hown, hts, hK, hr, hlk, hnm⟩ := E
  unfold mm_ins at hs
  dsimp only at hs
  split at hs
  next r =>
    cases hs
    exact fun h1 h2 H locs rs hH hF hL hS => lv_ifnonnullN hx hb hd (k h1 h2 H locs rs hH hF hL hS)
  next x r =>
    obtain ⟨tgt, ht, e⟩ := me_jp_some hs
    cases e
    exact fun h1 h2 H locs rs hH hF hL hS => lv_ifnonnull hx hb hd ht (k h1 h2 H locs rs hH hF hL hS)
  next => cases hs
theorem mo_tableswitch {df lo hi : Int} {offs : Array Int} {len : Nat} (E : ms_E p s m args meth c M y D cA) (hd : decode (M y).2.1 pc = .ok (.tableswitch df lo hi offs, len)) (hs : mm_ins (.tableswitch df lo hi offs) a b v pc ls st h = some (.inl (pc', ls', st', h'))) (k : ms_W p l e R s m args below meth c D cA base xt n0 s0 nL Q pc' ls' st' h') : ms_W p l e R s m args below meth c D cA base xt n0 s0 nL Q pc ls st h := by
  obtain ⟨hx, hb, hml, hown, hts, hK, hr, hlk, hnm⟩ := E
  unfold mm_ins at hs
  dsimp only at hs
  split at hs
  next x r =>
    split at hs
    next hc =>
      obtain ⟨tgt, ht, e⟩ := me_jp_some hs
      cases e
      exact fun h1 h2 H locs rs hH hF hL hS => lv_tableOut hx hb hd (of_decide_eq_true hc) ht (k h1 h2 H locs rs hH hF hL hS)
    next hc =>
      have hc := of_decide_eq_false hc
      unfold me_sw at hs
      split at hs
      next off ho =>
        obtain ⟨tgt, ht, e⟩ := me_jp_some hs
        cases e
        exact fun h1 h2 H locs rs hH hF hL hS => lv_tableIn hx hb hd (fun z => hc (Or.inl z)) (fun z => hc (Or.inr z)) ho ht (k h1 h2 H locs rs hH hF hL hS)
      next => cases hs
  next => cases hs
theorem mo_lookupswitch {df : Int} {ps : Array (Int × Int)} {len : Nat} (E : ms_E p s m args meth c M y D cA) (hd : decode (M y).2.1 pc = .ok (.lookupswitch df ps, len)) (hs : mm_ins (.lookupswitch df ps) a b v pc ls st h = some (.inl (pc', ls', st', h'))) (k : ms_W p l e R s m args below meth c D cA base xt n0 s0 nL Q pc' ls' st' h') : ms_W p l e R s m args below meth c D cA base xt n0 s0 nL Q pc ls st h := by
  obtain ⟨hx, hb, hml, hown, hts, hK, hr, hlk, hnm⟩ := E
  unfold mm_ins at hs
  dsimp only at hs
  split at hs
  next x r =>
    obtain ⟨hc, hs⟩ := me_1_some hs
    obtain ⟨tgt, ht, e⟩ := me_jp_some hs
    cases e
    exact fun h1 h2 H locs rs hH hF hL hS => lv_lookup hx hb hd hc rfl ht (k h1 h2 H locs rs hH hF hL hS)
  next => cases hs
theorem me_ob_some {h : mh_H} {a ci k : Nat} (hc : me_ob h a ci k = true) : a < mh_n h ∧ mh_k h a = ci ∧ ci < 100 ∧ k < mt_nf ci := by
  simpa [me_ob] using hc
theorem me_xs_some {x : Nat} (h : me_xs x = true) : ∃ j, j < mx_len.length ∧ x = 3 * j + 3 := by
  simp only [me_xs, Bool.and_eq_true, decide_eq_true_eq] at h
  exact ⟨x / 3 - 1, by omega, by omega⟩
theorem me_xb_some {x : Nat} (h : me_xb x = true) : ∃ j, j < mx_len.length ∧ x = 3 * j + 4 := by
  simp only [me_xb, Bool.and_eq_true, decide_eq_true_eq] at h
  exact ⟨x / 3 - 1, by omega, by omega⟩
theorem me_ix_some {h : mh_H} {a : Nat} {i : Int32} (hc : me_ix h a i = true) : a < mh_n h ∧ 100 ≤ mh_k h a ∧ 0 ≤ i ∧ i.toNatClampNeg < mh_l h a := by
  simpa [me_ix] using hc

theorem mo_getfield {idx : Nat} (E : ms_E p s m args meth c M y D cA) (hd : decode (M y).2.1 pc = .ok (.getfield idx, 3)) (hq : ms_fact M y (.getfield idx) a b v) (hX : mx_ok base xt s) (hs : mm_ins (.getfield idx) a b v pc ls st h = some (.inl (pc', ls', st', h'))) (k : ms_W p l e R s m args below meth c D cA base xt n0 s0 nL Q pc' ls' st' h') : ms_W p l e R s m args below meth c D cA base xt n0 s0 nL Q pc ls st h := by
  obtain ⟨hx, hb, hml, hown, hts, hK, hr, hlk, hnm⟩ := E
  unfold mm_ins at hs
  dsimp only at hs
  split at hs
  next x r =>
    obtain ⟨hc, hs⟩ := me_1_some hs
    obtain ⟨ho, hk, hlt, hkn⟩ := me_ob_some hc
    cases hs
    intro h1 h2 H locs rs hH hF hL hS
    obtain ⟨q, hcl, hfl⟩ := hq.1 (by rw [← hk]; exact ((hH.2 x ho).1 (by rw [hk]; exact hlt)).1)
    have hkq : b < q.2.2 := by rw [← mt_len a q hcl]; exact hkn
    obtain ⟨-, cell, q1, q2, q3, q4⟩ := (hH.2 x ho).1 (by rw [hk]; exact hlt)
    rw [hk] at q4
    obtain ⟨hSl, hfc, kC, hkC, hkind⟩ := hK.1 a q hcl
    obtain ⟨cf, kf, fi, f, hi, hsl⟩ := hSl b hkq
    refine W.getf hx hb hown (hts _ hfl) hi (u_facts hfc hkC (u_lays hts (fun w hw => ms_in hw (mt_ii a q hcl w hw)) hkq) hi).1 q1 (by rw [q3]; exact fun z => by cases z) (v := ms_v base xt (me_rd h x b)) ?_ rfl rfl hd (k h1 h2 H locs rs hH hF hL hS)
    rw [hsl, q4 b hkn]
  next x r =>
    obtain ⟨hc, hs⟩ := me_1_some hs
    cases hs
    simp only [Bool.and_eq_true, decide_eq_true_eq] at hc
    obtain ⟨hx1, ha90, hb2⟩ := hc
    obtain ⟨j, hj, hjx⟩ := me_xs_some hx1
    intro h1 h2 H locs rs hH hF hL hS
    have kk := (k h1 h2 H locs rs hH hF hL hS)
    have hSS := mx_S (n := n0) h1.2 (by rw [hH.1]; omega) hF hL
    obtain ⟨t, bb, e1, e2, e3, e4, e5, e6⟩ := hX.1 j hj
    rw [List.map_cons, show ms_v base xt (.retAddr x) = .ref t by show va_rf (xt x) = _; rw [hjx, e1]; rfl]
    obtain ⟨hq0, hq1⟩ := hq.2 ha90
    have hb3 : b = 0 ∨ b = 1 := by omega
    rcases hb3 with rfl | rfl
    · exact vk_getf hx hb e4 hSS hown (hts _ (hq0 rfl)) (fun _ z => z) hd kk
    · rw [List.map_cons, show ms_v base xt (me_xf 1 x) = .ref bb by show va_rf (xt (x + 1)) = _; rw [hjx, show 3 * j + 3 + 1 = 3 * j + 4 from rfl, e2]; rfl] at kk
      exact vk_getf hx hb e5 hSS hown (hts _ (hq1 rfl)) (fun _ z => z) hd kk
  next => cases hs
/-- what a write of a field does, and that the value fits -/
theorem me_wr_some {h h2 : mh_H} {o ci k : Nat} {x : Value} {ty : FieldType} (hk : mh_k h o = ci) (hty : mt_okv (mt_tc ci k) ty) (hw : me_wr h o ci k x = some h2) : me_up h o k x h2 ∧ narrow ty (ms_v base xt x) = ms_v base xt x ∧ fits ty (ms_v base xt x) = true := by
  unfold me_wr at hw
  split at hw
  next v =>
    by_cases hc : mt_tc ci k = 0 ∨ (mt_tc ci k = 3 ∧ (v = 0 ∨ v = 1))
    · rw [if_pos hc] at hw
      cases hw
      refine ⟨me_up_i (by rw [hk]; omega) (by rw [hk]; omega) (by rw [hk]; omega), ?_⟩
      rcases hc with hc | ⟨hc, hv⟩
      · rw [hc] at hty
        cases hty
        exact ⟨rfl, rfl⟩
      · rw [hc] at hty
        cases hty
        rcases hv with rfl | rfl
        · exact ⟨(by decide +kernel : narrow .boolean (.int 0) = .int 0), (by decide +kernel : fits .boolean (.int 0) = true)⟩
        · exact ⟨(by decide +kernel : narrow .boolean (.int 1) = .int 1), (by decide +kernel : fits .boolean (.int 1) = true)⟩
    · rw [if_neg hc] at hw; cases hw
  next v =>
    by_cases hc : mt_tc ci k = 1
    · rw [if_pos hc] at hw
      cases hw
      rw [hc] at hty
      cases hty
      exact ⟨me_up_j (by rw [hk]; exact hc), rfl, rfl⟩
    · rw [if_neg hc] at hw; cases hw
  next v =>
    by_cases hc : mt_tc ci k = 2
    · rw [if_pos hc] at hw
      cases hw
      rw [hc] at hty
      refine ⟨me_up_r (x := some v) (by rw [hk]; exact hc), ?_⟩
      rcases hty with ⟨C, rfl⟩ | ⟨t, rfl⟩ <;> exact ⟨rfl, rfl⟩
    · rw [if_neg hc] at hw; cases hw
  next =>
    by_cases hc : mt_tc ci k = 2
    · rw [if_pos hc] at hw
      cases hw
      rw [hc] at hty
      refine ⟨me_up_r (x := none) (by rw [hk]; exact hc), ?_⟩
      rcases hty with ⟨C, rfl⟩ | ⟨t, rfl⟩ <;> exact ⟨rfl, rfl⟩
    · rw [if_neg hc] at hw; cases hw
  next => cases hw

theorem mo_putfield {idx : Nat} (E : ms_E p s m args meth c M y D cA) (hd : decode (M y).2.1 pc = .ok (.putfield idx, 3)) (hq : ms_fact M y (.putfield idx) a b v) (hs : mm_ins (.putfield idx) a b v pc ls st h = some (.inl (pc', ls', st', h'))) (k : ms_W p l e R s m args below meth c D cA base xt n0 s0 nL Q pc' ls' st' h') : ms_W p l e R s m args below meth c D cA base xt n0 s0 nL Q pc ls st h := by
  obtain ⟨hx, hb, hml, hown, hts, hK, hr, hlk, hnm⟩ := E
  unfold mm_ins at hs
  dsimp only at hs
  split at hs
  next x o r =>
    obtain ⟨hc, hs⟩ := me_1_some hs
    obtain ⟨ho, hk, hlt, hkn⟩ := me_ob_some hc
    unfold me_ph at hs
    split at hs
    next h3 hw =>
      cases hs
      intro h1 h2 H locs rs hH hF hL hS
      obtain ⟨q, hcl, hfl, hfin⟩ := hq
      have hkq : b < q.2.2 := by rw [← mt_len a q hcl]; exact hkn
      obtain ⟨hu, hnar, hfit⟩ := me_wr_some (base := base) (xt := xt) hk (mt_okbv (mt_tt a q hcl b hkq)) hw
      obtain ⟨-, cell, q1, q2, q3, q4⟩ := (hH.2 o ho).1 (by rw [hk]; exact hlt)
      obtain ⟨hSl, hfc, kC, hkC, hkind⟩ := hK.1 a q hcl
      obtain ⟨cf, kf, fi, f, hi, hsl⟩ := hSl b hkq
      have hin : ∀ w ∈ u_ws q.1 q.2.1 q.2.2, w ∈ ms_tb := fun w hw => ms_in hw (mt_ii a q hcl w hw)
      have hap := va_apart (own := (M y).1.cls) hts hin (mt_tf a) (mt_oo a q hcl) (mt_nn a q hcl) hK hcl
      have hst := (u_facts hfc hkC (u_lays hts hin hkq) hi).1
      have hlay := hts _ (hin _ (u_in_lay hkq))
      have hpd := mt_oo a q hcl b hkq
      have hslot : f.slot < cell.slots.size := by
        rw [hsl]
        have q5 := q4 b (by rw [hk]; exact hkn)
        rw [hk] at q5
        exact k2_hasslot q5
      have fin : ∀ H' : Heap, H'[base + o]? = some (cell.setSlot f.slot (ms_v base xt x)) → H'.size = H.size → (∀ q, q ≠ base + o → H'[q]? = H[q]?) → W p l e R s m args below meth c H' (locs ++ [⟨base + o, f.slot⟩]) (mh_n h - n0) (mh_s h - s0) Q (F0 m (pc + 3) rs (st'.map (ms_v base xt))) := by
        intro H' e1 e2 e3
        have hH' : ms_H D cA base xt h' H' := by
          refine ms_H_obj hH ho (by rw [hk]; exact hlt) (by rw [hk]; exact hkn) (by rw [hk, mt_len a q hcl]; exact hap) hu q1 ?_ e2 e3
          rw [hk, ← hsl]; exact e1
        have z := k (by rw [hu.2.2.1]; exact h1) (by rw [hu.2.2.2.1]; exact h2) H' (locs ++ [⟨base + o, f.slot⟩]) rs hH' (fun u hu' => by rw [e3 u (by omega)]; exact hF u hu') (fun u hu' => by
          rcases List.mem_append.mp hu' with h9 | h9
          · exact hL u h9
          · rw [List.mem_singleton.mp h9]; exact Nat.le_add_right _ _) hS
        rw [hu.2.2.1, hu.2.2.2.1] at z
        exact z
      rcases hfin with hfin | ⟨hfin, hini, hdecl⟩
      · unfold u_lay at hlay
        rw [if_neg (by rw [hfin]; decide)] at hlay
        have h6 := u_store (v := ms_v base xt x) hfc hkC hkind hlay hi hpd hnar hfit
        exact W.putK hx hb (f := f) ⟨hown, hts _ hfl, ⟨_, _, _, hi⟩, hst⟩ (by rw [q2, hk]; exact h6) q1 q3 hslot rfl rfl hd fin
      · unfold u_lay at hlay
        rw [if_pos hfin] at hlay
        have hcf : m.cls = cf := by
          obtain ⟨_, _, c', _, _, _, -, -, hf', -, -, -, hown2, -⟩ := Cond.laysFinal_spec hlay
          have e1 : c' = cf := by have := hi.symm.trans hf'; simp at this; exact this.1.symm
          rw [hdecl] at hown2
          rw [← e1]; exact Option.some.inj (hown.symm.trans hown2)
        have h6 := u_fits (v := ms_v base xt x) hfc hkC hkind (Or.inr hlay) hi hpd hnar hfit
        exact W.putFinK hx hb hown (hts _ hfl) hi hst hcf (hnm hini) (by rw [q2, hk]; exact h6) q1 q3 hslot rfl rfl hd fin
    next => cases hs
  next => cases hs
end MSP
