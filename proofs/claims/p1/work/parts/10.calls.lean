/-! calls, and the small machine as a whole -/
section MSC
variable {p : Program} {l : Launch} {e : Env} {R : Room} {s : State} {m : MethodId} {args : Array Value} {below : List Frame} {meth : Method} {c : Code} {D : va_G} {cA : Nat → ClassId} {base n0 s0 nL : Nat} {xt : Nat → Option Nat} {Q : State → Prop} {M : me_M} {y : Nat}
variable {a b : Nat} {v : Int} {pc pc' : Nat} {ls ls' : me_L} {st st' : List Value} {h h' : mh_H} {X : State → Prop}
theorem ms_blind (hXm : ms_X base X) {as : List Value} : FrameBlind (ms_Pc D cA base xt X as h) := by
  intro av U g mk q
  obtain ⟨q1, q2, q3, q4, q5⟩ := q
  exact ⟨q1, q2, va_K.moved (u := U) (U := U.calling g mk av) (Vm.Alike.refl U.vm) q3, ms_N.warm (s := U) (U := U.calling g mk av) (State.WarmedH.refl U) q4, hXm U (U.calling g mk av) (State.WarmedH.refl U) (fun _ _ => rfl) q5⟩
theorem ms_pre {H : Heap} {as : List Value} (hXm : ms_X base X) (hK : va_K D mt_cl (ms_ty cA) s) (hN : ms_N s) (hX : X s) (hH : ms_H D cA base xt h H) (hF : ∀ q, q < base → H[q]? = s.heap[q]?) : ∀ U : State, U.heap = H → s.WarmedH U.vm → ms_Pc D cA base xt X as h (as.map (ms_v base xt)).toArray U :=
  fun U hU hW => ⟨rfl, by rw [hU]; exact hH, va_K.moved hW.alike hK, ms_N.warm hW hN, hXm s U hW (fun q hq => by rw [hU]; exact hF q hq) hX⟩
/-- a method's contract out of its walk -/
theorem ms_met {d mc ms : Nat} {as : List Value} {r : Option Value} (hpl : plainName (M y).1.cls = true) (hsum : (as.map fun v => v.category).sum ≤ (M y).2.2.1)
    (K : ∀ (p : Program) (e : Env) (s : State) (m : MethodId) (args : Array Value) (below : List Frame) (meth : Method) (c : Code), ms_E p s m args meth c M y D cA → X s → ms_W p l e (ms_R d mc ms) s m args below meth c D cA base xt (mh_n h) (mh_s h) (M y).2.2.1 (MQ below (ms_Qc D cA base xt r h') args s mc ms (fun q => base ≤ q)) 0 (me_en (M y).2.2.1 as) [] h) :
    Met l (M y).1 (ms_ws M y) (ms_R d mc ms) (ms_Pc D cA base xt X as h) (ms_Qc D cA base xt r h') mc ms (fun q => base ≤ q) := by
  refine Met.ofW (cc := (M y).2.1) (maxL := (M y).2.2.1) (ret := (M y).2.2.2) hpl rfl ?_
  intro p e s m args below meth c s₁ B hml hv
  obtain ⟨rfl, hH, hK, hN, hX⟩ := hv
  have hts0 := atoms_spec (ws := ms_ws M y) B.pre
  have hts : ∀ w ∈ ms_tb, w.before (as.map (ms_v base xt)).toArray s = true := fun w hw => (List.mem_append.mp hw).elim (fun z => hts0 w (List.mem_cons_of_mem _ z)) (fun z => hN.use z _)
  have z := K p e s m _ below meth c ⟨B.exec, B.bytes, hml, findClass_of_methodNamed B.named, hts, hK, B.returns, B.notSynchronized, fun hn => (name_of_methodNamed B.named B.method).1.trans hn⟩ hX ⟨Nat.le_refl _, by rw [hH.1]; exact Nat.le_refl _⟩ (Nat.le_refl _) s.heap [] _ hH (fun _ _ => rfl) (fun q hq => by cases hq) (ms_entry base xt hsum)
  rw [Nat.sub_self, Nat.sub_self] at z
  rw [lg_entry_eq]
  exact z
theorem ms_CB {own : String} {idx n d mc ms : Nat} (hts : ∀ w ∈ ms_tb, w.before args s = true) (hcal : ms_callee M a n) (hl : Jvm.Cond.methodLink own idx (M a).1 ∈ ms_tb) (hR1 : d + 2 ≤ R.frames) (hR2 : 41 * (d + 2) ≤ R.locals) : CallB R s args own idx (M a).1 (M a).2.1 (M a).2.2.1 (M a).2.2.2 (ms_ws M a) (ms_R d mc ms) mc ms n := by
  obtain ⟨c1, c2, c3, c4, c5, c6, c7⟩ := hcal
  refine ⟨rfl, rfl, hR1, ?_, ?_, List.mem_cons_self, hts _ (List.mem_append_left _ c1), hts _ c2, ⟨c3, c4⟩, fun sig hsg => ?_, hts _ hl⟩
  · show 8 + ((M a).2.2.1 + 11) + 41 * (d + 1) ≤ _
    omega
  · intro w hw a' U hW
    rcases List.mem_cons.mp hw with rfl | hw
    · exact ms_word hts c1 a' U hW
    · exact ms_word hts hw a' U hW
  · rw [hsg] at c5
    exact (Option.some.inj c5).symm
theorem ms_CN {own host : String} {idx n d mc ms : Nat} (hts : ∀ w ∈ ms_tb, w.before args s = true) (hcal : ms_callee M a n) (hl : Jvm.Cond.methodLinkNest own idx (M a).1 host ∈ ms_tb) (hR1 : d + 2 ≤ R.frames) (hR2 : 41 * (d + 2) ≤ R.locals) : va_CN R s args own idx (M a).1 host (M a).2.1 (M a).2.2.1 (M a).2.2.2 (ms_ws M a) (ms_R d mc ms) mc ms n := by
  obtain ⟨c1, c2, c3, c4, c5, c6, c7⟩ := hcal
  refine ⟨⟨rfl, rfl, hR1, ?_, ?_, List.mem_cons_self⟩, hts _ (List.mem_append_left _ c1), hts _ c2, ⟨c3, c4⟩, fun sig hsg => ?_, hts _ hl⟩
  · show 8 + ((M a).2.2.1 + 11) + 41 * (d + 1) ≤ _
    omega
  · intro w hw a' U hW
    rcases List.mem_cons.mp hw with rfl | hw
    · exact ms_word hts c1 a' U hW
    · exact ms_word hts hw a' U hW
  · rw [hsg] at c5
    exact (Option.some.inj c5).symm
/-- behind a call -/
theorem ms_after {H : Heap} {locs : List Loc} {rs : Array Slot} {st0 rest : List Value} {r2 : Option Value} {h2 : mh_H} {av : Array Value} (hrun : va_Run p l e R s m args below meth c H locs (mh_n h - n0) (mh_s h - s0) (mh_n h2 - mh_n h) (mh_s h2 - mh_s h) (F0 m pc rs st0) (rest.map (ms_v base xt)) (ms_Qc D cA base xt r2 h2 av) (fun q => base ≤ q)) (hn : n0 ≤ mh_n h ∧ s.heap.size ≤ base + n0) (hs : s0 ≤ mh_s h) (hm : mh_n h ≤ mh_n h2 ∧ mh_s h ≤ mh_s h2) (hF : ∀ q, q < base → H[q]? = s.heap[q]?) (hL : ∀ q ∈ locs, base ≤ q.base) (hS : ms_L base xt nL ls rs) (k : ms_W p l e R s m args below meth c D cA base xt n0 s0 nL Q (pc + 3) ls (r2.toList ++ rest) h2) : W p l e R s m args below meth c H locs (mh_n h - n0) (mh_s h - s0) Q (F0 m pc rs st0) := by
  intro T hT XX
  obtain ⟨v, st₀, t, T', L, h0, X', hL', e1, e2, ⟨hv, hH2, hF2⟩, stp⟩ := hrun T hT XX
  have hv' : v = r2.map (ms_v base xt) := by cases hv; rfl
  have z := k ⟨Nat.le_trans hn.1 hm.1, hn.2⟩ (Nat.le_trans hs hm.2) T'.heap (locs ++ L) rs (by rw [e1]; exact hH2) (fun q hq => by rw [e1, hF2 q hq, h0]; exact hF q hq) (fun q hq => (List.mem_append.mp hq).elim (hL q) (hL' q)) hS
  have c1 : mh_n h2 - n0 = (mh_n h - n0) + (mh_n h2 - mh_n h) := by omega
  have c2 : mh_s h2 - s0 = (mh_s h - s0) + (mh_s h2 - mh_s h) := by omega
  rw [c1, c2] at z
  obtain ⟨t2, a1, b1⟩ := z T' rfl X'
  refine ⟨t2, stp t2 ?_, b1⟩
  have es : v.toList ++ rest.map (ms_v base xt) = (r2.toList ++ rest).map (ms_v base xt) := by
    rw [hv', List.map_append]
    cases r2 <;> rfl
  show Steps _ _ _ (T'.setTop (F0 m (pc + 3) rs (v.toList ++ rest.map (ms_v base xt)))) t2
  rw [es]
  exact a1
theorem me_take {st : List Value} {n : Nat} {rv : Value} (h1 : 1 ≤ n) (hr : st[n - 1]? = some rv) : ∃ As : List Value, (st.take n).reverse = rv :: As ∧ st = As.reverse ++ rv :: st.drop n ∧ As.length = n - 1 := by
  have hlt : n - 1 < st.length := (List.getElem?_eq_some_iff.mp hr).1
  have e : st.take n = st.take (n - 1) ++ [rv] := by
    have e1 : n = n - 1 + 1 := by omega
    rw [e1, List.take_succ, Nat.add_sub_cancel, hr]
    rfl
  refine ⟨(st.take (n - 1)).reverse, by rw [e, List.reverse_append]; rfl, ?_, by rw [List.length_reverse, List.length_take]; omega⟩
  rw [List.reverse_reverse]
  have := (List.take_append_drop n st).symm
  rw [e, List.append_assoc] at this
  exact this
theorem me_xc_ref {x : Option Value} (hc : me_xc x = true) : ∃ z, x = some (.retAddr z) ∧ me_xs z = true := by
  match x, hc with
  | some (.retAddr z), hc => exact ⟨z, rfl, hc⟩
theorem me_rc_ref {h : mh_H} {x : Option Value} {ci : Nat} (hc : me_rc h x ci = true) : ∃ rcv, x = some (.ref rcv) ∧ rcv < mh_n h ∧ mh_k h rcv = ci ∧ ci < 100 := by
  match x, hc with
  | some (.ref rcv), hc => exact ⟨rcv, rfl, by simpa [me_rc] using hc⟩
theorem me_isr_ref {x : Option Value} (hc : me_isr x = true) : ∃ rcv, x = some (.ref rcv) := by
  match x, hc with
  | some (.ref rcv), _ => exact ⟨rcv, rfl⟩
/-- every call -/
theorem ms_cl {P : me_P} {y' d : Nat} {as rest : List Value} {r2 : Option Value} {h2 : mh_H} (hok : ms_ok P M) (hXo : ∀ U, X U → mx_ok base xt U) (hXm : ms_X base X) (E : ms_E p s m args meth c M y D cA) (hX : X s) (hnl : (M y).2.2.1 = nL) (hR1 : d + 2 ≤ R.frames) (hR2 : 41 * (d + 2) ≤ R.locals) (hs : mm_step P y pc ls st h = some (.inr (.inl (y', as, rest))))
    (hM : plainName (M y').1.cls = true → Met l (M y').1 (ms_ws M y') (ms_R d (mh_n h2 - mh_n h) (mh_s h2 - mh_s h)) (ms_Pc D cA base xt X as h) (ms_Qc D cA base xt r2 h2) (mh_n h2 - mh_n h) (mh_s h2 - mh_s h) (fun q => base ≤ q)) (hm : mh_n h ≤ mh_n h2 ∧ mh_s h ≤ mh_s h2) (hc1 : mh_n h2 - n0 ≤ R.cells) (hc2 : mh_s h2 - s0 ≤ R.slots)
    (k : ms_W p l e R s m args below meth c D cA base xt n0 s0 nL Q (pc + 3) ls (r2.toList ++ rest) h2) : ms_W p l e R s m args below meth c D cA base xt n0 s0 nL Q pc ls st h := by
  obtain ⟨hx, hb, hml, hown, hts, hK, hr, hlk, hnm⟩ := E
  have hN : ms_N s := ms_N.of fun w hw => hts w (List.mem_append_right _ hw)
  unfold mm_step at hs
  split at hs
  next ins len a b v hP =>
    obtain ⟨hd, hlen, hq⟩ := hok _ _ _ _ _ _ _ hP
    intro h1 hh2 H locs rs hH hF hL hS
    have hf : mh_n h - n0 + (mh_n h2 - mh_n h) ≤ R.cells ∧ mh_s h - s0 + (mh_s h2 - mh_s h) ≤ R.slots := ⟨by omega, by omega⟩
    have hsz : rs.size = c.maxLocals := hS.2.1.trans (hnl.symm.trans hml.symm)
    by_cases hi : me_isinv ins = true
    · cases ins with
      | invokevirtual idx =>
        subst hlen
        unfold mm_ins at hs
        dsimp only at hs
        split at hs
        · obtain ⟨hc, hs⟩ := me_1_some hs
          obtain ⟨hc3, hs⟩ := me_1_some hs
          simp only [Bool.and_eq_true, decide_eq_true_eq] at hc hc3
          obtain ⟨x, hxc, hxs⟩ := me_xc_ref hc.1
          obtain ⟨j, hj, hjx⟩ := me_xs_some hxs
          obtain ⟨g1, g2, g3, g4, g5⟩ := hq.2.1 rfl
          obtain ⟨As, t1, t2, t3⟩ := me_take hc.2 hxc
          rw [t1] at hs
          cases hs
          obtain ⟨tt, bb, e1, e2, e3, -⟩ := (hXo s hX).1 j hj
          have hxt : ms_v base xt (.retAddr x) = .ref tt := by show va_rf (xt x) = _; rw [hjx, e1]; rfl
          have hst : st.map (ms_v base xt) = (As.map (ms_v base xt)).reverse ++ .ref tt :: (st.drop v.toNat).map (ms_v base xt) := by
            conv => lhs; rw [t2]
            rw [List.map_append, List.map_reverse, List.map_cons, hxt]
          obtain ⟨cell, v1, v2, v3, -⟩ := e3.kept (mx_S (n := n0) h1.2 (by rw [hH.1]; omega) hF hL).2.1
          have hpc : (Value.ref tt :: As.map (ms_v base xt)) = (Value.retAddr x :: As).map (ms_v base xt) := by rw [List.map_cons, hxt]
          refine ms_after (va_runV (As := As.map (ms_v base xt)) ⟨hx, hb, rfl, hown, hts⟩ (hM g1.2.2.2.2.2.2) ⟨ms_CB hts g1 g2 hR1 hR2, hts _ g3, hts _ g4⟩ ⟨ms_blind hXm, ⟨cell, v1, v2, by rw [g5]; exact v3⟩, by rw [hpc]; exact ms_pre (as := .retAddr x :: As) hXm hK hN hX hH hF⟩ rfl (by rw [List.length_map]; exact t3) hsz hst ?_ hd hf) h1 hh2 hm hF hL hS k
          rw [ms_cats]
          show 2 * 0 + _ ≤ 8
          omega
        · split at hs
          · obtain ⟨_, hs⟩ := me_1_some hs
            cases hs
          · cases hs
        obtain ⟨hc, hs⟩ := me_1_some hs
        obtain ⟨hc3, hs⟩ := me_1_some hs
        simp only [Bool.and_eq_true, decide_eq_true_eq] at hc hc3
        obtain ⟨rcv, hrc, hrn, hrk, hr100⟩ := me_rc_ref hc.1
        obtain ⟨g1, g2, g3, g4, q, g5, g6⟩   := hq.1 (by rw [← hrk]; exact ((hH.2 rcv hrn).1 (by rw [hrk]; exact hr100)).1)
        obtain ⟨As, t1, t2, t3⟩ := me_take hc.2 hrc
        rw [t1] at hs
        cases hs
        have hst : st.map (ms_v base xt) = (As.map (ms_v base xt)).reverse ++ .ref (base + rcv) :: (st.drop v.toNat).map (ms_v base xt) := by
          conv => lhs; rw [t2]
          rw [List.map_append, List.map_reverse]
          rfl
        obtain ⟨-, cell, v1, v2, v3, -⟩ := (hH.2 rcv hrn).1 (by rw [hrk]; exact hr100)
        rw [hrk] at v2
        refine ms_after (va_runV (As := As.map (ms_v base xt)) ⟨hx, hb, rfl, hown, hts⟩ (hM g1.2.2.2.2.2.2) ⟨ms_CB hts g1 g2 hR1 hR2, hts _ g3, hts _ g4⟩ ⟨ms_blind hXm, ⟨cell, v1, by rw [v3]; rfl, by rw [← g6, v2]; exact (hK.1 b q g5).2.1⟩, ms_pre (as := .ref rcv :: As) hXm hK hN hX hH hF⟩ rfl (by rw [List.length_map]; exact t3) hsz hst ?_ hd hf) h1 hh2 hm hF hL hS k
        rw [ms_cats]
        show 2 * 0 + _ ≤ 8
        omega
      | invokestatic idx =>
        subst hlen
        unfold mm_ins at hs
        dsimp only at hs
        split at hs
        rotate_left
        all_goals try (first | (cases hs; done) | (split at hs <;> first | (cases hs; done) | (obtain ⟨_, hs⟩ := me_1_some hs; cases hs; done)))
        obtain ⟨hc3, hs⟩ := me_1_some hs
        simp only [Bool.and_eq_true, decide_eq_true_eq] at hc3
        obtain ⟨g1, g2, g3⟩ := hq.1 rfl
        cases hs
        have hst : st.map (ms_v base xt) = ((st.take v.toNat).reverse.map (ms_v base xt)).reverse ++ (st.drop v.toNat).map (ms_v base xt) := by
          rw [← List.map_reverse, List.reverse_reverse, ← List.map_append, List.take_append_drop]
        refine ms_after (va_runS (As := (st.take v.toNat).reverse.map (ms_v base xt)) ⟨hx, hb, rfl, hown, hts⟩ (hM g1.2.2.2.2.2.2) ⟨ms_CB hts g1 g2 hR1 hR2, hts _ g3⟩ ⟨ms_blind hXm, ms_pre hXm hK hN hX hH hF⟩ rfl (by rw [List.length_map, List.length_reverse, List.length_take]; omega) hsz hst ?_ hd hf) h1 hh2 hm hF hL hS k
        rw [ms_cats]
        show 2 * 0 + _ ≤ 8
        omega
      | invokespecial idx =>
        subst hlen
        unfold mm_ins at hs
        dsimp only at hs
        split at hs
        · split at hs
          · obtain ⟨_, hs⟩ := me_1_some hs
            cases hs
          · cases hs
        next hb1 =>
          obtain ⟨g1, g2, g3, g4, g5⟩ := hq.2 hb1
          obtain ⟨hc, hs⟩ := me_1_some hs
          obtain ⟨hc3, hs⟩ := me_1_some hs
          simp only [Bool.and_eq_true, decide_eq_true_eq] at hc hc3
          obtain ⟨rcv, hrc⟩ := me_isr_ref hc.1
          obtain ⟨As, t1, t2, t3⟩ := me_take hc.2 hrc
          rw [t1] at hs
          cases hs
          have hst : st.map (ms_v base xt) = (As.map (ms_v base xt)).reverse ++ .ref (base + rcv) :: (st.drop v.toNat).map (ms_v base xt) := by
            conv => lhs; rw [t2]
            rw [List.map_append, List.map_reverse]
            rfl
          have hW : 2 * (F0 m pc rs (st.map (ms_v base xt))).monitorRoom + (((st.drop v.toNat).map (ms_v base xt)).map fun v => v.category).sum ≤ 8 := by
            rw [ms_cats]
            show 2 * 0 + _ ≤ 8
            omega
          rcases g5 with ⟨-, g5⟩ | ⟨host, -, g5⟩
          · have cb := ms_CB (mc := mh_n h2 - mh_n h) (ms := mh_s h2 - mh_s h) hts g1 g5 hR1 hR2
            rw [g3] at cb
            exact ms_after (va_runI (As := As.map (ms_v base xt)) ⟨hx, hb, rfl, hown, hts⟩ (hM g1.2.2.2.2.2.2) ⟨cb, g2, hts _ g4⟩ ⟨ms_blind hXm, ms_pre (as := .ref rcv :: As) hXm hK hN hX hH hF⟩ rfl (by rw [List.length_map]; exact t3) hsz hst hW hd hf) h1 hh2 hm hF hL hS k
          · have cb := ms_CN (mc := mh_n h2 - mh_n h) (ms := mh_s h2 - mh_s h) hts g1 g5 hR1 hR2
            rw [g3] at cb
            exact ms_after (va_runIN (As := As.map (ms_v base xt)) ⟨hx, hb, rfl, hown, hts⟩ (hM g1.2.2.2.2.2.2) ⟨cb, g2, hts _ g4⟩ ⟨ms_blind hXm, ms_pre (as := .ref rcv :: As) hXm hK hN hX hH hF⟩ rfl (by rw [List.length_map]; exact t3) hsz hst hW hd hf) h1 hh2 hm hF hL hS k
      | _ => cases hi
    · exact absurd hs (mm_ins_nc (by simpa using hi) _ _ _ _ _ _ _ _)
  next => cases hs
/-- THE SMALL MACHINE IS SOUND: where it ends, the real one does, with what stands for its answer and its heap -/
theorem ms_main {P : me_P} {nl : Nat → Nat} (hok : ms_ok P M) (hnl : ∀ y, nl y = (M y).2.2.1) (hXo : ∀ U, X U → mx_ok base xt U) (hXm : ms_X base X) : ∀ (n d y pc : Nat) (ls : me_L) (st : List Value) (h : mh_H) (r : Option Value) (h' : mh_H), mm_run P nl n d y pc ls st h = some (r, h') →
    ∀ (n0 s0 : Nat) (p : Program) (e : Env) (s : State) (m : MethodId) (args : Array Value) (below : List Frame) (meth : Method) (c : Code), ms_E p s m args meth c M y D cA → X s → ms_W p l e (ms_R d (mh_n h' - n0) (mh_s h' - s0)) s m args below meth c D cA base xt n0 s0 (M y).2.2.1 (MQ below (ms_Qc D cA base xt r h') args s (mh_n h' - n0) (mh_s h' - s0) (fun q => base ≤ q)) pc ls st h := by
  intro n
  induction n with
  | zero => intro d y pc ls st h r h' hr; cases hr
  | succ n ih =>
    intro d y pc ls st h r h' hr n0 s0 p e s m args below meth c E hX
    unfold mm_run at hr
    split at hr
    next pc1 ls1 st1 h1 hst =>
      obtain ⟨a1, a2⟩ := mm_mono P nl _ _ _ _ _ _ _ _ _ hr
      refine ms_on hok (hXo s hX) E rfl ⟨Nat.succ_le_succ (Nat.zero_le _), ?_⟩ hst ?_ ?_ (ih _ _ _ _ _ _ _ _ hr n0 s0 p e s m args below meth c E hX)
      · show 40 ≤ 41 * (d + 1)
        omega
      · show _ ≤ mh_n h' - n0
        omega
      · show _ ≤ mh_s h' - s0
        omega
    next r1 hst =>
      cases hr
      exact ms_rt hok E hst
    next y' as rest hst =>
      split at hr
      next d1 hdec =>
        have hsum := of_decide_eq_true hdec
        split at hr
        next r2 h2 hr2 =>
          obtain ⟨a1, a2⟩ := mm_mono P nl _ _ _ _ _ _ _ _ _ hr2
          obtain ⟨b1, b2⟩ := mm_mono P nl _ _ _ _ _ _ _ _ _ hr
          refine ms_cl (d := d1) hok hXo hXm E hX rfl (Nat.le_refl _) (Nat.le_refl _) hst (fun hpl => ms_met hpl (by rw [← hnl]; exact hsum) ?_) ⟨a1, a2⟩ ?_ ?_ (ih _ _ _ _ _ _ _ _ hr n0 s0 p e s m args below meth c E hX)
          · intro p e s m args below meth c E hX
            rw [hnl] at hr2
            exact ih _ _ _ _ _ _ _ _ hr2 (mh_n h) (mh_s h) p e s m args below meth c E hX
          · show _ ≤ mh_n h' - n0
            omega
          · show _ ≤ mh_s h' - s0
            omega
        next => cases hr
      next => cases hr
    next => cases hr
/-- the same, with any room that is enough and any end: what is to be shown is the return -/
theorem ms_mainQ {P : me_P} {nl : Nat → Nat} (hok : ms_ok P M) (hnl : ∀ y, nl y = (M y).2.2.1) (hXo : ∀ U, X U → mx_ok base xt U) (hXm : ms_X base X) : ∀ (n d y pc : Nat) (ls : me_L) (st : List Value) (h : mh_H) (r : Option Value) (h' : mh_H), mm_run P nl n d y pc ls st h = some (r, h') →
    ms_E p s m args meth c M y D cA → X s → d + 1 ≤ R.frames → 41 * (d + 1) ≤ R.locals → mh_n h' - n0 ≤ R.cells → mh_s h' - s0 ≤ R.slots → (∀ (pc : Nat) (ls : me_L) (st : List Value), mm_step P y pc ls st h' = some (.inr (.inr r)) → ms_W p l e R s m args below meth c D cA base xt n0 s0 (M y).2.2.1 Q pc ls st h') → ms_W p l e R s m args below meth c D cA base xt n0 s0 (M y).2.2.1 Q pc ls st h := by
  intro n
  induction n with
  | zero => intro d y pc ls st h r h' hr; cases hr
  | succ n ih =>
    intro d y pc ls st h r h' hr E hX hR1 hR2 hc1 hc2 hret
    unfold mm_run at hr
    split at hr
    next pc1 ls1 st1 h1 hst =>
      obtain ⟨a1, a2⟩ := mm_mono P nl _ _ _ _ _ _ _ _ _ hr
      exact ms_on hok (hXo s hX) E rfl ⟨by omega, by omega⟩ hst (by omega) (by omega) (ih _ _ _ _ _ _ _ _ hr E hX hR1 hR2 hc1 hc2 hret)
    next r1 hst =>
      cases hr
      exact hret _ _ _ hst
    next y' as rest hst =>
      split at hr
      next d1 hdec =>
        have hsum := of_decide_eq_true hdec
        split at hr
        next r2 h2 hr2 =>
          obtain ⟨a1, a2⟩ := mm_mono P nl _ _ _ _ _ _ _ _ _ hr2
          obtain ⟨b1, b2⟩ := mm_mono P nl _ _ _ _ _ _ _ _ _ hr
          refine ms_cl (d := d1) hok hXo hXm E hX rfl (by omega) (by omega) hst (fun hpl => ms_met hpl (by rw [← hnl]; exact hsum) ?_) ⟨a1, a2⟩ (by omega) (by omega) (ih _ _ _ _ _ _ _ _ hr E hX hR1 hR2 hc1 hc2 hret)
          intro p e s m args below meth c E hX
          rw [hnl] at hr2
          exact ms_main hok hnl hXo hXm _ _ _ _ _ _ _ _ _ hr2 (mh_n h) (mh_s h) p e s m args below meth c E hX
        next => cases hr
      next => cases hr
    next => cases hr
/-- a method's contract out of a run of the small machine -/
theorem ms_contract {P : me_P} {nl : Nat → Nat} (hok : ms_ok P M) (hnl : ∀ y, nl y = (M y).2.2.1) (hXo : ∀ U, X U → mx_ok base xt U) (hXm : ms_X base X) {n d y : Nat} {as : List Value} {h h' : mh_H} {r : Option Value} (hpl : plainName (M y).1.cls = true) (hsum : (as.map fun v => v.category).sum ≤ nl y) (hrun : mm_run P nl n d y 0 (me_en (nl y) as) [] h = some (r, h')) :
    Met l (M y).1 (ms_ws M y) (ms_R d (mh_n h' - mh_n h) (mh_s h' - mh_s h)) (ms_Pc D cA base xt X as h) (ms_Qc D cA base xt r h') (mh_n h' - mh_n h) (mh_s h' - mh_s h) (fun q => base ≤ q) := by
  rw [hnl] at hrun hsum
  exact ms_met hpl hsum fun p e s m args below meth c E hX => ms_main hok hnl hXo hXm _ _ _ _ _ _ _ _ _ hrun (mh_n h) (mh_s h) p e s m args below meth c E hX
end MSC
