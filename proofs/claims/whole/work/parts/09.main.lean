/-! THE SMALL MACHINE IS SOUND -/
theorem ms_word {args : Array Value} {s : State} (hts : ∀ w ∈ ms_tb, w.before args s = true) {w : Jvm.Cond} (hw : w ∈ ms_gw) (a' : Array Value) (U : State) (hW : s.WarmedH U.vm) : w.before a' U = true := word_at hW (good_of_word (List.mem_filter.mp hw).2) (hts w (List.mem_append_left _ hw))
def ms_R (d mc ms : Nat) : Room := { frames := d + 1, cells := mc, slots := ms, locals := 41 * (d + 1) }
/-- a method's start: its arguments, the heap, the tables, and what X says of the rest -/
def ms_Pc (D : va_G) (cA : Nat → ClassId) (base : Nat) (xt : Nat → Option Nat) (X : State → Prop) (as : List Value) (h : mh_H) : Array Value → State → Prop := fun av U => av = (as.map (ms_v base xt)).toArray ∧ ms_H D cA base xt h U.heap ∧ va_K D mt_cl (ms_ty cA) U ∧ ms_N U ∧ X U
def ms_Qc (D : va_G) (cA : Nat → ClassId) (base : Nat) (xt : Nat → Option Nat) (r : Option Value) (h' : mh_H) : Array Value → State → Outcome → State → Prop := fun _ st o t => o = .returned (r.map (ms_v base xt)) ∧ ms_H D cA base xt h' t.heap ∧ ∀ q, q < base → t.heap[q]? = st.heap[q]?
/-- what X says isn't lost by what a method does -/
def ms_X (base : Nat) (X : State → Prop) : Prop := ∀ U U' : State, U.WarmedH U'.vm → (∀ q, q < base → U'.heap[q]? = U.heap[q]?) → X U → X U'
section MSM
variable {p : Program} {l : Launch} {e : Env} {R : Room} {s : State} {m : MethodId} {args : Array Value} {below : List Frame} {meth : Method} {c : Code} {D : va_G} {cA : Nat → ClassId} {base n0 s0 nL : Nat} {xt : Nat → Option Nat} {Q : State → Prop} {M : me_M} {y : Nat}
variable {a b : Nat} {v : Int} {pc pc' : Nat} {ls ls' : me_L} {st st' : List Value} {h h' : mh_H} {X : State → Prop}
theorem mo_objinit {idx : Nat} (E : ms_E p s m args meth c M y D cA) (hnl : (M y).2.2.1 = nL) (hR : 1 ≤ R.frames ∧ 40 ≤ R.locals) (hd : decode (M y).2.1 pc = .ok (.invokespecial idx, 3)) (hq : ms_fact M y (.invokespecial idx) a b v) (hs : mm_ins (.invokespecial idx) a b v pc ls st h = some (.inl (pc', ls', st', h'))) (k : ms_W p l e R s m args below meth c D cA base xt n0 s0 nL Q pc' ls' st' h') : ms_W p l e R s m args below meth c D cA base xt n0 s0 nL Q pc ls st h := by
  obtain ⟨hx, hb, hml, hown, hts, hK, hr, hlk, hnm⟩ := E
  unfold mm_ins at hs
  dsimp only at hs
  split at hs
  · split at hs
    next x r =>
      obtain ⟨hc, hs⟩ := me_1_some hs
      have hc := of_decide_eq_true hc
      cases hs
      obtain ⟨g1, g2, g3⟩ := hq.1 rfl
      intro h1 h2 H locs rs hH hF hL hS
      refine W.objInit (a := base + x) hx hb hown (hts _ g1) (hts _ g2) (hts _ g3) rfl (hS.2.1.trans (hnl.symm.trans hml.symm)) rfl hd hR.1 ?_ (k h1 h2 H locs rs hH hF hL hS)
      rw [ms_cats]
      show 2 * 0 + _ + 12 ≤ _
      omega
    next => cases hs
  · obtain ⟨_, hs⟩ := me_1_some hs
    unfold me_cl at hs
    obtain ⟨_, hs⟩ := me_1_some hs
    cases hs
theorem mo_math {idx : Nat} (E : ms_E p s m args meth c M y D cA) (hnl : (M y).2.2.1 = nL) (hR : 1 ≤ R.frames ∧ 40 ≤ R.locals) (hd : decode (M y).2.1 pc = .ok (.invokestatic idx, 3)) (hq : ms_fact M y (.invokestatic idx) a b v) (hs : mm_ins (.invokestatic idx) a b v pc ls st h = some (.inl (pc', ls', st', h'))) (hR1 : mh_n h' - n0 ≤ R.cells) (hR2 : mh_s h' - s0 ≤ R.slots) (k : ms_W p l e R s m args below meth c D cA base xt n0 s0 nL Q pc' ls' st' h') : ms_W p l e R s m args below meth c D cA base xt n0 s0 nL Q pc ls st h := by
  obtain ⟨hx, hb, hml, hown, hts, hK, hr, hlk, hnm⟩ := id E
  obtain ⟨-, q20, q21, q22, q23, q24, q25, q30⟩ := id hq
  unfold mm_ins at hs
  dsimp only at hs
  split at hs
  · obtain ⟨_, hs⟩ := me_1_some hs
    cases hs
  · split at hs
    next z x r =>
      obtain ⟨hc, hs⟩ := me_1_some hs
      have hc := of_decide_eq_true hc
      cases hs
      obtain ⟨g1, g2, g3, g4⟩ := q20 rfl
      intro h1 h2 H locs rs hH hF hL hS
      exact va_mmin hx hb (hml.trans (hnl.trans hS.2.1.symm)) hown (hts _ g1) (hts _ g2) (hts _ g3) (hts _ g4) hR.1 (by rw [ms_cats]; omega) hR1 hR2 hd (k h1 h2 H locs rs hH hF hL hS)
    next => cases hs
  · split at hs
    next z x r =>
      obtain ⟨hc, hs⟩ := me_1_some hs
      have hc := of_decide_eq_true hc
      cases hs
      obtain ⟨g1, g2, g3, g4⟩ := q21 rfl
      intro h1 h2 H locs rs hH hF hL hS
      exact va_mmax hx hb (hml.trans (hnl.trans hS.2.1.symm)) hown (hts _ g1) (hts _ g2) (hts _ g3) (hts _ g4) hR.1 (by rw [ms_cats]; omega) hR1 hR2 hd (k h1 h2 H locs rs hH hF hL hS)
    next => cases hs
  · split at hs
    next z x r =>
      obtain ⟨hc, hs⟩ := me_1_some hs
      have hc := of_decide_eq_true hc
      cases hs
      obtain ⟨g1, g2, g3, g4⟩ := q22 rfl
      intro h1 h2 H locs rs hH hF hL hS
      exact va_mmin_long hx hb (hml.trans (hnl.trans hS.2.1.symm)) hown (hts _ g1) (hts _ g2) (hts _ g3) (hts _ g4) hR.1 (by rw [ms_cats]; omega) hR1 hR2 hd (k h1 h2 H locs rs hH hF hL hS)
    next => cases hs
  · split at hs
    next z x r =>
      obtain ⟨hc, hs⟩ := me_1_some hs
      have hc := of_decide_eq_true hc
      cases hs
      obtain ⟨g1, g2, g3, g4⟩ := q23 rfl
      intro h1 h2 H locs rs hH hF hL hS
      exact va_mmax_long hx hb (hml.trans (hnl.trans hS.2.1.symm)) hown (hts _ g1) (hts _ g2) (hts _ g3) (hts _ g4) hR.1 (by rw [ms_cats]; omega) hR1 hR2 hd (k h1 h2 H locs rs hH hF hL hS)
    next => cases hs
  · split at hs
    next n dp d sp o r =>
      obtain ⟨hc, hs⟩ := me_1_some hs
      cases hs
      simp only [Bool.and_eq_true, decide_eq_true_eq] at hc
      exact mo_copy E hnl hR hd (q30 rfl) hc.1 hc.2 k
    next => cases hs
  · split at hs
    next x r =>
      obtain ⟨hc, hs⟩ := me_1_some hs
      have hc := of_decide_eq_true hc
      cases hs
      obtain ⟨g1, g2, g3, g4⟩ := q24 rfl
      intro h1 h2 H locs rs hH hF hL hS
      exact va_mabs_long hx hb (hml.trans (hnl.trans hS.2.1.symm)) hown (hts _ g1) (hts _ g2) (hts _ g3) (hts _ g4) hR.1 (by rw [ms_cats]; omega) hR1 hR2 hd (k h1 h2 H locs rs hH hF hL hS)
    next => cases hs
  · split at hs
    next z x r =>
      obtain ⟨hc, hs⟩ := me_1_some hs
      simp only [Bool.and_eq_true, decide_eq_true_eq] at hc
      obtain ⟨hc0, hc⟩ := hc
      cases hs
      obtain ⟨g1, g2, g3, g4⟩ := q25 rfl
      intro h1 h2 H locs rs hH hF hL hS
      exact fd_W hx hb (hml.trans (hnl.trans hS.2.1.symm)) hown (hts _ g1) (hts _ g2) (hts _ g3) (hts _ g4) hR.1 (by rw [ms_cats]; omega) hR1 hR2 hc0 hd (k h1 h2 H locs rs hH hF hL hS)
    next => cases hs
  · cases hs
/-- every step that goes on within a method -/
theorem ms_on {P : me_P} (hok : ms_ok P M) (hX : mx_ok base xt s) (E : ms_E p s m args meth c M y D cA) (hnl : (M y).2.2.1 = nL) (hR : 1 ≤ R.frames ∧ 40 ≤ R.locals) (hs : mm_step P y pc ls st h = some (.inl (pc', ls', st', h'))) (hR1 : mh_n h' - n0 ≤ R.cells) (hR2 : mh_s h' - s0 ≤ R.slots) (k : ms_W p l e R s m args below meth c D cA base xt n0 s0 nL Q pc' ls' st' h') : ms_W p l e R s m args below meth c D cA base xt n0 s0 nL Q pc ls st h := by
  unfold mm_step at hs
  split at hs
  next ins len a b v hP =>
    obtain ⟨hd, hlen, hq⟩ := hok _ _ _ _ _ _ _ hP
    cases ins with
    | iconst n => subst hlen; exact mo_iconst E hd hs k
    | bipush n => subst hlen; exact mo_bipush E hd hs k
    | sipush n => subst hlen; exact mo_sipush E hd hs k
    | lconst n => subst hlen; exact mo_lconst E hd hs k
    | iload i => subst hlen; exact mo_iload E hd hs k
    | lload i => subst hlen; exact mo_lload E hd hs k
    | aload i => subst hlen; exact mo_aload E hd hs k
    | iload_n i => subst hlen; exact mo_iload_n E hd hs k
    | lload_n i => subst hlen; exact mo_lload_n E hd hs k
    | aload_n i => subst hlen; exact mo_aload_n E hd hs k
    | istore i => subst hlen; exact mo_istore E hd hs k
    | istore_n i => subst hlen; exact mo_istore_n E hd hs k
    | lstore i => subst hlen; exact mo_lstore E hd hs k
    | lstore_n i => subst hlen; exact mo_lstore_n E hd hs k
    | astore i => subst hlen; exact mo_astore E hd hs k
    | astore_n i => subst hlen; exact mo_astore_n E hd hs k
    | iinc i n => subst hlen; exact mo_iinc E hd hs k
    | iadd => subst hlen; exact mo_iadd E hd hs k
    | isub => subst hlen; exact mo_isub E hd hs k
    | imul => subst hlen; exact mo_imul E hd hs k
    | iand => subst hlen; exact mo_iand E hd hs k
    | ior => subst hlen; exact mo_ior E hd hs k
    | ixor => subst hlen; exact mo_ixor E hd hs k
    | ishl => subst hlen; exact mo_ishl E hd hs k
    | ishr => subst hlen; exact mo_ishr E hd hs k
    | iushr => subst hlen; exact mo_iushr E hd hs k
    | idiv => subst hlen; exact mo_idiv E hd hs k
    | irem => subst hlen; exact mo_irem E hd hs k
    | ladd => subst hlen; exact mo_ladd E hd hs k
    | lsub => subst hlen; exact mo_lsub E hd hs k
    | lmul => subst hlen; exact mo_lmul E hd hs k
    | land => subst hlen; exact mo_land E hd hs k
    | lor => subst hlen; exact mo_lor E hd hs k
    | lxor => subst hlen; exact mo_lxor E hd hs k
    | ldiv => subst hlen; exact mo_ldiv E hd hs k
    | lrem => subst hlen; exact mo_lrem E hd hs k
    | lshl => subst hlen; exact mo_lshl E hd hs k
    | ineg => subst hlen; exact mo_ineg E hd hs k
    | lneg => subst hlen; exact mo_lneg E hd hs k
    | lcmp => subst hlen; exact mo_lcmp E hd hs k
    | i2l => subst hlen; exact mo_i2l E hd hs k
    | l2i => subst hlen; exact mo_l2i E hd hs k
    | i2b => subst hlen; exact mo_i2b E hd hs k
    | i2c => subst hlen; exact mo_i2c E hd hs k
    | dup => subst hlen; exact mo_dup E hd hs k
    | dup2 => subst hlen; exact mo_dup2 E hd hs k
    | dup_x1 => subst hlen; exact mo_dup_x1 E hd hs k
    | pop => subst hlen; exact mo_pop E hd hs k
    | pop2 => subst hlen; exact mo_pop2 E hd hs k
    | goto off => subst hlen; exact mo_goto E hd hs k
    | ifCond q off => subst hlen; exact mo_ifCond E hd hs k
    | ifnull off => subst hlen; exact mo_ifnull E hd hs k
    | ifnonnull off => subst hlen; exact mo_ifnonnull E hd hs k
    | laload => subst hlen; exact mo_laload E hd hs k
    | aaload => subst hlen; exact mo_aaload E hd hs k
    | iastore => subst hlen; exact mo_iastore E hd hs k
    | lastore => subst hlen; exact mo_lastore E hd hs k
    | bastore => subst hlen; exact mo_bastore E hd hs k
    | aconst_null => subst hlen; exact mo_null E hd hs k
    | if_icmp q off => subst hlen; exact mo_icmp E hd hs k
    | ldc2_w idx => subst hlen; exact mo_ldc2_w E hd hq hs k
    | putfield idx => subst hlen; exact mo_putfield E hd hq hs k
    | checkcast idx => subst hlen; exact mo_checkcast E hd hq hs k
    | ldc idx => subst hlen; exact mo_ldc E hd hq hX hs k
    | ldc_w idx => subst hlen; exact mo_ldc_w E hd hq hX hs k
    | getstatic idx => subst hlen; exact mo_getstatic E hd hq hX hs k
    | getfield idx => subst hlen; exact mo_getfield E hd hq hX hs k
    | iaload => subst hlen; exact mo_iaload E hd hX hs k
    | baload => subst hlen; exact mo_baload E hd hX hs k
    | aastore => subst hlen; exact mo_aastore E hd hX hs k
    | arraylength => subst hlen; exact mo_arraylength E hd hX hs k
    | new idx => subst hlen; exact mo_new E hd hq hs hR1 hR2 k
    | newarray t => subst hlen; exact mo_newarray E hd hq hs hR1 hR2 k
    | anewarray idx => subst hlen; exact mo_anewarray E hd hq hs hR1 hR2 k
    | tableswitch df lo hi offs => exact mo_tableswitch E hd hs k
    | lookupswitch df ps => exact mo_lookupswitch E hd hs k
    | invokespecial idx => subst hlen; exact mo_objinit E hnl hR hd hq hs k
    | invokevirtual idx =>
      subst hlen
      unfold mm_ins at hs
      dsimp only at hs
      split at hs
      · obtain ⟨_, hs⟩ := me_1_some hs
        obtain ⟨_, hs⟩ := me_1_some hs
        cases hs
      · split at hs
        next o r =>
          obtain ⟨hc, hs⟩ := me_1_some hs
          cases hs
          simp only [Bool.and_eq_true, decide_eq_true_eq] at hc
          exact mo_clone E hnl hX hR hd (hq.2.2 rfl) hc.1 hc.2.1 hc.2.2.1 hc.2.2.2 hR1 hR2 k
        next => cases hs
      · obtain ⟨_, hs⟩ := me_1_some hs
        obtain ⟨_, hs⟩ := me_1_some hs
        cases hs
    | invokestatic idx => subst hlen; exact mo_math E hnl hR hd hq hs hR1 hR2 k
    | ireturn =>
      unfold mm_ins at hs
      dsimp only at hs
      split at hs
      · obtain ⟨_, hs⟩ := me_1_some hs
        cases hs
      · cases hs
    | lreturn =>
      unfold mm_ins at hs
      dsimp only at hs
      split at hs <;> cases hs
    | areturn =>
      unfold mm_ins at hs
      dsimp only at hs
      split at hs <;> cases hs
    | return_ =>
      unfold mm_ins at hs
      dsimp only at hs
      split at hs <;> cases hs
    | _ => cases hs
  next => cases hs
/-- only these instructions return -/
def me_isret (ins : Instr) : Bool := match ins with
  | .ireturn | .lreturn | .areturn | .return_ => true
  | _ => false
def me_nr (r : Option me_R) : Prop := ∀ x, r ≠ some (.inr (.inr x))
theorem me_nr_none : me_nr none := fun _ e => by cases e
theorem me_nr_go {h : mh_H} {pc : Nat} {ls : me_L} {st : List Value} : me_nr (me_go pc ls st h) := fun _ e => by cases e
theorem me_nr_1 {r : Option me_R} {b : Bool} (k : me_nr r) : me_nr (me_1 r b) := fun x e => k x (me_1_some e).2
theorem me_nr_jp {h : mh_H} {pc : Nat} {off : Int} {ls : me_L} {st : List Value} : me_nr (me_jp pc off ls st h) := fun x e => by
  obtain ⟨_, _, z⟩ := me_jp_some e
  cases z
theorem me_nr_br {h : mh_H} {b : Bool} {pc : Nat} {off : Int} {ls : me_L} {st : List Value} : me_nr (me_br b pc off ls st h) := fun x e => by
  obtain ⟨_, _, ⟨_, z⟩ | ⟨_, z⟩⟩ := me_br_some e <;> cases z
theorem me_nr_pv {h : mh_H} {r : Option Value} {pc : Nat} {ls : me_L} {st : List Value} : me_nr (me_pv r pc ls st h) := by
  cases r with
  | none => exact me_nr_none
  | some x => exact me_nr_go
theorem me_nr_pi {h : mh_H} {r : Option Int32} {pc : Nat} {ls : me_L} {st : List Value} : me_nr (me_pi r pc ls st h) := by
  cases r with
  | none => exact me_nr_none
  | some x => exact me_nr_go
theorem me_nr_pl {h : mh_H} {r : Option Int64} {pc : Nat} {ls : me_L} {st : List Value} : me_nr (me_pl r pc ls st h) := by
  cases r with
  | none => exact me_nr_none
  | some x => exact me_nr_go
theorem me_nr_sw {h : mh_H} {r : Option Int} {pc : Nat} {ls : me_L} {st : List Value} : me_nr (me_sw r pc ls st h) := by
  cases r with
  | none => exact me_nr_none
  | some x => exact me_nr_jp
theorem me_nr_ph {r : Option mh_H} {pc : Nat} {ls : me_L} {st : List Value} : me_nr (me_ph r pc ls st) := by
  cases r with
  | none => exact me_nr_none
  | some x => exact me_nr_go
theorem me_nr_cl {y n : Nat} {st : List Value} : me_nr (me_cl y n st) := me_nr_1 fun _ e => by cases e
theorem mm_ins_nr {ins : Instr} (hi : me_isret ins = false) (a b : Nat) (v : Int) (pc : Nat) (ls : me_L) (st : List Value) (h : mh_H) : me_nr (mm_ins ins a b v pc ls st h) := by
  cases ins <;> first
    | (cases hi; done)
    | (unfold mm_ins; dsimp only; first
      | exact me_nr_none
      | exact me_nr_go
      | exact me_nr_pv
      | exact me_nr_jp
      | exact me_nr_1 me_nr_go
      | exact me_nr_1 me_nr_cl
      | (split <;> first
        | exact me_nr_none
        | exact me_nr_go
        | exact me_nr_1 me_nr_go
        | exact me_nr_1 me_nr_jp
        | exact me_nr_jp
        | exact me_nr_br
        | exact me_nr_pi
        | exact me_nr_pl
        | exact me_nr_1 me_nr_ph
        | exact me_nr_1 me_nr_cl
        | exact me_nr_cl
        | (split <;> first
            | exact me_nr_none
            | exact me_nr_jp
            | exact me_nr_sw
            | exact me_nr_go
            | exact me_nr_1 me_nr_go)))
/-- a return -/
theorem ms_rt {P : me_P} {r : Option Value} (hok : ms_ok P M) (E : ms_E p s m args meth c M y D cA) (hs : mm_step P y pc ls st h = some (.inr (.inr r))) : ms_W p l e R s m args below meth c D cA base xt n0 s0 nL (MQ below (ms_Qc D cA base xt r h) args s (mh_n h - n0) (mh_s h - s0) (fun q => base ≤ q)) pc ls st h := by
  obtain ⟨hx, hb, hml, hown, hts, hK, hr, hlk, hnm⟩ := E
  unfold mm_step at hs
  split at hs
  next ins len a b v hP =>
    obtain ⟨hd, hlen, hq⟩ := hok _ _ _ _ _ _ _ hP
    intro h1 h2 H locs rs hH hF hL hS
    cases ins with
    | ireturn =>
      subst hlen
      unfold mm_ins at hs
      dsimp only at hs
      split at hs
      next x =>
        obtain ⟨hc, hs⟩ := me_1_some hs
        cases hs
        have fin : ∀ t : State, t.heap = H → s.WarmedH t.vm → ms_Qc D cA base xt (some (.int x)) h args s (.returned (some (.int x))) t := fun t ht _ => ⟨rfl, by rw [ht]; exact hH, fun q hq => by rw [ht]; exact hF q hq⟩
        simp only [Bool.or_eq_true, Bool.and_eq_true, decide_eq_true_eq] at hc
        rcases hc with hc | ⟨hc, hv⟩ | ⟨hc, hv⟩ | ⟨hc, hv⟩
        · exact W.iret hx hb (hr.trans (hq.1 hc)) fin hL hd hlk
        · refine W.zret hx hb (hr.trans (hq.2.1 hc)) ?_ fin hL hd hlk
          rcases hv with rfl | rfl
          · exact (by decide +kernel : narrow .boolean (.int 0) = .int 0)
          · exact (by decide +kernel : narrow .boolean (.int 1) = .int 1)
        · exact W.zret hx hb (hr.trans (hq.2.2.1 hc)) hv fin hL hd hlk
        · exact W.zret hx hb (hr.trans (hq.2.2.2 hc)) hv fin hL hd hlk
      next => cases hs
    | lreturn =>
      subst hlen
      unfold mm_ins at hs
      dsimp only at hs
      split at hs
      next x =>
        cases hs
        exact W.lret hx hb (hr.trans hq) (fun t ht _ => ⟨rfl, by rw [ht]; exact hH, fun q hq => by rw [ht]; exact hF q hq⟩) hL hd hlk
      next => cases hs
    | areturn =>
      subst hlen
      obtain ⟨rt, hrt, hrt2⟩ := hq
      unfold mm_ins at hs
      dsimp only at hs
      split at hs
      next x =>
        cases hs
        exact W.aret (v := .ref (base + x)) hx hb (hr.trans hrt) hrt2 (Or.inr ⟨_, rfl⟩) (fun t ht _ => ⟨rfl, by rw [ht]; exact hH, fun q hq => by rw [ht]; exact hF q hq⟩) hL hd hlk
      next =>
        cases hs
        exact W.aret (v := .null) hx hb (hr.trans hrt) hrt2 (Or.inl rfl) (fun t ht _ => ⟨rfl, by rw [ht]; exact hH, fun q hq => by rw [ht]; exact hF q hq⟩) hL hd hlk
      next => cases hs
    | return_ =>
      subst hlen
      unfold mm_ins at hs
      dsimp only at hs
      split at hs
      · cases hs
        exact W.vret hx hb (hr.trans hq) (fun t ht _ => ⟨rfl, by rw [ht]; exact hH, fun q hq => by rw [ht]; exact hF q hq⟩) hL hd hlk
      · cases hs
    | _ => exact absurd hs (mm_ins_nr rfl _ _ _ _ _ _ _ _)
  next => cases hs
/-- only these instructions call -/
def me_isinv (ins : Instr) : Bool := match ins with
  | .invokevirtual _ | .invokestatic _ | .invokespecial _ => true
  | _ => false
def me_nc (r : Option me_R) : Prop := ∀ x, r ≠ some (.inr (.inl x))
theorem me_nc_none : me_nc none := fun _ e => by cases e
theorem me_nc_go {h : mh_H} {pc : Nat} {ls : me_L} {st : List Value} : me_nc (me_go pc ls st h) := fun _ e => by cases e
theorem me_nc_rt {r : Option Value} : me_nc (some (.inr (.inr r))) := fun _ e => by cases e
theorem me_nc_1 {r : Option me_R} {b : Bool} (k : me_nc r) : me_nc (me_1 r b) := fun x e => k x (me_1_some e).2
theorem me_nc_jp {h : mh_H} {pc : Nat} {off : Int} {ls : me_L} {st : List Value} : me_nc (me_jp pc off ls st h) := fun x e => by
  obtain ⟨_, _, z⟩ := me_jp_some e
  cases z
theorem me_nc_br {h : mh_H} {b : Bool} {pc : Nat} {off : Int} {ls : me_L} {st : List Value} : me_nc (me_br b pc off ls st h) := fun x e => by
  obtain ⟨_, _, ⟨_, z⟩ | ⟨_, z⟩⟩ := me_br_some e <;> cases z
theorem me_nc_pv {h : mh_H} {r : Option Value} {pc : Nat} {ls : me_L} {st : List Value} : me_nc (me_pv r pc ls st h) := by
  cases r with
  | none => exact me_nc_none
  | some x => exact me_nc_go
theorem me_nc_pi {h : mh_H} {r : Option Int32} {pc : Nat} {ls : me_L} {st : List Value} : me_nc (me_pi r pc ls st h) := by
  cases r with
  | none => exact me_nc_none
  | some x => exact me_nc_go
theorem me_nc_pl {h : mh_H} {r : Option Int64} {pc : Nat} {ls : me_L} {st : List Value} : me_nc (me_pl r pc ls st h) := by
  cases r with
  | none => exact me_nc_none
  | some x => exact me_nc_go
theorem me_nc_sw {h : mh_H} {r : Option Int} {pc : Nat} {ls : me_L} {st : List Value} : me_nc (me_sw r pc ls st h) := by
  cases r with
  | none => exact me_nc_none
  | some x => exact me_nc_jp
theorem me_nc_ph {r : Option mh_H} {pc : Nat} {ls : me_L} {st : List Value} : me_nc (me_ph r pc ls st) := by
  cases r with
  | none => exact me_nc_none
  | some x => exact me_nc_go
theorem mm_ins_nc {ins : Instr} (hi : me_isinv ins = false) (a b : Nat) (v : Int) (pc : Nat) (ls : me_L) (st : List Value) (h : mh_H) : me_nc (mm_ins ins a b v pc ls st h) := by
  cases ins <;> first
    | (cases hi; done)
    | (unfold mm_ins; dsimp only; first
      | exact me_nc_none
      | exact me_nc_go
      | exact me_nc_pv
      | exact me_nc_jp
      | exact me_nc_1 me_nc_go
      | (split <;> first
        | exact me_nc_none
        | exact me_nc_go
        | exact me_nc_1 me_nc_go
        | exact me_nc_1 me_nc_jp
        | exact me_nc_1 me_nc_rt
        | exact me_nc_rt
        | exact me_nc_jp
        | exact me_nc_br
        | exact me_nc_pi
        | exact me_nc_pl
        | exact me_nc_1 me_nc_ph
        | (split <;> first
            | exact me_nc_none
            | exact me_nc_jp
            | exact me_nc_sw
            | exact me_nc_go
            | exact me_nc_1 me_nc_go)))
end MSM

