/-! THE CLAIM OUT OF ONE WALK OF THE LAW'S BODY. Your part is whole_start (and what it stands on); all else here is the same for every law, but numbers. -/
def R_law : String := "InvariantDeskLaw"
def lw_P (b : Addr) (xs : List Int32) (args : Array Value) (s : State) : Prop := args = #[.ref b] ∧ s.IntsAt b xs ∧ xs.length ≤ 4096 ∧ (Jvm.Cond.and given_1 narrow_1).before args s = true
def lw_Q (_ : Array Value) (s : State) (o : Outcome) (t : State) : Prop := o = .returned (some (.int 1)) ∧ Framed s o t [] 600000 7302250
def lw_Z (below : List Frame) (a : Array Value) (s : State) : State → Prop := fun t => ∃ o, t.status = .running ∧ Ended t below o ∧ lw_Q a s o t
/-- the law's own end, with 1 on the stack, nothing written that was there before, its room as the claim has it -/
theorem lw_ret {p : Program} {l : Launch} {e : Env} {s : State} {m : MethodId} {below : List Frame} {meth : Method} {c : Code} {b : Nat} (hx : p.tables.exec = Jvm.exec) (hb : c.code = code) (hr : meth.sig.returnType = ret) (hlocks : meth.locks = false) {pc : Nat} {H : Heap} {ls : Array Slot} (hdg : decode code pc = .ok (.ireturn, 1)) : W p l e room_1 s m #[Value.ref b] below meth c H [] 600000 7302250 (lw_Z below #[Value.ref b] s) (F0 m pc ls [.int 1]) := by
  intro T hT X
  obtain ⟨fs, hret, hrun, hended, hW, hframe⟩ := X.leave (v := some (.int 1)) (hlocks := hlocks) (fun h => by rw [hr] at h; cases h)
  have hmeth' : T.vm.method? m = some meth := X.method'
  refine ⟨T.setFrames fs, ?_, .returned (some (.int 1)), hrun, hended, rfl, ⟨_, rfl⟩, hW, hframe⟩
  jvm_step X.here [X.here.top, hx, hb, hdg, hmeth', hr, ret, narrow_b1]
  (try refine ⟨rfl, ?_⟩); (try refine ⟨rfl, ?_⟩)
  first | (intro acts; rw [hret _ acts rfl rfl rfl]) | rw [hret _ _ rfl rfl rfl]
  exact Steps.refl _
/-- what holds at the law's entry: the machine, the code, the tables' words (any of lw_tbl by 'hts w (by decide +kernel)'), the script of L ints xs at the cell b, what the Statement gives of the start (any of its parts by flat_of_before) -/
def lw_At (p : Program) (s : State) (m : MethodId) (meth : Method) (c : Code) (b L : Nat) (xs : Nat → Int32) : Prop :=
  p.tables.exec = Jvm.exec ∧ c.code = code ∧ meth.sig.returnType = ret ∧ c.maxLocals = 4 ∧ s.vm.findClass R_law = some m.cls ∧ (∀ w ∈ lw_tbl, w.before #[Value.ref b] s = true) ∧ va_X b L xs s s.heap ∧ b < s.heap.size ∧ meth.locks = false ∧ (Jvm.Cond.and given_1 narrow_1).before #[Value.ref b] s = true
/-! THE LAW, run by the small machine: its script is the cell that the machine knows by number 8 -/
def ml_y : Nat := 406
def ml_step (L : Nat) (xs : Nat → Int32) (pc : Nat) (ls : me_L) (st : List Value) (h : mh_H) : Option me_R := match mc_P ml_y pc with
  | some (.iaload, _) => match st with
    | .int i :: .retAddr x :: r => me_1 (me_go (pc + 1) ls (.int (xs i.toNatClampNeg) :: r) h) (decide (x = 8) && (decide (0 ≤ i) && decide (i.toNatClampNeg < L)))
    | _ => none
  | some (.arraylength, _) => match st with
    | .retAddr x :: r => me_1 (me_go (pc + 1) ls (.int (Int32.ofNat L) :: r) h) (decide (x = 8))
    | _ => none
  | some _ => mm_step mc_P ml_y pc ls st h
  | none => none
def ml_run (L : Nat) (xs : Nat → Int32) : Nat → Nat → Nat → me_L → List Value → mh_H → Option (Option Value × mh_H)
  | 0, _, _, _, _, _ => none
  | n + 1, d, pc, ls, st, h => match ml_step L xs pc ls st h with
    | some (.inl (pc', ls', st', h')) => ml_run L xs n d pc' ls' st' h'
    | some (.inr (.inr r)) => some (r, h)
    | some (.inr (.inl (y', args, rest))) => match d, decide ((args.map fun v => v.category).sum ≤ mc_nl y') with
      | d' + 1, true => match mm_run mc_P mc_nl n d' y' 0 (me_en (mc_nl y') args) [] h with
        | some (r, h') => ml_run L xs n (d' + 1) (pc + 3) ls (r.toList ++ rest) h'
        | none => none
      | _, _ => none
    | none => none
theorem ml_mo (L : Nat) (xs : Nat → Int32) (pc : Nat) (ls : me_L) (st : List Value) (h : mh_H) : me_mo h (ml_step L xs pc ls st h) := by
  unfold ml_step
  split
  · split
    · exact me_mo_1 me_mo_same
    · exact me_mo_none
  · split
    · exact me_mo_1 me_mo_same
    · exact me_mo_none
  · unfold mm_step
    split
    · exact mm_ins_mo _ _ _ _ _ _ _ _
    · exact me_mo_none
  · exact me_mo_none
theorem ml_mono (L : Nat) (xs : Nat → Int32) : ∀ (n d pc : Nat) (ls : me_L) (st : List Value) (h : mh_H) (r : Option Value) (h' : mh_H), ml_run L xs n d pc ls st h = some (r, h') → mh_n h ≤ mh_n h' ∧ mh_s h ≤ mh_s h' := by
  intro n
  induction n with
  | zero => intro d pc ls st h r h' e; cases e
  | succ n ih =>
    intro d pc ls st h r h' e
    unfold ml_run at e
    split at e
    next pc1 ls1 st1 h1 hst =>
      obtain ⟨a1, a2⟩ := ih _ _ _ _ _ _ _ e
      obtain ⟨b1, b2⟩ := ml_mo L xs pc ls st h _ _ _ _ hst
      exact ⟨Nat.le_trans b1 a1, Nat.le_trans b2 a2⟩
    next r1 hst =>
      cases e
      exact ⟨Nat.le_refl _, Nat.le_refl _⟩
    next y' args rest hst =>
      split at e
      next d1 hdec =>
        split at e
        next r2 h2 hr =>
          obtain ⟨a1, a2⟩ := mm_mono mc_P mc_nl _ _ _ _ _ _ _ _ _ hr
          obtain ⟨b1, b2⟩ := ih _ _ _ _ _ _ _ e
          exact ⟨Nat.le_trans a1 b1, Nat.le_trans a2 b2⟩
        next => cases e
      next => cases e
    next => cases e
section MLW
variable {p : Program} {l : Launch} {e : Env} {R : Room} {s : State} {m : MethodId} {args : Array Value} {below : List Frame} {meth : Method} {c : Code} {D : va_G} {cA : Nat → ClassId} {base n0 s0 : Nat} {xt : Nat → Option Nat} {Q : State → Prop}
/-- a step of the law that goes on -/
theorem ml_on {L b : Nat} {xs : Nat → Int32} {pc pc' : Nat} {ls ls' : me_L} {st st' : List Value} {h h' : mh_H} (hX : mx_ok base xt s) (hb8 : xt 8 = some b) (hS0 : va_X b L xs s s.heap) (hbl : b < s.heap.size) (hbb : b < base) (E : ms_E p s m args meth c mc_M ml_y D cA) (hR : 1 ≤ R.frames ∧ 40 ≤ R.locals) (hs : ml_step L xs pc ls st h = some (.inl (pc', ls', st', h'))) (hR1 : mh_n h' - n0 ≤ R.cells) (hR2 : mh_s h' - s0 ≤ R.slots) (k : ms_W p l e R s m args below meth c D cA base xt n0 s0 (mc_M ml_y).2.2.1 Q pc' ls' st' h') : ms_W p l e R s m args below meth c D cA base xt n0 s0 (mc_M ml_y).2.2.1 Q pc ls st h := by
  have h8 : ms_v base xt (.retAddr 8) = .ref b := by show va_rf (xt 8) = _; rw [hb8]; rfl
  unfold ml_step at hs
  split at hs
  next w hP =>
    obtain ⟨len, a, b9, v⟩ := w
    obtain ⟨hd, hlen, -⟩ := mc_ok _ _ _ _ _ _ _ hP
    have hlen : len = 1 := hlen
    subst hlen
    obtain ⟨hx, hb, hml, hown, hts, hK, hr, hlk, hnm⟩ := E
    split at hs
    next i x r =>
      obtain ⟨hc, hs⟩ := me_1_some hs
      cases hs
      simp only [Bool.and_eq_true, decide_eq_true_eq] at hc
      obtain ⟨rfl, hi0, hiL⟩ := hc
      intro h1 h2 H locs rs hH hF hL hS
      have kk := k h1 h2 H locs rs hH hF hL hS
      rw [List.map_cons, List.map_cons, h8]
      exact va_sld (A := mx_A base) hx hb hS0 hbl (Nat.not_le.mpr hbb) (mx_S (n := n0) h1.2 (by rw [hH.1]; omega) hF hL) (fun z => z.elim (fun z => absurd hi0 (Int32.not_le.mpr z)) (fun z => absurd hiL (Nat.not_lt.mpr z))) hd kk
    next => cases hs
  next w hP =>
    obtain ⟨len, a, b9, v⟩ := w
    obtain ⟨hd, hlen, -⟩ := mc_ok _ _ _ _ _ _ _ hP
    have hlen : len = 1 := hlen
    subst hlen
    obtain ⟨hx, hb, hml, hown, hts, hK, hr, hlk, hnm⟩ := E
    split at hs
    next x r =>
      obtain ⟨hc, hs⟩ := me_1_some hs
      cases hs
      have hc := of_decide_eq_true hc
      subst hc
      intro h1 h2 H locs rs hH hF hL hS
      have kk := k h1 h2 H locs rs hH hF hL hS
      rw [List.map_cons, h8]
      exact va_slen (A := mx_A base) hx hb hS0 hbl (Nat.not_le.mpr hbb) (mx_S (n := n0) h1.2 (by rw [hH.1]; omega) hF hL) hd kk
    next => cases hs
  next => exact ms_on mc_ok hX E rfl hR hs hR1 hR2 k
  next => cases hs
theorem ml_main {L b : Nat} {xs : Nat → Int32} (hX : mx_ok base xt s) (hb8 : xt 8 = some b) (hS0 : va_X b L xs s s.heap) (hbl : b < s.heap.size) (hbb : b < base) (E : ms_E p s m args meth c mc_M ml_y D cA) : ∀ (n d pc : Nat) (ls : me_L) (st : List Value) (h : mh_H) (r : Option Value) (h' : mh_H), ml_run L xs n d pc ls st h = some (r, h') →
    d + 1 ≤ R.frames → 41 * (d + 1) ≤ R.locals → mh_n h' - n0 ≤ R.cells → mh_s h' - s0 ≤ R.slots → (∀ (pc : Nat) (ls : me_L) (st : List Value), mm_step mc_P ml_y pc ls st h' = some (.inr (.inr r)) → ms_W p l e R s m args below meth c D cA base xt n0 s0 (mc_M ml_y).2.2.1 Q pc ls st h') → ms_W p l e R s m args below meth c D cA base xt n0 s0 (mc_M ml_y).2.2.1 Q pc ls st h := by
  have hXm : ms_X base (mx_ok base xt) := fun U U' hW hq hx => mx_keep hW hq hx
  have go : ∀ {pc : Nat} {ls : me_L} {st : List Value} {h : mh_H} {z : (Nat × List Value × List Value) ⊕ Option Value}, ml_step L xs pc ls st h = some (.inr z) → mm_step mc_P ml_y pc ls st h = some (.inr z) := by
    intro pc ls st h z hs
    unfold ml_step at hs
    split at hs
    · split at hs
      · obtain ⟨_, hs⟩ := me_1_some hs
        cases hs
      · cases hs
    · split at hs
      · obtain ⟨_, hs⟩ := me_1_some hs
        cases hs
      · cases hs
    · exact hs
    · cases hs
  intro n
  induction n with
  | zero => intro d pc ls st h r h' hr; cases hr
  | succ n ih =>
    intro d pc ls st h r h' hr hR1 hR2 hc1 hc2 hret
    unfold ml_run at hr
    split at hr
    next pc1 ls1 st1 h1 hst =>
      obtain ⟨a1, a2⟩ := ml_mono L xs _ _ _ _ _ _ _ _ hr
      exact ml_on hX hb8 hS0 hbl hbb E ⟨by omega, by omega⟩ hst (by omega) (by omega) (ih _ _ _ _ _ _ _ hr hR1 hR2 hc1 hc2 hret)
    next r1 hst =>
      cases hr
      exact hret _ _ _ (go hst)
    next y' as rest hst =>
      split at hr
      next d1 hdec =>
        have hsum := of_decide_eq_true hdec
        split at hr
        next r2 h2 hr2 =>
          obtain ⟨a1, a2⟩ := mm_mono mc_P mc_nl _ _ _ _ _ _ _ _ _ hr2
          obtain ⟨b1, b2⟩ := ml_mono L xs _ _ _ _ _ _ _ _ hr
          refine ms_cl (X := mx_ok base xt) (d := d1) mc_ok (fun _ z => z) hXm E hX rfl (by omega) (by omega) (go hst) (fun hpl => ms_met hpl hsum ?_) ⟨a1, a2⟩ (by omega) (by omega) (ih _ _ _ _ _ _ _ hr hR1 hR2 hc1 hc2 hret)
          intro p e s m args below meth c E hX
          exact ms_main mc_ok (fun _ => rfl) (fun _ z => z) hXm _ _ _ _ _ _ _ _ _ hr2 (mh_n h) (mh_s h) p e s m args below meth c E hX
        next => cases hr
      next => cases hr
    next => cases hr
end MLW
/-- the empty heap -/
def mh_0 : mh_H := (fun _ => 0, fun _ => 0, fun _ _ => 0, fun _ _ => 0, fun _ _ => none, 0, 0)
/-- what is left to show of a script: the small machine runs the law to its end, with true, within the room -/
def ml_ends (L : Nat) (xs : Nat → Int32) : Prop := ∃ (n d : Nat) (h' : mh_H), ml_run L xs n d 0 (me_en 4 [.retAddr 8]) [] mh_0 = some (some (.int 1), h') ∧ d ≤ 2047 ∧ mh_n h' ≤ 600000 ∧ mh_s h' ≤ 7302000
/-- the law's walk out of the small machine's run, from a start of which the cells are known -/
theorem ml_walk {p : Program} {l : Launch} {e : Env} {s : State} {m : MethodId} {below : List Frame} {meth : Method} {c : Code} {D : va_G} {cA : Nat → ClassId} {xt : Nat → Option Nat} {b L : Nat} {xs : Nat → Int32} (C0 : lw_At p s m meth c b L xs) (hN : ∀ w ∈ ms_nl, w.before #[Value.ref b] s = true) (hK : va_K D mt_cl (ms_ty cA) s) (hX : mx_ok s.heap.size xt s) (hb8 : xt 8 = some b) (hend : ml_ends L xs) : W p l e room_1 s m #[Value.ref b] below meth c s.heap [] 0 0 (lw_Z below #[Value.ref b] s) (entryFrame m ([Value.ref b] : List Value).toArray 4) := by
  obtain ⟨hx, hb, hr, hml, hown, hts, hS0, hbl, hlocks, hgv⟩ := C0
  obtain ⟨n, d, h', hrun, hd, hn1, hn2⟩ := hend
  have E : ms_E p s m #[Value.ref b] meth c mc_M ml_y D cA := ⟨hx, hb, hml, hown, fun w hw => (List.mem_append.mp hw).elim (fun z => hts w (List.mem_filter.mp z).1) (hN w), hK, hr, hlocks, fun z => absurd z (by decide)⟩
  have hH0 : ms_H D cA s.heap.size xt mh_0 s.heap := ⟨rfl, fun a ha => absurd ha (Nat.not_lt_zero a)⟩
  have z := ml_main (l := l) (e := e) (below := below) (R := room_1) (n0 := 0) (s0 := 0) (Q := lw_Z below #[Value.ref b] s) hX hb8 hS0 hbl hbl E n d 0 _ [] mh_0 _ h' hrun (by show d + 1 ≤ 2048; omega) (by show 41 * (d + 1) ≤ 84000; omega) (by show mh_n h' - 0 ≤ 600000; omega) (by show mh_s h' - 0 ≤ 7302250; omega) (fun pc ls st hs => ?_)
  · have w := z ⟨Nat.le_refl _, Nat.le_refl _⟩ (Nat.le_refl _) s.heap [] _ hH0 (fun _ _ => rfl) (fun q hq => by cases hq) (ms_entry s.heap.size xt (as := [.retAddr 8]) (nL := 4) (by decide))
    have e8 : ([Value.retAddr 8] : List Value).map (ms_v s.heap.size xt) = [.ref b] := by
      show [va_rf (xt 8)] = _
      rw [hb8]; rfl
    rw [e8] at w
    rw [lg_entry_eq]
    exact w
  · unfold mm_step at hs
    split at hs
    next ins len a b9 v hP =>
      obtain ⟨hdc, hlen, -⟩ := mc_ok _ _ _ _ _ _ _ hP
      intro h1 h2 H locs rs hH hF hL hS
      cases ins with
      | ireturn =>
        have hlen : len = 1 := hlen
        subst hlen
        unfold mm_ins at hs
        dsimp only at hs
        split at hs
        next x =>
          obtain ⟨hc, hs⟩ := me_1_some hs
          cases hs
          refine va_forget hL (W.widen (k := 600000) (n := 7302250) (by omega) (by omega) ?_)
          exact lw_ret hx hb hr hlocks hdc
        next => cases hs
      | lreturn =>
        unfold mm_ins at hs
        dsimp only at hs
        split at hs <;> cases hs
      | areturn =>
        unfold mm_ins at hs
        dsimp only at hs
        split at hs <;> cases hs
      | return_ =>
        unfold mm_ins at hs
        dsimp only at hs
        split at hs <;> cases hs
      | _ => exact absurd hs (mm_ins_nr rfl _ _ _ _ _ _ _ _)
    next => cases hs
