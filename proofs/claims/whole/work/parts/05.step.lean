/-! THE SMALL MACHINE'S STEPS ARE THE REAL ONE'S -/
abbrev me_M : Type := Nat → MethodName × ByteArray × Nat × Option FieldType
/-- the words that every method has: those that the tables keep, and the others of ms_nl -/
def ms_gw : List Jvm.Cond := lw_tbl.filter goodWord
def ms_tb : List Jvm.Cond := ms_gw ++ ms_nl
def ms_ws (M : me_M) (y : Nat) : List Jvm.Cond := Jvm.Cond.code (M y).1 (M y).2.1 (M y).2.2.1 (M y).2.2.2 :: ms_gw
def ms_N (U : State) : Prop := ∀ w ∈ ms_nl, w.before #[] U = true
theorem ms_N.use {U : State} (h : ms_N U) {w : Jvm.Cond} (hw : w ∈ ms_nl) (A : Array Value) : w.before A U = true := by
  have h1 := h w hw
  rcases List.mem_append.mp hw with z | z
  · obtain ⟨q, -, rfl⟩ := List.mem_map.mp z
    exact va_Nw.use rfl h1
  · obtain ⟨C, -, rfl⟩ := List.mem_map.mp z
    exact va_AO.use h1
theorem ms_N.of {U : State} {A : Array Value} (h : ∀ w ∈ ms_nl, w.before A U = true) : ms_N U := by
  intro w hw
  have h1 := h w hw
  rcases List.mem_append.mp hw with z | z
  · obtain ⟨q, -, rfl⟩ := List.mem_map.mp z
    exact va_Nw.of rfl h1
  · obtain ⟨C, -, rfl⟩ := List.mem_map.mp z
    exact va_AO.of h1
theorem ms_N.warm {s U : State} (hW : s.WarmedH U.vm) (h : ms_N s) : ms_N U := by
  intro w hw
  have h1 := h w hw
  rcases List.mem_append.mp hw with z | z
  · obtain ⟨q, -, rfl⟩ := List.mem_map.mp z
    exact va_Nw.warmM hW h1
  · obtain ⟨C, -, rfl⟩ := List.mem_map.mp z
    exact va_AO.moved hW.alike h1
/-- what the tables say of a method that is called with n arguments behind the receiver -/
def ms_callee (M : me_M) (a n : Nat) : Prop := Jvm.Cond.code (M a).1 (M a).2.1 (M a).2.2.1 (M a).2.2.2 ∈ ms_gw ∧ Jvm.Cond.initialized (M a).1.cls ∈ ms_tb ∧ (M a).1.cls ≠ "java/lang/invoke/MethodHandle" ∧ (M a).1.cls ≠ "java/lang/invoke/VarHandle" ∧ (parseMethodDescriptor (M a).1.desc).map (fun d => d.parameters.length) = some n ∧ (M a).2.2.1 ≤ 22 ∧ plainName (M a).1.cls = true
/-- what the tables say of the clone of a row of bytes -/
def ms_clw (own : String) (idx : Nat) : Prop := Jvm.Cond.methodLink own idx ⟨"[B", "clone", "()Ljava/lang/Object;"⟩ ∈ ms_tb ∧ Jvm.Cond.sameMethod "[B" "java/lang/Object" "clone" "()Ljava/lang/Object;" ∈ ms_tb ∧ Jvm.Cond.native ⟨"java/lang/Object", "clone", "()Ljava/lang/Object;"⟩ ∈ ms_tb ∧ Jvm.Cond.instanceMethod ⟨"java/lang/Object", "clone", "()Ljava/lang/Object;"⟩ ∈ ms_tb ∧ Jvm.Cond.selects "[B" ⟨"[B", "clone", "()Ljava/lang/Object;"⟩ ⟨"java/lang/Object", "clone", "()Ljava/lang/Object;"⟩ ∈ ms_tb
/-- what the tables say of a method of java.lang.Math -/
def ms_mw (own : String) (idx : Nat) (nm : MethodName) (cd : ByteArray) (mL : Nat) (rt : FieldType) : Prop := Jvm.Cond.methodLink own idx nm ∈ ms_tb ∧ Jvm.Cond.static nm ∈ ms_tb ∧ Jvm.Cond.initialized "java/lang/Math" ∈ ms_tb ∧ Jvm.Cond.code nm cd mL (some rt) ∈ ms_tb
def ms_fact (M : me_M) (y : Nat) (ins : Instr) (a b : Nat) (v : Int) : Prop := match ins with
  | .ldc idx => (b = 0 → Jvm.Cond.constant (M y).1.cls idx (Int32.ofInt v) ∈ ms_tb) ∧ (b = 1 → ∃ tx, ((M y).1.cls, idx, tx, a) ∈ mx_lk)
  | .ldc_w idx => b = 1 → ∃ tx, ((M y).1.cls, idx, tx, a) ∈ mx_lk
  | .getstatic idx => (b = 0 → (a = 2 ∧ Jvm.Cond.fieldLink (M y).1.cls idx "InvariantDesk$State" "ROW" "[I" ∈ ms_tb) ∨ (a = 5 ∧ Jvm.Cond.fieldLink (M y).1.cls idx "jdk/internal/util/Preconditions" "SIOOBE_FORMATTER" "Ljava/util/function/BiFunction;" ∈ ms_tb)) ∧ (b = 1 → v = 1 ∧ Jvm.Cond.fieldLink (M y).1.cls idx "java/lang/String" "COMPACT_STRINGS" "Z" ∈ ms_tb)
  | .checkcast idx => a = 102 → Jvm.Cond.classLink (M y).1.cls idx "[B" ∈ ms_tb
  | .ldc2_w idx => Jvm.Cond.constantLong (M y).1.cls idx (Int64.ofInt v) ∈ ms_tb
  | .getfield idx => (a < 15 → ∃ q, mt_cl[a]? = some q ∧ Jvm.Cond.fieldLink (M y).1.cls idx (q.2.1 b).1 (q.2.1 b).2.1 (q.2.1 b).2.2.1 ∈ ms_tb) ∧ (a = 90 → (b = 0 → Jvm.Cond.fieldLink (M y).1.cls idx "java/lang/String" "coder" "B" ∈ ms_tb) ∧ (b = 1 → Jvm.Cond.fieldLink (M y).1.cls idx "java/lang/String" "value" "[B" ∈ ms_tb))
  | .putfield idx => ∃ q, mt_cl[a]? = some q ∧ Jvm.Cond.fieldLink (M y).1.cls idx (q.2.1 b).1 (q.2.1 b).2.1 (q.2.1 b).2.2.1 ∈ ms_tb ∧ ((q.2.1 b).2.2.2 = false ∨ ((q.2.1 b).2.2.2 = true ∧ (M y).1.name = "<init>" ∧ (q.2.1 b).1 = (M y).1.cls))
  | .new idx => ∃ q, mt_cl[a]? = some q ∧ Jvm.Cond.classLink (M y).1.cls idx q.1 ∈ ms_tb ∧ Jvm.Cond.instantiable q.1 q.2.2 ∈ ms_tb ∧ Jvm.Cond.initialized q.1 ∈ ms_tb
  | .newarray t => newarray.typeOf t = ms_ety a ∧ Jvm.Cond.arrayClass (ms_ety a) ∈ ms_tb
  | .anewarray idx => ∃ C, ms_ety a = .object C ∧ Jvm.Cond.classLink (M y).1.cls idx C ∈ ms_tb ∧ Jvm.Cond.arrayOver (.object C) ∈ ms_tb
  | .ireturn => (b = 0 → (M y).2.2.2 = some .int) ∧ (b = 3 → (M y).2.2.2 = some .boolean) ∧ (b = 4 → (M y).2.2.2 = some .char) ∧ (b = 5 → (M y).2.2.2 = some .byte)
  | .lreturn => (M y).2.2.2 = some .long
  | .areturn => ∃ rt, (M y).2.2.2 = some rt ∧ ((∃ n, rt = .object n) ∨ ∃ t, rt = .array t)
  | .return_ => (M y).2.2.2 = none
  | .invokevirtual idx => (b < 15 → ms_callee M a (v.toNat - 1) ∧ Jvm.Cond.methodLink (M y).1.cls idx (M a).1 ∈ ms_tb ∧ Jvm.Cond.instanceMethod (M a).1 ∈ ms_tb ∧ Jvm.Cond.selects (M a).1.cls (M a).1 (M a).1 ∈ ms_tb ∧ ∃ q, mt_cl[b]? = some q ∧ q.1 = (M a).1.cls) ∧ (b = 90 → ms_callee M a (v.toNat - 1) ∧ Jvm.Cond.methodLink (M y).1.cls idx (M a).1 ∈ ms_tb ∧ Jvm.Cond.instanceMethod (M a).1 ∈ ms_tb ∧ Jvm.Cond.selects (M a).1.cls (M a).1 (M a).1 ∈ ms_tb ∧ (M a).1.cls = "java/lang/String") ∧ (b = 91 → ms_clw (M y).1.cls idx)
  | .invokestatic idx => (b = 0 → ms_callee M a v.toNat ∧ Jvm.Cond.methodLink (M y).1.cls idx (M a).1 ∈ ms_tb ∧ Jvm.Cond.static (M a).1 ∈ ms_tb) ∧ (b = 20 → ms_mw (M y).1.cls idx Lib.Math.min.name Lib.Math.min.code 2 .int) ∧ (b = 21 → ms_mw (M y).1.cls idx Lib.Math.max.name Lib.Math.max.code 2 .int) ∧ (b = 22 → ms_mw (M y).1.cls idx Lib.MathLoose.min_long.x Lib.MathLoose.min_long.code 4 .long) ∧ (b = 23 → ms_mw (M y).1.cls idx Lib.MathLoose.max_long.x Lib.MathLoose.max_long.code 4 .long) ∧ (b = 24 → ms_mw (M y).1.cls idx Lib.MathLoose.abs_long.x Lib.MathLoose.abs_long.code 2 .long) ∧ (b = 25 → ms_mw (M y).1.cls idx fd_x fd_code 6 .long) ∧ (b = 30 → Jvm.Cond.methodLink (M y).1.cls idx arraycopyName ∈ ms_tb ∧ Jvm.Cond.native arraycopyName ∈ ms_tb ∧ Jvm.Cond.static arraycopyName ∈ ms_tb ∧ Jvm.Cond.initialized "java/lang/System" ∈ ms_tb)
  | .invokespecial idx => (b = 1 → Jvm.Cond.methodLink (M y).1.cls idx objectInit ∈ ms_tb ∧ Jvm.Cond.instanceMethod objectInit ∈ ms_tb ∧ Jvm.Cond.code objectInit ⟨#[0xb1]⟩ 1 none ∈ ms_tb) ∧ (¬ b = 1 → ms_callee M a (v.toNat - 1) ∧ (M a).1.name = "<init>" ∧ (M a).2.2.2 = none ∧ Jvm.Cond.instanceMethod (M a).1 ∈ ms_tb ∧ ((¬ b = 2 ∧ Jvm.Cond.methodLink (M y).1.cls idx (M a).1 ∈ ms_tb) ∨ ∃ host, b = 2 ∧ Jvm.Cond.methodLinkNest (M y).1.cls idx (M a).1 host ∈ ms_tb))
  | _ => True
def ms_len (ins : Instr) (len : Nat) : Prop := match ins with
  | .bipush _ | .ldc _ | .iload _ | .lload _ | .aload _ | .istore _ | .lstore _ | .astore _ | .newarray _ => len = 2
  | .sipush _ | .ldc2_w _ | .ldc_w _ | .getfield _ | .putfield _ | .getstatic _ | .new _ | .anewarray _ | .checkcast _ | .goto _ | .ifCond _ _ | .if_icmp _ _ | .ifnull _ | .ifnonnull _ | .iinc _ _ | .invokevirtual _ | .invokestatic _ | .invokespecial _ => len = 3
  | .tableswitch _ _ _ _ | .lookupswitch _ _ => True
  | _ => len = 1
def ms_ok (P : me_P) (M : me_M) : Prop := ∀ (y pc : Nat) (ins : Instr) (len a b : Nat) (v : Int), P y pc = some (ins, len, a, b, v) → decode (M y).2.1 pc = .ok (ins, len) ∧ ms_len ins len ∧ ms_fact M y ins a b v
/-- what stands fast while a method runs -/
def ms_E (p : Program) (s : State) (m : MethodId) (args : Array Value) (meth : Method) (c : Code) (M : me_M) (y : Nat) (D : va_G) (cA : Nat → ClassId) : Prop :=
  p.tables.exec = Jvm.exec ∧ c.code = (M y).2.1 ∧ c.maxLocals = (M y).2.2.1 ∧ s.vm.findClass (M y).1.cls = some m.cls ∧ (∀ w ∈ ms_tb, w.before args s = true) ∧ va_K D mt_cl (ms_ty cA) s ∧ meth.sig.returnType = (M y).2.2.2 ∧ meth.locks = false ∧ ((M y).1.name = "<init>" → meth.name = "<init>")
/-- the real machine, at what stands for a state of the small one, comes to Q -/
def ms_W (p : Program) (l : Launch) (e : Env) (R : Room) (s : State) (m : MethodId) (args : Array Value) (below : List Frame) (meth : Method) (c : Code) (D : va_G) (cA : Nat → ClassId) (base : Nat) (xt : Nat → Option Nat) (n0 s0 nL : Nat) (Q : State → Prop) (pc : Nat) (ls : me_L) (st : List Value) (h : mh_H) : Prop :=
  (n0 ≤ mh_n h ∧ s.heap.size ≤ base + n0) → s0 ≤ mh_s h → ∀ (H : Heap) (locs : List Loc) (rs : Array Slot), ms_H D cA base xt h H → (∀ q, q < base → H[q]? = s.heap[q]?) → (∀ q ∈ locs, base ≤ q.base) → ms_L base xt nL ls rs → W p l e R s m args below meth c H locs (mh_n h - n0) (mh_s h - s0) Q (F0 m pc rs (st.map (ms_v base xt)))
section MSO
variable {p : Program} {l : Launch} {e : Env} {R : Room} {s : State} {m : MethodId} {args : Array Value} {below : List Frame} {meth : Method} {c : Code} {D : va_G} {cA : Nat → ClassId} {base n0 s0 nL : Nat} {xt : Nat → Option Nat} {Q : State → Prop} {M : me_M} {y : Nat}
variable {a b : Nat} {v : Int} {pc pc' : Nat} {ls ls' : me_L} {st st' : List Value} {h h' : mh_H}

theorem mo_iconst {n : Int} (E : ms_E p s m args meth c M y D cA) (hd : decode (M y).2.1 pc = .ok (.iconst n, 1)) (hs : mm_ins (.iconst n) a b v pc ls st h = some (.inl (pc', ls', st', h'))) (k : ms_W p l e R s m args below meth c D cA base xt n0 s0 nL Q pc' ls' st' h') : ms_W p l e R s m args below meth c D cA base xt n0 s0 nL Q pc ls st h := by
  obtain ⟨hx, hb, hml, hown, hts, hK, hr, hlk, hnm⟩ := E
  cases hs
  exact fun h1 h2 H locs rs hH hF hL hS => lv_iconst hx hb hd rfl (k h1 h2 H locs rs hH hF hL hS)
theorem mo_bipush {n : Int} (E : ms_E p s m args meth c M y D cA) (hd : decode (M y).2.1 pc = .ok (.bipush n, 2)) (hs : mm_ins (.bipush n) a b v pc ls st h = some (.inl (pc', ls', st', h'))) (k : ms_W p l e R s m args below meth c D cA base xt n0 s0 nL Q pc' ls' st' h') : ms_W p l e R s m args below meth c D cA base xt n0 s0 nL Q pc ls st h := by
  obtain ⟨hx, hb, hml, hown, hts, hK, hr, hlk, hnm⟩ := E
  cases hs
  exact fun h1 h2 H locs rs hH hF hL hS => lv_bipush hx hb hd rfl (k h1 h2 H locs rs hH hF hL hS)
theorem mo_sipush {n : Int} (E : ms_E p s m args meth c M y D cA) (hd : decode (M y).2.1 pc = .ok (.sipush n, 3)) (hs : mm_ins (.sipush n) a b v pc ls st h = some (.inl (pc', ls', st', h'))) (k : ms_W p l e R s m args below meth c D cA base xt n0 s0 nL Q pc' ls' st' h') : ms_W p l e R s m args below meth c D cA base xt n0 s0 nL Q pc ls st h := by
  obtain ⟨hx, hb, hml, hown, hts, hK, hr, hlk, hnm⟩ := E
  cases hs
  exact fun h1 h2 H locs rs hH hF hL hS => lv_sipush hx hb hd rfl (k h1 h2 H locs rs hH hF hL hS)
theorem mo_lconst {n : Fin 2} (E : ms_E p s m args meth c M y D cA) (hd : decode (M y).2.1 pc = .ok (.lconst n, 1)) (hs : mm_ins (.lconst n) a b v pc ls st h = some (.inl (pc', ls', st', h'))) (k : ms_W p l e R s m args below meth c D cA base xt n0 s0 nL Q pc' ls' st' h') : ms_W p l e R s m args below meth c D cA base xt n0 s0 nL Q pc ls st h := by
  obtain ⟨hx, hb, hml, hown, hts, hK, hr, hlk, hnm⟩ := E
  cases hs
  exact fun h1 h2 H locs rs hH hF hL hS => lv_lconst hx hb hd rfl (k h1 h2 H locs rs hH hF hL hS)
theorem mo_null (E : ms_E p s m args meth c M y D cA) (hd : decode (M y).2.1 pc = .ok (.aconst_null, 1)) (hs : mm_ins (.aconst_null) a b v pc ls st h = some (.inl (pc', ls', st', h'))) (k : ms_W p l e R s m args below meth c D cA base xt n0 s0 nL Q pc' ls' st' h') : ms_W p l e R s m args below meth c D cA base xt n0 s0 nL Q pc ls st h := by
  obtain ⟨hx, hb, hml, hown, hts, hK, hr, hlk, hnm⟩ := E
  cases hs
  exact fun h1 h2 H locs rs hH hF hL hS => lv_null hx hb hd (k h1 h2 H locs rs hH hF hL hS)
theorem mo_iload {i : Nat} (E : ms_E p s m args meth c M y D cA) (hd : decode (M y).2.1 pc = .ok (.iload i, 2)) (hs : mm_ins (.iload i) a b v pc ls st h = some (.inl (pc', ls', st', h'))) (k : ms_W p l e R s m args below meth c D cA base xt n0 s0 nL Q pc' ls' st' h') : ms_W p l e R s m args below meth c D cA base xt n0 s0 nL Q pc ls st h := by
  obtain ⟨hx, hb, hml, hown, hts, hK, hr, hlk, hnm⟩ := E
  cases hv : me_ld ls i with
  | none => simp [mm_ins, me_pv, me_oi, hv] at hs
  | some w =>
    cases w with
    | int x =>
      have e : me_go (pc + 2) ls (.int x :: st) h = some (.inl (pc', ls', st', h')) := by rw [← hs]; simp [mm_ins, me_pv, me_oi, hv]
      cases e
      exact fun h1 h2 H locs rs hH hF hL hS => lv_iload hx hb hd (ms_ld hS hv) (k h1 h2 H locs rs hH hF hL hS)
    | _ => simp [mm_ins, me_pv, me_oi, hv] at hs
theorem mo_iload_n {i : Fin 4} (E : ms_E p s m args meth c M y D cA) (hd : decode (M y).2.1 pc = .ok (.iload_n i, 1)) (hs : mm_ins (.iload_n i) a b v pc ls st h = some (.inl (pc', ls', st', h'))) (k : ms_W p l e R s m args below meth c D cA base xt n0 s0 nL Q pc' ls' st' h') : ms_W p l e R s m args below meth c D cA base xt n0 s0 nL Q pc ls st h := by
  obtain ⟨hx, hb, hml, hown, hts, hK, hr, hlk, hnm⟩ := E
  cases hv : me_ld ls i with
  | none => simp [mm_ins, me_pv, me_oi, hv] at hs
  | some w =>
    cases w with
    | int x =>
      have e : me_go (pc + 1) ls (.int x :: st) h = some (.inl (pc', ls', st', h')) := by rw [← hs]; simp [mm_ins, me_pv, me_oi, hv]
      cases e
      exact fun h1 h2 H locs rs hH hF hL hS => lv_iload_n hx hb hd rfl (ms_ld hS hv) (k h1 h2 H locs rs hH hF hL hS)
    | _ => simp [mm_ins, me_pv, me_oi, hv] at hs
theorem mo_lload {i : Nat} (E : ms_E p s m args meth c M y D cA) (hd : decode (M y).2.1 pc = .ok (.lload i, 2)) (hs : mm_ins (.lload i) a b v pc ls st h = some (.inl (pc', ls', st', h'))) (k : ms_W p l e R s m args below meth c D cA base xt n0 s0 nL Q pc' ls' st' h') : ms_W p l e R s m args below meth c D cA base xt n0 s0 nL Q pc ls st h := by
  obtain ⟨hx, hb, hml, hown, hts, hK, hr, hlk, hnm⟩ := E
  cases hv : me_ld ls i with
  | none => simp [mm_ins, me_pv, me_ol, hv] at hs
  | some w =>
    cases w with
    | long x =>
      have e : me_go (pc + 2) ls (.long x :: st) h = some (.inl (pc', ls', st', h')) := by rw [← hs]; simp [mm_ins, me_pv, me_ol, hv]
      cases e
      exact fun h1 h2 H locs rs hH hF hL hS => lv_lload hx hb hd (ms_ld hS hv) (k h1 h2 H locs rs hH hF hL hS)
    | _ => simp [mm_ins, me_pv, me_ol, hv] at hs
theorem mo_lload_n {i : Fin 4} (E : ms_E p s m args meth c M y D cA) (hd : decode (M y).2.1 pc = .ok (.lload_n i, 1)) (hs : mm_ins (.lload_n i) a b v pc ls st h = some (.inl (pc', ls', st', h'))) (k : ms_W p l e R s m args below meth c D cA base xt n0 s0 nL Q pc' ls' st' h') : ms_W p l e R s m args below meth c D cA base xt n0 s0 nL Q pc ls st h := by
  obtain ⟨hx, hb, hml, hown, hts, hK, hr, hlk, hnm⟩ := E
  cases hv : me_ld ls i with
  | none => simp [mm_ins, me_pv, me_ol, hv] at hs
  | some w =>
    cases w with
    | long x =>
      have e : me_go (pc + 1) ls (.long x :: st) h = some (.inl (pc', ls', st', h')) := by rw [← hs]; simp [mm_ins, me_pv, me_ol, hv]
      cases e
      exact fun h1 h2 H locs rs hH hF hL hS => lv_lload_n hx hb hd rfl (ms_ld hS hv) (k h1 h2 H locs rs hH hF hL hS)
    | _ => simp [mm_ins, me_pv, me_ol, hv] at hs
theorem mo_aload {i : Nat} (E : ms_E p s m args meth c M y D cA) (hd : decode (M y).2.1 pc = .ok (.aload i, 2)) (hs : mm_ins (.aload i) a b v pc ls st h = some (.inl (pc', ls', st', h'))) (k : ms_W p l e R s m args below meth c D cA base xt n0 s0 nL Q pc' ls' st' h') : ms_W p l e R s m args below meth c D cA base xt n0 s0 nL Q pc ls st h := by
  obtain ⟨hx, hb, hml, hown, hts, hK, hr, hlk, hnm⟩ := E
  cases hv : me_ld ls i with
  | none => simp [mm_ins, me_pv, me_oa, hv] at hs
  | some w =>
    cases w with
    | ref x =>
      have e : me_go (pc + 2) ls (.ref x :: st) h = some (.inl (pc', ls', st', h')) := by rw [← hs]; simp [mm_ins, me_pv, me_oa, hv]
      cases e
      exact fun h1 h2 H locs rs hH hF hL hS =>  lv_aload hx hb hd  (ms_ld hS hv) (k h1 h2 H locs rs hH hF hL hS)
    | null =>
      have e : me_go (pc + 2) ls (.null :: st) h = some (.inl (pc', ls', st', h')) := by rw [← hs]; simp [mm_ins, me_pv, me_oa, hv]
      cases e
      exact fun h1 h2 H locs rs hH hF hL hS =>  lv_aloadN hx hb hd  (ms_ld hS hv) (k h1 h2 H locs rs hH hF hL hS)
    | retAddr x =>
      have e : me_go (pc + 2) ls (.retAddr x :: st) h = some (.inl (pc', ls', st', h')) := by rw [← hs]; simp [mm_ins, me_pv, me_oa, hv]
      cases e
      intro h1 h2 H locs rs hH hF hL hS
      have hv2 := ms_ld hS hv
      have kk := (k h1 h2 H locs rs hH hF hL hS)
      cases hxt : xt x with
      | none =>
        rw [show ms_v base xt (.retAddr x) = .null by show va_rf (xt x) = _; rw [hxt]; rfl] at hv2
        rw [List.map_cons, show ms_v base xt (.retAddr x) = .null by show va_rf (xt x) = _; rw [hxt]; rfl] at kk
        exact lv_aloadN hx hb hd  hv2 kk
      | some t =>
        rw [show ms_v base xt (.retAddr x) = .ref t by show va_rf (xt x) = _; rw [hxt]; rfl] at hv2
        rw [List.map_cons, show ms_v base xt (.retAddr x) = .ref t by show va_rf (xt x) = _; rw [hxt]; rfl] at kk
        exact lv_aload hx hb hd  hv2 kk
    | _ => simp [mm_ins, me_pv, me_oa, hv] at hs
theorem mo_aload_n {i : Fin 4} (E : ms_E p s m args meth c M y D cA) (hd : decode (M y).2.1 pc = .ok (.aload_n i, 1)) (hs : mm_ins (.aload_n i) a b v pc ls st h = some (.inl (pc', ls', st', h'))) (k : ms_W p l e R s m args below meth c D cA base xt n0 s0 nL Q pc' ls' st' h') : ms_W p l e R s m args below meth c D cA base xt n0 s0 nL Q pc ls st h := by
  obtain ⟨hx, hb, hml, hown, hts, hK, hr, hlk, hnm⟩ := E
  cases hv : me_ld ls i with
  | none => simp [mm_ins, me_pv, me_oa, hv] at hs
  | some w =>
    cases w with
    | ref x =>
      have e : me_go (pc + 1) ls (.ref x :: st) h = some (.inl (pc', ls', st', h')) := by rw [← hs]; simp [mm_ins, me_pv, me_oa, hv]
      cases e
      exact fun h1 h2 H locs rs hH hF hL hS =>  lv_aload_n hx hb hd rfl  (ms_ld hS hv) (k h1 h2 H locs rs hH hF hL hS)
    | null =>
      have e : me_go (pc + 1) ls (.null :: st) h = some (.inl (pc', ls', st', h')) := by rw [← hs]; simp [mm_ins, me_pv, me_oa, hv]
      cases e
      exact fun h1 h2 H locs rs hH hF hL hS =>  lv_aload_nN hx hb hd rfl  (ms_ld hS hv) (k h1 h2 H locs rs hH hF hL hS)
    | retAddr x =>
      have e : me_go (pc + 1) ls (.retAddr x :: st) h = some (.inl (pc', ls', st', h')) := by rw [← hs]; simp [mm_ins, me_pv, me_oa, hv]
      cases e
      intro h1 h2 H locs rs hH hF hL hS
      have hv2 := ms_ld hS hv
      have kk := (k h1 h2 H locs rs hH hF hL hS)
      cases hxt : xt x with
      | none =>
        rw [show ms_v base xt (.retAddr x) = .null by show va_rf (xt x) = _; rw [hxt]; rfl] at hv2
        rw [List.map_cons, show ms_v base xt (.retAddr x) = .null by show va_rf (xt x) = _; rw [hxt]; rfl] at kk
        exact lv_aload_nN hx hb hd rfl  hv2 kk
      | some t =>
        rw [show ms_v base xt (.retAddr x) = .ref t by show va_rf (xt x) = _; rw [hxt]; rfl] at hv2
        rw [List.map_cons, show ms_v base xt (.retAddr x) = .ref t by show va_rf (xt x) = _; rw [hxt]; rfl] at kk
        exact lv_aload_n hx hb hd rfl  hv2 kk
    | _ => simp [mm_ins, me_pv, me_oa, hv] at hs
theorem mo_iadd (E : ms_E p s m args meth c M y D cA) (hd : decode (M y).2.1 pc = .ok (.iadd, 1)) (hs : mm_ins (.iadd) a b v pc ls st h = some (.inl (pc', ls', st', h'))) (k : ms_W p l e R s m args below meth c D cA base xt n0 s0 nL Q pc' ls' st' h') : ms_W p l e R s m args below meth c D cA base xt n0 s0 nL Q pc ls st h := by
  obtain ⟨hx, hb, hml, hown, hts, hK, hr, hlk, hnm⟩ := E
  unfold mm_ins at hs
  dsimp only at hs
  split at hs
  next y x r =>
    cases hs
    exact fun h1 h2 H locs rs hH hF hL hS => lv_iadd hx hb hd (k h1 h2 H locs rs hH hF hL hS)
  next => cases hs
theorem mo_isub (E : ms_E p s m args meth c M y D cA) (hd : decode (M y).2.1 pc = .ok (.isub, 1)) (hs : mm_ins (.isub) a b v pc ls st h = some (.inl (pc', ls', st', h'))) (k : ms_W p l e R s m args below meth c D cA base xt n0 s0 nL Q pc' ls' st' h') : ms_W p l e R s m args below meth c D cA base xt n0 s0 nL Q pc ls st h := by
  obtain ⟨hx, hb, hml, hown, hts, hK, hr, hlk, hnm⟩ := E
  unfold mm_ins at hs
  dsimp only at hs
  split at hs
  next y x r =>
    cases hs
    exact fun h1 h2 H locs rs hH hF hL hS => lv_isub hx hb hd (k h1 h2 H locs rs hH hF hL hS)
  next => cases hs
theorem mo_imul (E : ms_E p s m args meth c M y D cA) (hd : decode (M y).2.1 pc = .ok (.imul, 1)) (hs : mm_ins (.imul) a b v pc ls st h = some (.inl (pc', ls', st', h'))) (k : ms_W p l e R s m args below meth c D cA base xt n0 s0 nL Q pc' ls' st' h') : ms_W p l e R s m args below meth c D cA base xt n0 s0 nL Q pc ls st h := by
  obtain ⟨hx, hb, hml, hown, hts, hK, hr, hlk, hnm⟩ := E
  unfold mm_ins at hs
  dsimp only at hs
  split at hs
  next y x r =>
    cases hs
    exact fun h1 h2 H locs rs hH hF hL hS => lv_imul hx hb hd (k h1 h2 H locs rs hH hF hL hS)
  next => cases hs
theorem mo_iand (E : ms_E p s m args meth c M y D cA) (hd : decode (M y).2.1 pc = .ok (.iand, 1)) (hs : mm_ins (.iand) a b v pc ls st h = some (.inl (pc', ls', st', h'))) (k : ms_W p l e R s m args below meth c D cA base xt n0 s0 nL Q pc' ls' st' h') : ms_W p l e R s m args below meth c D cA base xt n0 s0 nL Q pc ls st h := by
  obtain ⟨hx, hb, hml, hown, hts, hK, hr, hlk, hnm⟩ := E
  unfold mm_ins at hs
  dsimp only at hs
  split at hs
  next y x r =>
    cases hs
    exact fun h1 h2 H locs rs hH hF hL hS => lv_iand hx hb hd (k h1 h2 H locs rs hH hF hL hS)
  next => cases hs
theorem mo_ior (E : ms_E p s m args meth c M y D cA) (hd : decode (M y).2.1 pc = .ok (.ior, 1)) (hs : mm_ins (.ior) a b v pc ls st h = some (.inl (pc', ls', st', h'))) (k : ms_W p l e R s m args below meth c D cA base xt n0 s0 nL Q pc' ls' st' h') : ms_W p l e R s m args below meth c D cA base xt n0 s0 nL Q pc ls st h := by
  obtain ⟨hx, hb, hml, hown, hts, hK, hr, hlk, hnm⟩ := E
  unfold mm_ins at hs
  dsimp only at hs
  split at hs
  next y x r =>
    cases hs
    exact fun h1 h2 H locs rs hH hF hL hS => lv_ior hx hb hd (k h1 h2 H locs rs hH hF hL hS)
  next => cases hs
theorem mo_ixor (E : ms_E p s m args meth c M y D cA) (hd : decode (M y).2.1 pc = .ok (.ixor, 1)) (hs : mm_ins (.ixor) a b v pc ls st h = some (.inl (pc', ls', st', h'))) (k : ms_W p l e R s m args below meth c D cA base xt n0 s0 nL Q pc' ls' st' h') : ms_W p l e R s m args below meth c D cA base xt n0 s0 nL Q pc ls st h := by
  obtain ⟨hx, hb, hml, hown, hts, hK, hr, hlk, hnm⟩ := E
  unfold mm_ins at hs
  dsimp only at hs
  split at hs
  next y x r =>
    cases hs
    exact fun h1 h2 H locs rs hH hF hL hS => lv_ixor hx hb hd (k h1 h2 H locs rs hH hF hL hS)
  next => cases hs
theorem mo_ishl (E : ms_E p s m args meth c M y D cA) (hd : decode (M y).2.1 pc = .ok (.ishl, 1)) (hs : mm_ins (.ishl) a b v pc ls st h = some (.inl (pc', ls', st', h'))) (k : ms_W p l e R s m args below meth c D cA base xt n0 s0 nL Q pc' ls' st' h') : ms_W p l e R s m args below meth c D cA base xt n0 s0 nL Q pc ls st h := by
  obtain ⟨hx, hb, hml, hown, hts, hK, hr, hlk, hnm⟩ := E
  unfold mm_ins at hs
  dsimp only at hs
  split at hs
  next y x r =>
    cases hs
    exact fun h1 h2 H locs rs hH hF hL hS => lv_ishl hx hb hd (k h1 h2 H locs rs hH hF hL hS)
  next => cases hs
theorem mo_ishr (E : ms_E p s m args meth c M y D cA) (hd : decode (M y).2.1 pc = .ok (.ishr, 1)) (hs : mm_ins (.ishr) a b v pc ls st h = some (.inl (pc', ls', st', h'))) (k : ms_W p l e R s m args below meth c D cA base xt n0 s0 nL Q pc' ls' st' h') : ms_W p l e R s m args below meth c D cA base xt n0 s0 nL Q pc ls st h := by
  obtain ⟨hx, hb, hml, hown, hts, hK, hr, hlk, hnm⟩ := E
  unfold mm_ins at hs
  dsimp only at hs
  split at hs
  next y x r =>
    cases hs
    exact fun h1 h2 H locs rs hH hF hL hS => lv_ishr hx hb hd (k h1 h2 H locs rs hH hF hL hS)
  next => cases hs
theorem mo_ladd (E : ms_E p s m args meth c M y D cA) (hd : decode (M y).2.1 pc = .ok (.ladd, 1)) (hs : mm_ins (.ladd) a b v pc ls st h = some (.inl (pc', ls', st', h'))) (k : ms_W p l e R s m args below meth c D cA base xt n0 s0 nL Q pc' ls' st' h') : ms_W p l e R s m args below meth c D cA base xt n0 s0 nL Q pc ls st h := by
  obtain ⟨hx, hb, hml, hown, hts, hK, hr, hlk, hnm⟩ := E
  unfold mm_ins at hs
  dsimp only at hs
  split at hs
  next y x r =>
    cases hs
    exact fun h1 h2 H locs rs hH hF hL hS => lv_ladd hx hb hd (k h1 h2 H locs rs hH hF hL hS)
  next => cases hs
theorem mo_lsub (E : ms_E p s m args meth c M y D cA) (hd : decode (M y).2.1 pc = .ok (.lsub, 1)) (hs : mm_ins (.lsub) a b v pc ls st h = some (.inl (pc', ls', st', h'))) (k : ms_W p l e R s m args below meth c D cA base xt n0 s0 nL Q pc' ls' st' h') : ms_W p l e R s m args below meth c D cA base xt n0 s0 nL Q pc ls st h := by
  obtain ⟨hx, hb, hml, hown, hts, hK, hr, hlk, hnm⟩ := E
  unfold mm_ins at hs
  dsimp only at hs
  split at hs
  next y x r =>
    cases hs
    exact fun h1 h2 H locs rs hH hF hL hS => lv_lsub hx hb hd (k h1 h2 H locs rs hH hF hL hS)
  next => cases hs
theorem mo_lmul (E : ms_E p s m args meth c M y D cA) (hd : decode (M y).2.1 pc = .ok (.lmul, 1)) (hs : mm_ins (.lmul) a b v pc ls st h = some (.inl (pc', ls', st', h'))) (k : ms_W p l e R s m args below meth c D cA base xt n0 s0 nL Q pc' ls' st' h') : ms_W p l e R s m args below meth c D cA base xt n0 s0 nL Q pc ls st h := by
  obtain ⟨hx, hb, hml, hown, hts, hK, hr, hlk, hnm⟩ := E
  unfold mm_ins at hs
  dsimp only at hs
  split at hs
  next y x r =>
    cases hs
    exact fun h1 h2 H locs rs hH hF hL hS => lv_lmul hx hb hd (k h1 h2 H locs rs hH hF hL hS)
  next => cases hs
theorem mo_land (E : ms_E p s m args meth c M y D cA) (hd : decode (M y).2.1 pc = .ok (.land, 1)) (hs : mm_ins (.land) a b v pc ls st h = some (.inl (pc', ls', st', h'))) (k : ms_W p l e R s m args below meth c D cA base xt n0 s0 nL Q pc' ls' st' h') : ms_W p l e R s m args below meth c D cA base xt n0 s0 nL Q pc ls st h := by
  obtain ⟨hx, hb, hml, hown, hts, hK, hr, hlk, hnm⟩ := E
  unfold mm_ins at hs
  dsimp only at hs
  split at hs
  next y x r =>
    cases hs
    exact fun h1 h2 H locs rs hH hF hL hS => lv_land hx hb hd (k h1 h2 H locs rs hH hF hL hS)
  next => cases hs
theorem mo_lor (E : ms_E p s m args meth c M y D cA) (hd : decode (M y).2.1 pc = .ok (.lor, 1)) (hs : mm_ins (.lor) a b v pc ls st h = some (.inl (pc', ls', st', h'))) (k : ms_W p l e R s m args below meth c D cA base xt n0 s0 nL Q pc' ls' st' h') : ms_W p l e R s m args below meth c D cA base xt n0 s0 nL Q pc ls st h := by
  obtain ⟨hx, hb, hml, hown, hts, hK, hr, hlk, hnm⟩ := E
  unfold mm_ins at hs
  dsimp only at hs
  split at hs
  next y x r =>
    cases hs
    exact fun h1 h2 H locs rs hH hF hL hS => lv_lor hx hb hd (k h1 h2 H locs rs hH hF hL hS)
  next => cases hs
theorem mo_lxor (E : ms_E p s m args meth c M y D cA) (hd : decode (M y).2.1 pc = .ok (.lxor, 1)) (hs : mm_ins (.lxor) a b v pc ls st h = some (.inl (pc', ls', st', h'))) (k : ms_W p l e R s m args below meth c D cA base xt n0 s0 nL Q pc' ls' st' h') : ms_W p l e R s m args below meth c D cA base xt n0 s0 nL Q pc ls st h := by
  obtain ⟨hx, hb, hml, hown, hts, hK, hr, hlk, hnm⟩ := E
  unfold mm_ins at hs
  dsimp only at hs
  split at hs
  next y x r =>
    cases hs
    exact fun h1 h2 H locs rs hH hF hL hS => lv_lxor hx hb hd (k h1 h2 H locs rs hH hF hL hS)
  next => cases hs
theorem mo_iushr (E : ms_E p s m args meth c M y D cA) (hd : decode (M y).2.1 pc = .ok (.iushr, 1)) (hs : mm_ins (.iushr) a b v pc ls st h = some (.inl (pc', ls', st', h'))) (k : ms_W p l e R s m args below meth c D cA base xt n0 s0 nL Q pc' ls' st' h') : ms_W p l e R s m args below meth c D cA base xt n0 s0 nL Q pc ls st h := by
  obtain ⟨hx, hb, hml, hown, hts, hK, hr, hlk, hnm⟩ := E
  unfold mm_ins at hs
  dsimp only at hs
  split at hs
  next y x r =>
    cases hs
    exact fun h1 h2 H locs rs hH hF hL hS => lv_iushr hx hb hd rfl (k h1 h2 H locs rs hH hF hL hS)
  next => cases hs
theorem mo_idiv (E : ms_E p s m args meth c M y D cA) (hd : decode (M y).2.1 pc = .ok (.idiv, 1)) (hs : mm_ins (.idiv) a b v pc ls st h = some (.inl (pc', ls', st', h'))) (k : ms_W p l e R s m args below meth c D cA base xt n0 s0 nL Q pc' ls' st' h') : ms_W p l e R s m args below meth c D cA base xt n0 s0 nL Q pc ls st h := by
  obtain ⟨hx, hb, hml, hown, hts, hK, hr, hlk, hnm⟩ := E
  unfold mm_ins at hs
  dsimp only [me_i2, me_l2] at hs
  split at hs
  next y x r =>
    by_cases hy : y = 0
    · rw [if_pos hy] at hs; cases hs
    · rw [if_neg hy] at hs
      cases hs
      exact fun h1 h2 H locs rs hH hF hL hS => lv_idiv hx hb hd hy (k h1 h2 H locs rs hH hF hL hS)
  next => cases hs
theorem mo_irem (E : ms_E p s m args meth c M y D cA) (hd : decode (M y).2.1 pc = .ok (.irem, 1)) (hs : mm_ins (.irem) a b v pc ls st h = some (.inl (pc', ls', st', h'))) (k : ms_W p l e R s m args below meth c D cA base xt n0 s0 nL Q pc' ls' st' h') : ms_W p l e R s m args below meth c D cA base xt n0 s0 nL Q pc ls st h := by
  obtain ⟨hx, hb, hml, hown, hts, hK, hr, hlk, hnm⟩ := E
  unfold mm_ins at hs
  dsimp only [me_i2, me_l2] at hs
  split at hs
  next y x r =>
    by_cases hy : y = 0
    · rw [if_pos hy] at hs; cases hs
    · rw [if_neg hy] at hs
      cases hs
      exact fun h1 h2 H locs rs hH hF hL hS => lv_irem hx hb hd hy (k h1 h2 H locs rs hH hF hL hS)
  next => cases hs
theorem mo_ldiv (E : ms_E p s m args meth c M y D cA) (hd : decode (M y).2.1 pc = .ok (.ldiv, 1)) (hs : mm_ins (.ldiv) a b v pc ls st h = some (.inl (pc', ls', st', h'))) (k : ms_W p l e R s m args below meth c D cA base xt n0 s0 nL Q pc' ls' st' h') : ms_W p l e R s m args below meth c D cA base xt n0 s0 nL Q pc ls st h := by
  obtain ⟨hx, hb, hml, hown, hts, hK, hr, hlk, hnm⟩ := E
  unfold mm_ins at hs
  dsimp only [me_i2, me_l2] at hs
  split at hs
  next y x r =>
    by_cases hy : y = 0
    · rw [if_pos hy] at hs; cases hs
    · rw [if_neg hy] at hs
      cases hs
      exact fun h1 h2 H locs rs hH hF hL hS => lv_ldiv hx hb hd hy (k h1 h2 H locs rs hH hF hL hS)
  next => cases hs
theorem mo_lrem (E : ms_E p s m args meth c M y D cA) (hd : decode (M y).2.1 pc = .ok (.lrem, 1)) (hs : mm_ins (.lrem) a b v pc ls st h = some (.inl (pc', ls', st', h'))) (k : ms_W p l e R s m args below meth c D cA base xt n0 s0 nL Q pc' ls' st' h') : ms_W p l e R s m args below meth c D cA base xt n0 s0 nL Q pc ls st h := by
  obtain ⟨hx, hb, hml, hown, hts, hK, hr, hlk, hnm⟩ := E
  unfold mm_ins at hs
  dsimp only [me_i2, me_l2] at hs
  split at hs
  next y x r =>
    by_cases hy : y = 0
    · rw [if_pos hy] at hs; cases hs
    · rw [if_neg hy] at hs
      cases hs
      exact fun h1 h2 H locs rs hH hF hL hS => lv_lrem hx hb hd hy (k h1 h2 H locs rs hH hF hL hS)
  next => cases hs
theorem mo_lshl (E : ms_E p s m args meth c M y D cA) (hd : decode (M y).2.1 pc = .ok (.lshl, 1)) (hs : mm_ins (.lshl) a b v pc ls st h = some (.inl (pc', ls', st', h'))) (k : ms_W p l e R s m args below meth c D cA base xt n0 s0 nL Q pc' ls' st' h') : ms_W p l e R s m args below meth c D cA base xt n0 s0 nL Q pc ls st h := by
  obtain ⟨hx, hb, hml, hown, hts, hK, hr, hlk, hnm⟩ := E
  unfold mm_ins at hs
  dsimp only at hs
  split at hs
  next y x r =>
    cases hs
    exact fun h1 h2 H locs rs hH hF hL hS => lv_lshl hx hb hd rfl (k h1 h2 H locs rs hH hF hL hS)
  next => cases hs
theorem mo_ineg (E : ms_E p s m args meth c M y D cA) (hd : decode (M y).2.1 pc = .ok (.ineg, 1)) (hs : mm_ins (.ineg) a b v pc ls st h = some (.inl (pc', ls', st', h'))) (k : ms_W p l e R s m args below meth c D cA base xt n0 s0 nL Q pc' ls' st' h') : ms_W p l e R s m args below meth c D cA base xt n0 s0 nL Q pc ls st h := by
  obtain ⟨hx, hb, hml, hown, hts, hK, hr, hlk, hnm⟩ := E
  unfold mm_ins at hs
  dsimp only at hs
  split at hs
  next x r =>
    cases hs
    exact fun h1 h2 H locs rs hH hF hL hS => lv_ineg hx hb hd (k h1 h2 H locs rs hH hF hL hS)
  next => cases hs
theorem mo_lneg (E : ms_E p s m args meth c M y D cA) (hd : decode (M y).2.1 pc = .ok (.lneg, 1)) (hs : mm_ins (.lneg) a b v pc ls st h = some (.inl (pc', ls', st', h'))) (k : ms_W p l e R s m args below meth c D cA base xt n0 s0 nL Q pc' ls' st' h') : ms_W p l e R s m args below meth c D cA base xt n0 s0 nL Q pc ls st h := by
  obtain ⟨hx, hb, hml, hown, hts, hK, hr, hlk, hnm⟩ := E
  unfold mm_ins at hs
  dsimp only at hs
  split at hs
  next x r =>
    cases hs
    exact fun h1 h2 H locs rs hH hF hL hS => lv_lneg hx hb hd (k h1 h2 H locs rs hH hF hL hS)
  next => cases hs
theorem mo_i2l (E : ms_E p s m args meth c M y D cA) (hd : decode (M y).2.1 pc = .ok (.i2l, 1)) (hs : mm_ins (.i2l) a b v pc ls st h = some (.inl (pc', ls', st', h'))) (k : ms_W p l e R s m args below meth c D cA base xt n0 s0 nL Q pc' ls' st' h') : ms_W p l e R s m args below meth c D cA base xt n0 s0 nL Q pc ls st h := by
  obtain ⟨hx, hb, hml, hown, hts, hK, hr, hlk, hnm⟩ := E
  unfold mm_ins at hs
  dsimp only at hs
  split at hs
  next x r =>
    cases hs
    exact fun h1 h2 H locs rs hH hF hL hS => lv_i2l hx hb hd rfl (k h1 h2 H locs rs hH hF hL hS)
  next => cases hs
theorem mo_l2i (E : ms_E p s m args meth c M y D cA) (hd : decode (M y).2.1 pc = .ok (.l2i, 1)) (hs : mm_ins (.l2i) a b v pc ls st h = some (.inl (pc', ls', st', h'))) (k : ms_W p l e R s m args below meth c D cA base xt n0 s0 nL Q pc' ls' st' h') : ms_W p l e R s m args below meth c D cA base xt n0 s0 nL Q pc ls st h := by
  obtain ⟨hx, hb, hml, hown, hts, hK, hr, hlk, hnm⟩ := E
  unfold mm_ins at hs
  dsimp only at hs
  split at hs
  next x r =>
    cases hs
    exact fun h1 h2 H locs rs hH hF hL hS => lv_l2i hx hb hd rfl (k h1 h2 H locs rs hH hF hL hS)
  next => cases hs
theorem mo_i2b (E : ms_E p s m args meth c M y D cA) (hd : decode (M y).2.1 pc = .ok (.i2b, 1)) (hs : mm_ins (.i2b) a b v pc ls st h = some (.inl (pc', ls', st', h'))) (k : ms_W p l e R s m args below meth c D cA base xt n0 s0 nL Q pc' ls' st' h') : ms_W p l e R s m args below meth c D cA base xt n0 s0 nL Q pc ls st h := by
  obtain ⟨hx, hb, hml, hown, hts, hK, hr, hlk, hnm⟩ := E
  unfold mm_ins at hs
  dsimp only at hs
  split at hs
  next x r =>
    cases hs
    exact fun h1 h2 H locs rs hH hF hL hS => lv_i2b hx hb hd rfl (k h1 h2 H locs rs hH hF hL hS)
  next => cases hs
theorem mo_i2c (E : ms_E p s m args meth c M y D cA) (hd : decode (M y).2.1 pc = .ok (.i2c, 1)) (hs : mm_ins (.i2c) a b v pc ls st h = some (.inl (pc', ls', st', h'))) (k : ms_W p l e R s m args below meth c D cA base xt n0 s0 nL Q pc' ls' st' h') : ms_W p l e R s m args below meth c D cA base xt n0 s0 nL Q pc ls st h := by
  obtain ⟨hx, hb, hml, hown, hts, hK, hr, hlk, hnm⟩ := E
  unfold mm_ins at hs
  dsimp only at hs
  split at hs
  next x r =>
    cases hs
    exact fun h1 h2 H locs rs hH hF hL hS => lv_i2c hx hb hd rfl (k h1 h2 H locs rs hH hF hL hS)
  next => cases hs
theorem mo_lcmp (E : ms_E p s m args meth c M y D cA) (hd : decode (M y).2.1 pc = .ok (.lcmp, 1)) (hs : mm_ins (.lcmp) a b v pc ls st h = some (.inl (pc', ls', st', h'))) (k : ms_W p l e R s m args below meth c D cA base xt n0 s0 nL Q pc' ls' st' h') : ms_W p l e R s m args below meth c D cA base xt n0 s0 nL Q pc ls st h := by
  obtain ⟨hx, hb, hml, hown, hts, hK, hr, hlk, hnm⟩ := E
  unfold mm_ins at hs
  dsimp only at hs
  split at hs
  next y x r =>
    cases hs
    exact fun h1 h2 H locs rs hH hF hL hS => W.lcmp hx hb hd (k h1 h2 H locs rs hH hF hL hS)
  next => cases hs
end MSO
