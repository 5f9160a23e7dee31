/-! THE SMALL MACHINE'S HEAP AND THE REAL ONE -/
theorem mt_len : ∀ (ci : Nat) (q : vw_C), mt_cl[ci]? = some q → mt_nf ci = q.2.2 := mt_cs _ rfl rfl rfl rfl rfl rfl rfl rfl rfl rfl rfl rfl rfl rfl rfl
/-- what a place that holds 0 or null holds -/
def mt_zero (tc : Nat) : Value := match tc with
  | 1 => .long 0
  | 2 => .null
  | 4 => .null
  | _ => .int 0
theorem mt_zz : ∀ (ci : Nat) (q : vw_C), mt_cl[ci]? = some q → ∀ k, k < q.2.2 → defaultValue (mt_tf ci k) = mt_zero (mt_tc ci k) := mt_cs _ (by decide +kernel) (by decide +kernel) (by decide +kernel) (by decide +kernel) (by decide +kernel) (by decide +kernel) (by decide +kernel) (by decide +kernel) (by decide +kernel) (by decide +kernel) (by decide +kernel) (by decide +kernel) (by decide +kernel) (by decide +kernel) (by decide +kernel)
/-- which values a field takes, by what it holds -/
def mt_okv (tc : Nat) (ty : FieldType) : Prop := match tc with
  | 0 => ty = .int
  | 1 => ty = .long
  | 2 => (∃ C, ty = .object C) ∨ ∃ t, ty = .array t
  | _ => ty = .boolean
def mt_okb (tc : Nat) (ty : FieldType) : Bool := match tc, ty with
  | 0, .int => true
  | 1, .long => true
  | 2, .object _ => true
  | 2, .array _ => true
  | 3, .boolean => true
  | _, _ => false
theorem mt_okbv {tc : Nat} {ty : FieldType} (h : mt_okb tc ty = true) : mt_okv tc ty := by
  match tc, ty, h with
  | 0, .int, _ => rfl
  | 1, .long, _ => rfl
  | 2, .object C, _ => exact Or.inl ⟨C, rfl⟩
  | 2, .array t, _ => exact Or.inr ⟨t, rfl⟩
  | 3, .boolean, _ => rfl
theorem mt_tt : ∀ (ci : Nat) (q : vw_C), mt_cl[ci]? = some q → ∀ k, k < q.2.2 → mt_okb (mt_tc ci k) (mt_tf ci k) = true := mt_cs _ (by decide +kernel) (by decide +kernel) (by decide +kernel) (by decide +kernel) (by decide +kernel) (by decide +kernel) (by decide +kernel) (by decide +kernel) (by decide +kernel) (by decide +kernel) (by decide +kernel) (by decide +kernel) (by decide +kernel) (by decide +kernel) (by decide +kernel)
def ms_v (base : Nat) (xt : Nat → Option Nat) (v : Value) : Value := match v with
  | .ref a => .ref (base + a)
  | .int x => .int x
  | .long x => .long x
  | .float x => .float x
  | .double x => .double x
  | .null => .null
  | .retAddr x => va_rf (xt x)
theorem ms_cat (base : Nat) (xt : Nat → Option Nat) (v : Value) : (ms_v base xt v).category = v.category := by
  cases v <;> first | rfl | (unfold ms_v va_rf; dsimp only; split <;> rfl)
theorem ms_cats (base : Nat) (xt : Nat → Option Nat) (st : List Value) : ((st.map (ms_v base xt)).map fun v => v.category).sum = (st.map fun v => v.category).sum := by
  rw [List.map_map]
  congr 1
  exact List.map_congr_left fun v _ => ms_cat base xt v
/-- a cell of the small heap, in the real one -/
def ms_at (D : va_G) (cA : Nat → ClassId) (base : Nat) (xt : Nat → Option Nat) (h : mh_H) (a : Nat) (H : Heap) : Prop :=
  (mh_k h a < 100 → mh_k h a < 15 ∧ t_OB (base + a) (D.1 (mh_k h a)) (mt_nf (mh_k h a)) (D.2 (mh_k h a)) H (fun k => ms_v base xt (me_rd h a k))) ∧
  (100 ≤ mh_k h a → mh_k h a < 108 ∧ H[base + a]? = some (arrV (cA (mh_k h a)) (mh_l h a) (fun k => ms_v base xt (me_rd h a k))))
def ms_H (D : va_G) (cA : Nat → ClassId) (base : Nat) (xt : Nat → Option Nat) (h : mh_H) (H : Heap) : Prop := H.size = base + mh_n h ∧ ∀ a, a < mh_n h → ms_at D cA base xt h a H
/-- the types of arrays, from kind 100 on -/
def ms_ety (kind : Nat) : FieldType := if kind = 100 then .int else if kind = 101 then .long else if kind = 102 then .byte else if kind = 103 then .boolean else if kind = 104 then .object "InvariantDesk$State" else if kind = 105 then .object "InvariantDesk$Statement" else if kind = 106 then .object "InvariantDeskModel$Known" else .object "java/lang/String"
def ms_ty (cA : Nat → ClassId) : List (ClassId × FieldType) := (List.range 8).map fun i => (cA (100 + i), ms_ety (100 + i))
theorem ms_ty_at (cA : Nat → ClassId) {kind : Nat} (h1 : 100 ≤ kind) (h2 : kind < 108) : (ms_ty cA)[kind - 100]? = some (cA kind, ms_ety kind) := by
  have e : 100 + (kind - 100) = kind := by omega
  unfold ms_ty
  rw [List.getElem?_map, List.getElem?_range (by omega)]
  simp only [Option.map_some, e]
/-- one place of one cell is written, nothing else -/
def me_up (h : mh_H) (a k : Nat) (v : Value) (h' : mh_H) : Prop := mh_k h' = mh_k h ∧ mh_l h' = mh_l h ∧ mh_n h' = mh_n h ∧ mh_s h' = mh_s h ∧ (∀ j, me_rd h' a j = if j = k then v else me_rd h a j) ∧ ∀ b, b ≠ a → ∀ j, me_rd h' b j = me_rd h b j
theorem me_up_i {h : mh_H} {a k : Nat} {x : Int32} (h1 : mt_tc (mh_k h a) k ≠ 1) (h2 : mt_tc (mh_k h a) k ≠ 2) (h4 : mt_tc (mh_k h a) k ≠ 4) : me_up h a k (.int x) (mh_si h a k x) := by
  refine ⟨rfl, rfl, rfl, rfl, fun j => ?_, fun b hb j => ?_⟩
  · by_cases hj : j = k
    · subst hj
      rw [if_pos rfl]
      show (match mt_tc (mh_k h a) j with | 1 => Value.long (mh_j h a j) | 2 => va_rf (mh_r h a j) | 4 => me_xr (mh_u (mh_i h) a j x a j) | _ => Value.int (mh_u (mh_i h) a j x a j)) = _
      simp [mh_u]
    · rw [if_neg hj]
      show (match mt_tc (mh_k h a) j with | 1 => Value.long (mh_j h a j) | 2 => va_rf (mh_r h a j) | 4 => me_xr (mh_u (mh_i h) a k x a j) | _ => Value.int (mh_u (mh_i h) a k x a j)) = _
      simp only [mh_u, hj, and_false, if_false]
      rfl
  · show (match mt_tc (mh_k h b) j with | 1 => Value.long (mh_j h b j) | 2 => va_rf (mh_r h b j) | 4 => me_xr (mh_u (mh_i h) a k x b j) | _ => Value.int (mh_u (mh_i h) a k x b j)) = _
    simp only [mh_u, hb, false_and, if_false]
    rfl
/-- a String goes into an array of Strings -/
theorem me_up_x {h : mh_H} {a k : Nat} {x : Int32} (h4 : mt_tc (mh_k h a) k = 4) : me_up h a k (me_xr x) (mh_si h a k x) := by
  refine ⟨rfl, rfl, rfl, rfl, fun j => ?_, fun b hb j => ?_⟩
  · by_cases hj : j = k
    · subst hj
      rw [if_pos rfl]
      show (match mt_tc (mh_k h a) j with | 1 => Value.long (mh_j h a j) | 2 => va_rf (mh_r h a j) | 4 => me_xr (mh_u (mh_i h) a j x a j) | _ => Value.int (mh_u (mh_i h) a j x a j)) = _
      rw [h4]
      simp [mh_u]
    · rw [if_neg hj]
      show (match mt_tc (mh_k h a) j with | 1 => Value.long (mh_j h a j) | 2 => va_rf (mh_r h a j) | 4 => me_xr (mh_u (mh_i h) a k x a j) | _ => Value.int (mh_u (mh_i h) a k x a j)) = _
      simp only [mh_u, hj, and_false, if_false]
      rfl
  · show (match mt_tc (mh_k h b) j with | 1 => Value.long (mh_j h b j) | 2 => va_rf (mh_r h b j) | 4 => me_xr (mh_u (mh_i h) a k x b j) | _ => Value.int (mh_u (mh_i h) a k x b j)) = _
    simp only [mh_u, hb, false_and, if_false]
    rfl
theorem me_up_j {h : mh_H} {a k : Nat} {x : Int64} (h1 : mt_tc (mh_k h a) k = 1) : me_up h a k (.long x) (mh_sj h a k x) := by
  refine ⟨rfl, rfl, rfl, rfl, fun j => ?_, fun b hb j => ?_⟩
  · by_cases hj : j = k
    · subst hj
      rw [if_pos rfl]
      show (match mt_tc (mh_k h a) j with | 1 => Value.long (mh_u (mh_j h) a j x a j) | 2 => va_rf (mh_r h a j) | 4 => me_xr (mh_i h a j) | _ => Value.int (mh_i h a j)) = _
      rw [h1]
      simp [mh_u]
    · rw [if_neg hj]
      show (match mt_tc (mh_k h a) j with | 1 => Value.long (mh_u (mh_j h) a k x a j) | 2 => va_rf (mh_r h a j) | 4 => me_xr (mh_i h a j) | _ => Value.int (mh_i h a j)) = _
      simp only [mh_u, hj, and_false, if_false]
      rfl
  · show (match mt_tc (mh_k h b) j with | 1 => Value.long (mh_u (mh_j h) a k x b j) | 2 => va_rf (mh_r h b j) | 4 => me_xr (mh_i h b j) | _ => Value.int (mh_i h b j)) = _
    simp only [mh_u, hb, false_and, if_false]
    rfl
theorem me_up_r {h : mh_H} {a k : Nat} {x : Option Nat} (h1 : mt_tc (mh_k h a) k = 2) : me_up h a k (va_rf x) (mh_sr h a k x) := by
  refine ⟨rfl, rfl, rfl, rfl, fun j => ?_, fun b hb j => ?_⟩
  · by_cases hj : j = k
    · subst hj
      rw [if_pos rfl]
      show (match mt_tc (mh_k h a) j with | 1 => Value.long (mh_j h a j) | 2 => va_rf (mh_u (mh_r h) a j x a j) | 4 => me_xr (mh_i h a j) | _ => Value.int (mh_i h a j)) = _
      rw [h1]
      simp [mh_u]
    · rw [if_neg hj]
      show (match mt_tc (mh_k h a) j with | 1 => Value.long (mh_j h a j) | 2 => va_rf (mh_u (mh_r h) a k x a j) | 4 => me_xr (mh_i h a j) | _ => Value.int (mh_i h a j)) = _
      simp only [mh_u, hj, and_false, if_false]
      rfl
  · show (match mt_tc (mh_k h b) j with | 1 => Value.long (mh_j h b j) | 2 => va_rf (mh_u (mh_r h) a k x b j) | 4 => me_xr (mh_i h b j) | _ => Value.int (mh_i h b j)) = _
    simp only [mh_u, hb, false_and, if_false]
    rfl
/-- the other cells, behind a write -/
theorem ms_at_other {D : va_G} {cA : Nat → ClassId} {base : Nat} {xt : Nat → Option Nat} {h h' : mh_H} {a b k : Nat} {v : Value} {H H' : Heap} (hu : me_up h a k v h') (hb : b ≠ a) (hq : H'[base + b]? = H[base + b]?) (hat : ms_at D cA base xt h b H) : ms_at D cA base xt h' b H' := by
  obtain ⟨u1, u2, -, -, -, u6⟩ := hu
  have e : (fun j => ms_v base xt (me_rd h' b j)) = fun j => ms_v base xt (me_rd h b j) := funext fun j => by rw [u6 b hb j]
  unfold ms_at
  rw [u1, u2, e, hq]
  refine ⟨fun hk => ⟨(hat.1 hk).1, ?_⟩, hat.2⟩
  obtain ⟨cell, q1, q2⟩ := (hat.1 hk).2
  exact ⟨cell, by rw [hq]; exact q1, q2⟩
theorem ms_updV {base : Nat} {xt : Nat → Option Nat} {h h' : mh_H} {a k : Nat} {v : Value} (hu : me_up h a k v h') : (fun j => ms_v base xt (me_rd h' a j)) = updV (fun j => ms_v base xt (me_rd h a j)) k (ms_v base xt v) := by
  funext j
  show ms_v base xt (me_rd h' a j) = if j = k then ms_v base xt v else ms_v base xt (me_rd h a j)
  rw [hu.2.2.2.2.1 j]
  by_cases hj : j = k
  · rw [if_pos hj, if_pos hj]
  · rw [if_neg hj, if_neg hj]
/-- a place of an array is written -/
theorem ms_H_arr {D : va_G} {cA : Nat → ClassId} {base : Nat} {xt : Nat → Option Nat} {h h' : mh_H} {a k : Nat} {v : Value} {H H' : Heap} (hH : ms_H D cA base xt h H) (ha : a < mh_n h) (hk : 100 ≤ mh_k h a) (hu : me_up h a k v h') (h1 : H'[base + a]? = some ((arrV (cA (mh_k h a)) (mh_l h a) (fun k => ms_v base xt (me_rd h a k))).setSlot k (ms_v base xt v))) (h2 : H'.size = H.size) (h3 : ∀ q, q ≠ base + a → H'[q]? = H[q]?) : ms_H D cA base xt h' H' := by
  refine ⟨by rw [h2, hu.2.2.1]; exact hH.1, fun b hb => ?_⟩
  rw [hu.2.2.1] at hb
  by_cases e : b = a
  · subst e
    unfold ms_at
    rw [hu.1, hu.2.1, ms_updV hu]
    refine ⟨fun q => absurd hk (by omega), fun _ => ⟨((hH.2 b hb).2 hk).1, ?_⟩⟩
    rw [h1, arrV_store]
  · exact ms_at_other hu e (h3 _ (by omega)) (hH.2 b hb)
/-- a field of an object is written -/
theorem ms_H_obj {D : va_G} {cA : Nat → ClassId} {base : Nat} {xt : Nat → Option Nat} {h h' : mh_H} {a k : Nat} {v : Value} {H H' : Heap} {cell : Cell} (hH : ms_H D cA base xt h H) (ha : a < mh_n h) (hk : mh_k h a < 100) (hkn : k < mt_nf (mh_k h a)) (hap : ∀ x y, x < mt_nf (mh_k h a) → y < mt_nf (mh_k h a) → x ≠ y → (D.2 (mh_k h a)) x ≠ (D.2 (mh_k h a)) y) (hu : me_up h a k v h') (h0 : H[base + a]? = some cell) (h1 : H'[base + a]? = some (cell.setSlot (D.2 (mh_k h a) k) (ms_v base xt v))) (h2 : H'.size = H.size) (h3 : ∀ q, q ≠ base + a → H'[q]? = H[q]?) : ms_H D cA base xt h' H' := by
  refine ⟨by rw [h2, hu.2.2.1]; exact hH.1, fun b hb => ?_⟩
  rw [hu.2.2.1] at hb
  by_cases e : b = a
  · subst e
    unfold ms_at
    rw [hu.1, hu.2.1, ms_updV hu]
    obtain ⟨hlt, cell', q1, q2, q3, q4⟩ := (hH.2 b hb).1 hk
    have hc : cell' = cell := Option.some.inj (q1.symm.trans h0)
    subst hc
    exact ⟨fun _ => ⟨hlt, _, h1, q2, q3, t_set q4 hap hkn _⟩, fun q => absurd hk (by omega)⟩
  · exact ms_at_other hu e (h3 _ (by omega)) (hH.2 b hb)
theorem me_rd_new_old {h : mh_H} {kind len b j : Nat} (hb : b < mh_n h) : me_rd (mh_new h kind len) b j = me_rd h b j := by
  have e : b ≠ mh_n h := by omega
  show (match mt_tc (mh_w (mh_k h) (mh_n h) kind b) j with | 1 => Value.long (mh_w (mh_j h) (mh_n h) (fun _ => 0) b j) | 2 => va_rf (mh_w (mh_r h) (mh_n h) (fun _ => none) b j) | 4 => me_xr (mh_w (mh_i h) (mh_n h) (fun _ => 0) b j) | _ => Value.int (mh_w (mh_i h) (mh_n h) (fun _ => 0) b j)) = _
  simp only [mh_w, e, if_false]
  rfl
theorem me_rd_new {h : mh_H} {kind len j : Nat} : me_rd (mh_new h kind len) (mh_n h) j = mt_zero (mt_tc kind j) := by
  show (match mt_tc (mh_w (mh_k h) (mh_n h) kind (mh_n h)) j with | 1 => Value.long (mh_w (mh_j h) (mh_n h) (fun _ => 0) (mh_n h) j) | 2 => va_rf (mh_w (mh_r h) (mh_n h) (fun _ => none) (mh_n h) j) | 4 => me_xr (mh_w (mh_i h) (mh_n h) (fun _ => 0) (mh_n h) j) | _ => Value.int (mh_w (mh_i h) (mh_n h) (fun _ => 0) (mh_n h) j)) = _
  simp only [mh_w, if_true]
  rfl
theorem ms_zero (base : Nat) (xt : Nat → Option Nat) (tc : Nat) : ms_v base xt (mt_zero tc) = mt_zero tc := by
  unfold mt_zero
  split <;> rfl
theorem mh_k_new {h : mh_H} {kind len : Nat} : mh_k (mh_new h kind len) (mh_n h) = kind := by
  show mh_w (mh_k h) (mh_n h) kind (mh_n h) = kind
  simp [mh_w]
theorem mh_l_new {h : mh_H} {kind len : Nat} : mh_l (mh_new h kind len) (mh_n h) = len := by
  show mh_w (mh_l h) (mh_n h) len (mh_n h) = len
  simp [mh_w]
theorem mh_k_new_old {h : mh_H} {kind len b : Nat} (hb : b < mh_n h) : mh_k (mh_new h kind len) b = mh_k h b := by
  have e : b ≠ mh_n h := by omega
  show mh_w (mh_k h) (mh_n h) kind b = _
  simp [mh_w, e]
theorem mh_l_new_old {h : mh_H} {kind len b : Nat} (hb : b < mh_n h) : mh_l (mh_new h kind len) b = mh_l h b := by
  have e : b ≠ mh_n h := by omega
  show mh_w (mh_l h) (mh_n h) len b = _
  simp [mh_w, e]
/-- a new cell -/
theorem ms_H_new {D : va_G} {cA : Nat → ClassId} {base : Nat} {xt : Nat → Option Nat} {h : mh_H} {kind len : Nat} {H H' : Heap} (hH : ms_H D cA base xt h H) (h2 : H'.size = H.size + 1) (h3 : ∀ q, q < H.size → H'[q]? = H[q]?) (hn : ms_at D cA base xt (mh_new h kind len) (mh_n h) H') : ms_H D cA base xt (mh_new h kind len) H' := by
  refine ⟨by rw [h2, hH.1]; show _ = base + (mh_n h + 1); omega, fun b hb => ?_⟩
  have hb' : b < mh_n h + 1 := hb
  by_cases e : b = mh_n h
  · subst e; exact hn
  · have hlt : b < mh_n h := by omega
    have hq : H'[base + b]? = H[base + b]? := h3 _ (by rw [hH.1]; omega)
    have e : (fun j => ms_v base xt (me_rd (mh_new h kind len) b j)) = fun j => ms_v base xt (me_rd h b j) := funext fun j => by rw [me_rd_new_old hlt]
    have hat := hH.2 b hlt
    unfold ms_at
    rw [mh_k_new_old hlt, mh_l_new_old hlt, e, hq]
    refine ⟨fun hk => ⟨(hat.1 hk).1, ?_⟩, hat.2⟩
    obtain ⟨cell, q1, q2⟩ := (hat.1 hk).2
    exact ⟨cell, by rw [hq]; exact q1, q2⟩
/-! locals -/
def ms_L (base : Nat) (xt : Nat → Option Nat) (nL : Nat) (ls : me_L) (rs : Array Slot) : Prop := ls.length = nL ∧ rs.size = nL ∧ lv_wf rs ∧ ∀ (i : Nat) (v : Value), ls[i]? = some (some v) → rs[i]? = some (.val (ms_v base xt v))
theorem ms_ld {base nL : Nat} {xt : Nat → Option Nat} {ls : me_L} {rs : Array Slot} (h : ms_L base xt nL ls rs) {i : Nat} {v : Value} (hv : me_ld ls i = some v) : rs[i]? = some (.val (ms_v base xt v)) := by
  refine h.2.2.2 i v ?_
  unfold me_ld at hv
  split at hv
  next w hw => cases hv; exact hw
  next => cases hv
def ms_A (base : Nat) (xt : Nat → Option Nat) (ls : me_L) : List (Nat × Value) := (List.range ls.length).filterMap (fun i => (me_ld ls i).map (fun v => (i, ms_v base xt v)))
theorem ms_A_in {base : Nat} {xt : Nat → Option Nat} {ls : me_L} {i : Nat} {v : Value} (h : ls[i]? = some (some v)) : (i, ms_v base xt v) ∈ ms_A base xt ls := by
  have hl : i < ls.length := (List.getElem?_eq_some_iff.mp h).1
  refine List.mem_filterMap.mpr ⟨i, List.mem_range.mpr hl, ?_⟩
  simp [me_ld, h]
theorem ms_L_has {base nL : Nat} {xt : Nat → Option Nat} {ls : me_L} {rs : Array Slot} (h : ms_L base xt nL ls rs) : lv_has rs nL (ms_A base xt ls) := by
  refine ⟨h.2.1, h.2.2.1, fun q hq => ?_⟩
  obtain ⟨i, -, hi⟩ := List.mem_filterMap.mp hq
  cases hv : me_ld ls i with
  | none => rw [hv] at hi; cases hi
  | some v => rw [hv] at hi; cases hi; exact ms_ld h hv
theorem me_c2_at {ls : me_L} {i j : Nat} {w : Value} (h : (me_c2 ls i)[j]? = some (some w)) : ls[j]? = some (some w) ∧ ¬ (j + 1 = i ∧ w.category = 2) := by
  cases i with
  | zero => exact ⟨h, by omega⟩
  | succ n =>
    unfold me_c2 at h
    simp only at h
    split at h
    next v hv =>
      by_cases hc : v.category = 2
      · rw [if_pos hc] at h
        by_cases e : j = n
        · subst e
          rw [List.getElem?_set_self (List.getElem?_eq_some_iff.mp hv).1] at h
          cases h
        · rw [List.getElem?_set_ne (fun q => e q.symm)] at h
          exact ⟨h, by omega⟩
      · rw [if_neg hc] at h
        refine ⟨h, fun q => ?_⟩
        have e : j = n := by omega
        subst e
        rw [hv] at h
        cases h
        exact hc q.2
    next hv =>
      refine ⟨h, fun q => ?_⟩
      have e : j = n := by omega
      subst e
      exact hv w h
theorem me_c2_len (ls : me_L) (i : Nat) : (me_c2 ls i).length = ls.length := by
  unfold me_c2
  split
  · rfl
  · split
    · split
      · exact List.length_set
      · rfl
    · rfl
theorem ms_L_s1 {base nL i : Nat} {xt : Nat → Option Nat} {ls : me_L} {rs' : Array Slot} {v : Value} (hl : ls.length = nL) (hi : i < nL) (h : lv_has rs' nL ((i, ms_v base xt v) :: (ms_A base xt ls).filter (fun q => !(q.1 == i) && !(q.1 + 1 == i && q.2.category == 2)))) : ms_L base xt nL (me_s1 ls i v) rs' := by
  refine ⟨by unfold me_s1; rw [List.length_set, me_c2_len]; exact hl, h.1, h.2.1, fun j w hj => ?_⟩
  unfold me_s1 at hj
  by_cases e : j = i
  · subst e
    rw [List.getElem?_set_self (by rw [me_c2_len]; omega)] at hj
    cases hj
    exact h.2.2 _ List.mem_cons_self
  · rw [List.getElem?_set_ne (fun q => e q.symm)] at hj
    obtain ⟨h1, h2⟩ := me_c2_at hj
    refine h.2.2 (j, ms_v base xt w) (List.mem_cons_of_mem _ (List.mem_filter.mpr ⟨ms_A_in h1, ?_⟩))
    simp only [ms_cat, Bool.and_eq_true, Bool.not_eq_true', beq_eq_false_iff_ne, ne_eq, Bool.and_eq_false_iff]
    refine ⟨e, ?_⟩
    by_cases z : j + 1 = i
    · exact Or.inr fun q => h2 ⟨z, q⟩
    · exact Or.inl z
theorem ms_L_s2 {base nL i : Nat} {xt : Nat → Option Nat} {ls : me_L} {rs' : Array Slot} {v : Value} (hl : ls.length = nL) (hi : i + 1 < nL) (h : lv_has rs' nL ((i, ms_v base xt v) :: (ms_A base xt ls).filter (fun q => !(q.1 == i) && (!(q.1 == i + 1) && !(q.1 + 1 == i && q.2.category == 2))))) : ms_L base xt nL (me_s2 ls i v) rs' := by
  refine ⟨by unfold me_s2; rw [List.length_set, List.length_set, me_c2_len]; exact hl, h.1, h.2.1, fun j w hj => ?_⟩
  unfold me_s2 at hj
  by_cases e1 : j = i + 1
  · subst e1
    rw [List.getElem?_set_self (by rw [List.length_set, me_c2_len]; omega)] at hj
    cases hj
  · rw [List.getElem?_set_ne (fun q => e1 q.symm)] at hj
    by_cases e : j = i
    · subst e
      rw [List.getElem?_set_self (by rw [me_c2_len]; omega)] at hj
      cases hj
      exact h.2.2 _ List.mem_cons_self
    · rw [List.getElem?_set_ne (fun q => e q.symm)] at hj
      obtain ⟨h1, h2⟩ := me_c2_at hj
      refine h.2.2 (j, ms_v base xt w) (List.mem_cons_of_mem _ (List.mem_filter.mpr ⟨ms_A_in h1, ?_⟩))
      simp only [ms_cat, Bool.and_eq_true, Bool.not_eq_true', beq_eq_false_iff_ne, ne_eq, Bool.and_eq_false_iff]
      refine ⟨e, e1, ?_⟩
      by_cases z : j + 1 = i
      · exact Or.inr fun q => h2 ⟨z, q⟩
      · exact Or.inl z
