/-! copies: a stretch of a row into another one, a row's clone -/
theorem me_rd_cp_other {h : mh_H} {o sp d dp n b j : Nat} (hb : b ≠ d) : me_rd (mh_cp h o sp d dp n) b j = me_rd h b j := by
  show (match mt_tc (mh_k h b) j with | 1 => Value.long (if b = d ∧ dp ≤ j ∧ j < dp + n then mh_j h o (sp + (j - dp)) else mh_j h b j) | 2 => va_rf (mh_r h b j) | 4 => me_xr (if b = d ∧ dp ≤ j ∧ j < dp + n then mh_i h o (sp + (j - dp)) else mh_i h b j) | _ => Value.int (if b = d ∧ dp ≤ j ∧ j < dp + n then mh_i h o (sp + (j - dp)) else mh_i h b j)) = _
  simp only [hb, false_and, if_false]
  rfl
theorem me_rd_cp {h : mh_H} {o sp d dp n j : Nat} (hk : mh_k h o = mh_k h d) (h1 : 100 ≤ mh_k h d) (h2 : mh_k h d < 104) : me_rd (mh_cp h o sp d dp n) d j = if dp ≤ j ∧ j < dp + n then me_rd h o (sp + (j - dp)) else me_rd h d j := by
  show (match mt_tc (mh_k h d) j with | 1 => Value.long (if d = d ∧ dp ≤ j ∧ j < dp + n then mh_j h o (sp + (j - dp)) else mh_j h d j) | 2 => va_rf (mh_r h d j) | 4 => me_xr (if d = d ∧ dp ≤ j ∧ j < dp + n then mh_i h o (sp + (j - dp)) else mh_i h d j) | _ => Value.int (if d = d ∧ dp ≤ j ∧ j < dp + n then mh_i h o (sp + (j - dp)) else mh_i h d j)) = _
  have e : mh_k h d = 100 ∨ mh_k h d = 101 ∨ mh_k h d = 102 ∨ mh_k h d = 103 := by omega
  unfold me_rd
  rw [hk]
  simp only [true_and]
  by_cases hj : dp ≤ j ∧ j < dp + n
  · simp only [hj, and_self, if_true]
    rcases e with e | e | e | e <;> rw [e] <;> rfl
  · simp only [hj, if_false]
    rfl
theorem ms_H_cp {D : va_G} {cA : Nat → ClassId} {base : Nat} {xt : Nat → Option Nat} {h : mh_H} {o sp d dp n : Nat} {H H' : Heap} (hH : ms_H D cA base xt h H) (hk : mh_k h o = mh_k h d) (h1 : 100 ≤ mh_k h d) (h2 : mh_k h d < 104) (e1 : H'[base + d]? = some (arrV (cA (mh_k h d)) (mh_l h d) (va_cpy (fun k => ms_v base xt (me_rd h o k)) (fun k => ms_v base xt (me_rd h d k)) sp dp n))) (e2 : H'.size = H.size) (e3 : ∀ q, q ≠ base + d → H'[q]? = H[q]?) : ms_H D cA base xt (mh_cp h o sp d dp n) H' := by
  refine ⟨by rw [e2]; exact hH.1, fun b hb => ?_⟩
  have hb' : b < mh_n h := hb
  have hat := hH.2 b hb'
  by_cases e : b = d
  · subst e
    unfold ms_at
    show (mh_k h b < 100 → _) ∧ (100 ≤ mh_k h b → _)
    refine ⟨fun q => absurd h1 (by omega), fun _ => ⟨by show mh_k h b < 108; omega, ?_⟩⟩
    rw [e1]
    show _ = some (arrV (cA (mh_k h b)) (mh_l h b) _)
    congr 2
    funext j
    rw [me_rd_cp hk h1 h2]
    unfold va_cpy
    by_cases hj : dp ≤ j ∧ j < dp + n
    · rw [if_pos hj, if_pos hj]
    · rw [if_neg hj, if_neg hj]
  · have hq : H'[base + b]? = H[base + b]? := e3 _ (by omega)
    have ev : (fun j => ms_v base xt (me_rd (mh_cp h o sp d dp n) b j)) = fun j => ms_v base xt (me_rd h b j) := funext fun j => by rw [me_rd_cp_other e]
    unfold ms_at
    rw [ev, hq]
    refine ⟨fun hkk => ⟨(hat.1 hkk).1, ?_⟩, hat.2⟩
    obtain ⟨cell, q1, q2⟩ := (hat.1 hkk).2
    exact ⟨cell, by rw [hq]; exact q1, q2⟩
theorem me_bf_fits {base : Nat} {xt : Nat → Option Nat} {h : mh_H} {o i : Nat} (hb : me_bf h o = true) (h1 : 100 ≤ mh_k h o) (h2 : mh_k h o < 104) (hi : i < mh_l h o) : fits (ms_ety (mh_k h o)) (ms_v base xt (me_rd h o i)) = true := by
  have e : mh_k h o = 100 ∨ mh_k h o = 101 ∨ mh_k h o = 102 ∨ mh_k h o = 103 := by omega
  unfold me_bf at hb
  unfold me_rd
  rcases e with e | e | e | e
  · rw [e]; rfl
  · rw [e]; rfl
  · rw [e] at hb ⊢
    have hb := List.all_eq_true.mp (by simpa using hb) i (List.mem_range.mpr hi)
    exact hb
  · rw [e] at hb ⊢
    have hb := List.all_eq_true.mp (by simpa using hb) i (List.mem_range.mpr hi)
    exact hb
theorem me_bf_ref {kind : Nat} (h1 : 100 ≤ kind) (h2 : kind < 104) : refKind (ms_ety kind) = false := by
  have e : kind = 100 ∨ kind = 101 ∨ kind = 102 ∨ kind = 103 := by omega
  rcases e with rfl | rfl | rfl | rfl <;> rfl
theorem me_rd_prim {base : Nat} {xt : Nat → Option Nat} {h : mh_H} {o i : Nat} (h1 : 100 ≤ mh_k h o) (h2 : mh_k h o < 104) : (∃ x, ms_v base xt (me_rd h o i) = .int x) ∨ ∃ x, ms_v base xt (me_rd h o i) = .long x := by
  have e : mh_k h o = 100 ∨ mh_k h o = 101 ∨ mh_k h o = 102 ∨ mh_k h o = 103 := by omega
  unfold me_rd
  rcases e with e | e | e | e <;> rw [e] <;> first | exact Or.inl ⟨_, rfl⟩ | exact Or.inr ⟨_, rfl⟩
theorem me_rd_cl_old {h : mh_H} {o b j : Nat} (hb : b < mh_n h) : me_rd (mh_cl h o) b j = me_rd h b j := by
  have e : b ≠ mh_n h := by omega
  show (match mt_tc (mh_w (mh_k h) (mh_n h) (mh_k h o) b) j with | 1 => Value.long (mh_w (mh_j h) (mh_n h) (mh_j h o) b j) | 2 => va_rf (mh_w (mh_r h) (mh_n h) (mh_r h o) b j) | 4 => me_xr (mh_w (mh_i h) (mh_n h) (mh_i h o) b j) | _ => Value.int (mh_w (mh_i h) (mh_n h) (mh_i h o) b j)) = _
  simp only [mh_w, e, if_false]
  rfl
theorem me_rd_cl {h : mh_H} {o j : Nat} : me_rd (mh_cl h o) (mh_n h) j = me_rd h o j := by
  show (match mt_tc (mh_w (mh_k h) (mh_n h) (mh_k h o) (mh_n h)) j with | 1 => Value.long (mh_w (mh_j h) (mh_n h) (mh_j h o) (mh_n h) j) | 2 => va_rf (mh_w (mh_r h) (mh_n h) (mh_r h o) (mh_n h) j) | 4 => me_xr (mh_w (mh_i h) (mh_n h) (mh_i h o) (mh_n h) j) | _ => Value.int (mh_w (mh_i h) (mh_n h) (mh_i h o) (mh_n h) j)) = _
  simp only [mh_w, if_true]
  rfl
theorem mh_k_cl {h : mh_H} {o : Nat} : mh_k (mh_cl h o) (mh_n h) = mh_k h o := by
  show mh_w (mh_k h) (mh_n h) (mh_k h o) (mh_n h) = _
  simp [mh_w]
theorem mh_l_cl {h : mh_H} {o : Nat} : mh_l (mh_cl h o) (mh_n h) = mh_l h o := by
  show mh_w (mh_l h) (mh_n h) (mh_l h o) (mh_n h) = _
  simp [mh_w]
theorem mh_k_cl_old {h : mh_H} {o b : Nat} (hb : b < mh_n h) : mh_k (mh_cl h o) b = mh_k h b := by
  have e : b ≠ mh_n h := by omega
  show mh_w (mh_k h) (mh_n h) (mh_k h o) b = _
  simp [mh_w, e]
theorem mh_l_cl_old {h : mh_H} {o b : Nat} (hb : b < mh_n h) : mh_l (mh_cl h o) b = mh_l h b := by
  have e : b ≠ mh_n h := by omega
  show mh_w (mh_l h) (mh_n h) (mh_l h o) b = _
  simp [mh_w, e]
theorem ms_H_cl {D : va_G} {cA : Nat → ClassId} {base : Nat} {xt : Nat → Option Nat} {h : mh_H} {o : Nat} {H : Heap} (hH : ms_H D cA base xt h H) (h1 : 100 ≤ mh_k h o) (h2 : mh_k h o < 108) : ms_H D cA base xt (mh_cl h o) (H.push (arrV (cA (mh_k h o)) (mh_l h o) (fun k => ms_v base xt (me_rd h o k)))) := by
  refine ⟨by rw [Array.size_push, hH.1]; show _ = base + (mh_n h + 1); omega, fun b hb => ?_⟩
  have hb' : b < mh_n h + 1 := hb
  by_cases e : b = mh_n h
  · subst e
    unfold ms_at
    rw [mh_k_cl, mh_l_cl]
    refine ⟨fun z => by omega, fun _ => ⟨h2, ?_⟩⟩
    rw [← hH.1, Array.getElem?_push_size]
    congr 2
    funext j
    rw [me_rd_cl]
  · have hlt : b < mh_n h := by omega
    have hq : (H.push (arrV (cA (mh_k h o)) (mh_l h o) (fun k => ms_v base xt (me_rd h o k))))[base + b]? = H[base + b]? := by
      rw [Array.getElem?_push, if_neg (by rw [hH.1]; omega)]
    have e : (fun j => ms_v base xt (me_rd (mh_cl h o) b j)) = fun j => ms_v base xt (me_rd h b j) := funext fun j => by rw [me_rd_cl_old hlt]
    have hat := hH.2 b hlt
    unfold ms_at
    rw [mh_k_cl_old hlt, mh_l_cl_old hlt, e, hq]
    refine ⟨fun hk => ⟨(hat.1 hk).1, ?_⟩, hat.2⟩
    obtain ⟨cell, q1, q2⟩ := (hat.1 hk).2
    exact ⟨cell, by rw [hq]; exact q1, q2⟩
section MSK
variable {p : Program} {l : Launch} {e : Env} {R : Room} {s : State} {m : MethodId} {args : Array Value} {below : List Frame} {meth : Method} {c : Code} {D : va_G} {cA : Nat → ClassId} {base n0 s0 nL : Nat} {xt : Nat → Option Nat} {Q : State → Prop} {M : me_M} {y : Nat}
variable {a b : Nat} {v : Int} {pc pc' : Nat} {ls ls' : me_L} {st st' : List Value} {h h' : mh_H}
theorem mo_copy {idx o d : Nat} {sp dp n : Int32} {r : List Value} (E : ms_E p s m args meth c M y D cA) (hnl : (M y).2.2.1 = nL) (hR : 1 ≤ R.frames ∧ 40 ≤ R.locals) (hd : decode (M y).2.1 pc = .ok (.invokestatic idx, 3)) (hq : Jvm.Cond.methodLink (M y).1.cls idx arraycopyName ∈ ms_tb ∧ Jvm.Cond.native arraycopyName ∈ ms_tb ∧ Jvm.Cond.static arraycopyName ∈ ms_tb ∧ Jvm.Cond.initialized "java/lang/System" ∈ ms_tb) (hc : me_cpok h o d sp dp n = true) (hw : (r.map fun v => v.category).sum ≤ 8) (k : ms_W p l e R s m args below meth c D cA base xt n0 s0 nL Q (pc + 3) ls r (mh_cp h o sp.toNatClampNeg d dp.toNatClampNeg n.toNatClampNeg)) : ms_W p l e R s m args below meth c D cA base xt n0 s0 nL Q pc ls (.int n :: .int dp :: .ref d :: .int sp :: .ref o :: r) h := by
  obtain ⟨hx, hb, hml, hown, hts, hK, hr, hlk, hnm⟩ := E
  obtain ⟨g1, g2, g3, g4⟩ := hq
  simp only [me_cpok, Bool.and_eq_true, decide_eq_true_eq] at hc
  obtain ⟨⟨ho, hdn, hk, hk1, hk2⟩, ⟨hsp, hdp, hn, hl1, hl2⟩, hbf⟩ := hc
  intro h1 h2 H locs rs hH hF hL hS
  have nn : ∀ z : Int32, 0 ≤ z → z.toInt = (z.toNatClampNeg : Int) := by
    intro z hz
    have hz0 : (0 : Int) ≤ z.toInt := by simpa using Int32.le_iff_toInt_le.mp hz
    show z.toInt = ((z.toInt.toNat : Nat) : Int)
    omega
  obtain ⟨c0, a0⟩ := ms_arr hK hH ho (by rw [hk]; exact hk1)
  obtain ⟨c1, a1⟩ := ms_arr hK hH hdn hk1
  obtain ⟨-, k0, hk0, cm0, hkk0⟩ := a0
  obtain ⟨-, k1, hk1', cm1, hkk1⟩ := a1
  rw [hk] at hkk0
  intro T hT XX
  obtain ⟨vm', X', step⟩ := XX.arraycopy hx hown (hts _ g1) (hts _ g2) (hts _ g3) (hts _ g4) (src := base + o) (dst := base + d) (srcPos := sp) (destPos := dp) (n := n) (by rw [hT]; exact c0) (by rw [hT]; exact c1)
    (fun _ h => by cases h) (fun _ h => by cases h) (fun h => by cases h) (fun h => by cases h) hk0 hk1' hkk0 hkk1 (by simp [me_bf_ref hk1 hk2]) (fun z => absurd hsp (Int32.not_le.mpr z)) (fun z => absurd hdp (Int32.not_le.mpr z)) (fun z => absurd hn (Int32.not_le.mpr z))
    (by rw [nn sp hsp, nn n hn, arrV_size]; omega)
    (by rw [nn dp hdp, nn n hn, arrV_size]; omega)
    (fun vm₁ _ i hi => by
      have ee : (arrV (cA (mh_k h o)) (mh_l h o) (fun k => ms_v base xt (me_rd h o k))).slots.getD (sp.toNatClampNeg + i) .null = ms_v base xt (me_rd h o (sp.toNatClampNeg + i)) := by
        rw [Array.getD_eq_getD_getElem?, arrV_read _ _ (by omega)]
        rfl
      have hfit := me_bf_fits (base := base) (xt := xt) hbf (by rw [hk]; exact hk1) (by rw [hk]; exact hk2) (show sp.toNatClampNeg + i < mh_l h o by omega)
      rw [hk] at hfit
      refine ⟨?_, ?_⟩
      · rw [ee]
        exact hfit
      · rw [ee]
        rcases me_rd_prim (base := base) (xt := xt) (h := h) (o := o) (i := sp.toNatClampNeg + i) (by rw [hk]; exact hk1) (by rw [hk]; exact hk2) with ⟨x, hxv⟩ | ⟨x, hxv⟩ <;> rw [hxv] <;> exact trivial)
    (g := F0 m pc rs ((Value.int n :: .int dp :: .ref d :: .int sp :: .ref o :: r).map (ms_v base xt))) rfl (hS.2.1.trans (hnl.symm.trans hml.symm)) (rest := r.map (ms_v base xt)) rfl (by rw [hb]; exact hd) hR.1 (by rw [ms_cats]; show 2 * 0 + _ + (nativeFrameWords "java/lang/System" "arraycopy" 5 + 11) ≤ _; have e9 : nativeFrameWords "java/lang/System" "arraycopy" 5 + 11 ≤ 30 := (by decide +kernel); omega)
  have e1 : copied (arrV (cA (mh_k h o)) (mh_l h o) (fun k => ms_v base xt (me_rd h o k))) (arrV (cA (mh_k h d)) (mh_l h d) (fun k => ms_v base xt (me_rd h d k))) sp dp n = arrV (cA (mh_k h d)) (mh_l h d) (va_cpy (fun k => ms_v base xt (me_rd h o k)) (fun k => ms_v base xt (me_rd h d k)) sp.toNatClampNeg dp.toNatClampNeg n.toNatClampNeg) := va_copied (fun z => z) _ _ _ _ hl1
  rw [e1] at X' step
  have hlt : base + d < H.size := (Array.getElem?_eq_some_iff.mp c1).1
  obtain ⟨t, a9, b9⟩ := k h1 h2 (H.setIfInBounds (base + d) (arrV (cA (mh_k h d)) (mh_l h d) (va_cpy (fun k => ms_v base xt (me_rd h o k)) (fun k => ms_v base xt (me_rd h d k)) sp.toNatClampNeg dp.toNatClampNeg n.toNatClampNeg))) _ rs (ms_H_cp hH hk hk1 hk2 (by simp [Array.getElem?_setIfInBounds, hlt]) (by simp) (fun q hq => by simp [Array.getElem?_setIfInBounds, Ne.symm hq])) (fun q hq => by
      have e9 : ¬ base + d = q := by omega
      simp only [Array.getElem?_setIfInBounds, e9, if_false]
      exact hF q hq) (fun q hq => by
      rcases List.mem_append.mp hq with h9 | h9
      · exact hL q h9
      · obtain ⟨z, -, hz⟩ := List.mem_map.mp h9
        rw [← hz]
        exact Nat.le_add_right _ _) hS _ (by rw [← hT]; rfl) X'
  exact ⟨t, step t a9, b9⟩
theorem mo_clone {idx o : Nat} {r : List Value} (E : ms_E p s m args meth c M y D cA) (hnl : (M y).2.2.1 = nL) (hX : mx_ok base xt s) (hR : 1 ≤ R.frames ∧ 40 ≤ R.locals) (hd : decode (M y).2.1 pc = .ok (.invokevirtual idx, 3)) (hq : ms_clw (M y).1.cls idx) (ho : o < mh_n h) (hk : mh_k h o = 102) (hbf : me_bf h o = true) (hw : (r.map fun v => v.category).sum ≤ 8) (hR1 : mh_n h + 1 - n0 ≤ R.cells) (hR2 : mh_s h + mh_l h o - s0 ≤ R.slots) (k : ms_W p l e R s m args below meth c D cA base xt n0 s0 nL Q (pc + 3) ls (.ref (mh_n h) :: r) (mh_cl h o)) : ms_W p l e R s m args below meth c D cA base xt n0 s0 nL Q pc ls (.ref o :: r) h := by
  obtain ⟨hx, hb, hml, hown, hts, hK, hr, hlk, hnm⟩ := E
  obtain ⟨g1, g2, g3, g4, g5⟩ := hq
  intro h1 h2 H locs rs hH hF hL hS
  have e1 : mh_n h + 1 - n0 = mh_n h - n0 + 1 := by omega
  have e2 : mh_s h + mh_l h o - s0 = mh_s h - s0 + mh_l h o := by omega
  rw [e1] at hR1
  rw [e2] at hR2
  obtain ⟨c0, t0', f1, f2, f3⟩ := Cond.castable_spec (va_Nw.use (A := args) rfl hX.2.2.2.2.2)
  have ht := (hK.2 2 _ (ms_ty_at cA (kind := 102) (by decide) (by decide)))
  have hnm2 : s.vm.findClass "[B" = some (cA 102) := ht.2
  cases hnm2.symm.trans f1
  obtain ⟨cc0, -⟩ := ms_arr hK hH ho (by rw [hk]; decide)
  obtain ⟨-, kS, hkS, compS, hkindS⟩ := ht.1 0 (fun _ => .null)
  intro T hT XX
  have hcellT : T.heap[base + o]? = some (arrV (cA (mh_k h o)) (mh_l h o) (fun k => ms_v base xt (me_rd h o k))) := by rw [hT]; exact cc0
  obtain ⟨-, kA, hkA, comp, hkind⟩ := State.isArrayOf_alike XX.warmed.alike (ht.1 0 (fun _ => .null))
  obtain ⟨vm', X', st9⟩ := XX.cloneArray hx hown (hts _ g1) (hts _ g2) (hts _ g3) (hts _ g4) (hts _ g5) (a := base + o) hcellT (fun k h => by cases h) (fun h => by cases h) (by show _ = some (cA (mh_k h o)); rw [hk]; exact hnm2) f2 (by show s.vm.assignable (cA (mh_k h o)) _ = true; rw [hk]; exact f3)
    (fun i w hv => by
      show T.fitsSlot (cA (mh_k h o)) _ _ _ = true
      rw [hk]
      have hk' : T.vm.classes[cA 102]? = some kA := hkA
      have hi : i < mh_l h o := by
        have := (Array.getElem?_eq_some_iff.mp hv).1
        rw [arrV_size] at this
        exact this
      rw [arrV_read _ _ hi] at hv
      cases hv
      have hfit := me_bf_fits (base := base) (xt := xt) hbf (by rw [hk]; decide) (by rw [hk]; decide) hi
      rw [hk] at hfit
      simpa [State.fitsSlot, State.slotType?, hk', hkind] using hfit)
    (g := F0 m pc rs ((Value.ref o :: r).map (ms_v base xt))) rfl (hS.2.1.trans (hnl.symm.trans hml.symm)) rfl (by rw [hb]; exact hd) hR.1 (by rw [ms_cats]; show 2 * 0 + _ + 14 ≤ _; omega) hR1 (by rw [arrV_size]; exact hR2) (hloader := by show _ = _; exact Vm.clonesLoader_of_array (by show s.vm.classes[cA (mh_k h o)]? = some kS; rw [hk]; exact hkS) hkindS)
  have z := k ⟨show n0 ≤ mh_n h + 1 by omega, h1.2⟩ (show s0 ≤ mh_s h + mh_l h o by omega) (H.push (arrV (cA (mh_k h o)) (mh_l h o) (fun k => ms_v base xt (me_rd h o k)))) locs rs (ms_H_cl hH (by rw [hk]; decide) (by rw [hk]; decide)) (fun q hq => by
    rw [Array.getElem?_push, if_neg (by rw [hH.1]; omega)]
    exact hF q hq) hL hS
  rw [show mh_n (mh_cl h o) - n0 = mh_n h - n0 + 1 from e1, show mh_s (mh_cl h o) - s0 = mh_s h - s0 + mh_l h o from e2] at z
  rw [arrV_size] at X'
  obtain ⟨t, a9, b9⟩ := z _ (by rw [← hT]; rfl) X'
  refine ⟨t, st9 t ?_, b9⟩
  rw [hT, hH.1]
  exact a9
end MSK
