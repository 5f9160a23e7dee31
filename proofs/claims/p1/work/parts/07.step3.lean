/-! the small machine's steps, third part: arrays, new cells -/
section MSQ
variable {p : Program} {l : Launch} {e : Env} {R : Room} {s : State} {m : MethodId} {args : Array Value} {below : List Frame} {meth : Method} {c : Code} {D : va_G} {cA : Nat → ClassId} {base n0 s0 nL : Nat} {xt : Nat → Option Nat} {Q : State → Prop} {M : me_M} {y : Nat}
variable {a b : Nat} {v : Int} {pc pc' : Nat} {ls ls' : me_L} {st st' : List Value} {h h' : mh_H}
theorem ms_arr {H : Heap} {o : Nat} (hK : va_K D mt_cl (ms_ty cA) s) (hH : ms_H D cA base xt h H) (ho : o < mh_n h) (hk : 100 ≤ mh_k h o) : H[base + o]? = some (arrV (cA (mh_k h o)) (mh_l h o) (fun k => ms_v base xt (me_rd h o k))) ∧ s.isArrayOf (arrV (cA (mh_k h o)) (mh_l h o) (fun k => ms_v base xt (me_rd h o k))) (ms_ety (mh_k h o)) := by
  obtain ⟨hlt, hc⟩ := (hH.2 o ho).2 hk
  exact ⟨hc, (hK.2 (mh_k h o - 100) _ (ms_ty_at cA hk hlt)).1 _ _⟩
theorem mt_tc_i {kind k : Nat} (h : (decide (kind = 100) || (decide (kind = 102) || decide (kind = 103))) = true) : mt_tc kind k = 0 := by
  simp only [Bool.or_eq_true, decide_eq_true_eq] at h
  rcases h with rfl | rfl | rfl <;> rfl
theorem ms_inx {i : Int32} {n : Nat} {cI : ClassId} {f : Nat → Value} (h0 : 0 ≤ i) (hlt : i.toNatClampNeg < n) : ¬ (i < 0 ∨ (arrV cI n f).slots.size ≤ i.toNatClampNeg) := by
  rw [arrV_size]
  rintro (z | z)
  · exact absurd h0 (Int32.not_le.mpr z)
  · omega

theorem mo_iaload (E : ms_E p s m args meth c M y D cA) (hd : decode (M y).2.1 pc = .ok (.iaload, 1)) (hX : mx_ok base xt s) (hs : mm_ins (.iaload) a b v pc ls st h = some (.inl (pc', ls', st', h'))) (k : ms_W p l e R s m args below meth c D cA base xt n0 s0 nL Q pc' ls' st' h') : ms_W p l e R s m args below meth c D cA base xt n0 s0 nL Q pc ls st h := by
  obtain ⟨hx, hb, hml, hown, hts, hK, hr, hlk, hnm⟩ := E
  unfold mm_ins at hs
  dsimp only at hs
  split at hs
  next i o r =>
    obtain ⟨hc, hs⟩ := me_1_some hs
    simp only [Bool.and_eq_true, decide_eq_true_eq] at hc
    obtain ⟨ho, hk, h0, hlt⟩ := me_ix_some hc.1
    cases hs
    intro h1 h2 H locs rs hH hF hL hS
    obtain ⟨g1, g2⟩ := ms_arr hK hH ho hk
    have hrd : me_rd h o i.toNatClampNeg = .int (mh_i h o i.toNatClampNeg) := by
      unfold me_rd
      rw [hc.2]
      rfl
    rw [show ms_ety (mh_k h o) = ms_ety 100 by rw [hc.2]] at g2
    exact W.iald (v := ms_v base xt (.int (mh_i h o i.toNatClampNeg))) hx hb g1 g2 (fun z => by cases z) (ms_inx h0 hlt) (by rw [arrV_read _ _ hlt, hrd]) rfl rfl hd (k h1 h2 H locs rs hH hF hL hS)
  next i x r =>
    obtain ⟨hc, hs⟩ := me_1_some hs
    cases hs
    simp only [Bool.and_eq_true, decide_eq_true_eq] at hc
    obtain ⟨rfl, h0, hlt⟩ := hc
    intro h1 h2 H locs rs hH hF hL hS
    have kk := (k h1 h2 H locs rs hH hF hL hS)
    have hSS := mx_S (n := n0) h1.2 (by rw [hH.1]; omega) hF hL
    obtain ⟨t, e1, -, e3⟩ := hX.2.2.1
    rw [List.map_cons, List.map_cons, show ms_v base xt (.retAddr 2) = .ref t by show va_rf (xt 2) = _; rw [e1]; rfl]
    exact va_ti hx hb e3 hSS (fun z => z.elim (fun z => absurd h0 (Int32.not_le.mpr z)) (fun z => absurd hlt (Nat.not_lt.mpr z))) rfl hd kk
  next => cases hs
theorem mo_laload (E : ms_E p s m args meth c M y D cA) (hd : decode (M y).2.1 pc = .ok (.laload, 1)) (hs : mm_ins (.laload) a b v pc ls st h = some (.inl (pc', ls', st', h'))) (k : ms_W p l e R s m args below meth c D cA base xt n0 s0 nL Q pc' ls' st' h') : ms_W p l e R s m args below meth c D cA base xt n0 s0 nL Q pc ls st h := by
  obtain ⟨hx, hb, hml, hown, hts, hK, hr, hlk, hnm⟩ := E
  unfold mm_ins at hs
  dsimp only at hs
  split at hs
  next i o r =>
    obtain ⟨hc, hs⟩ := me_1_some hs
    simp only [Bool.and_eq_true, decide_eq_true_eq] at hc
    obtain ⟨ho, hk, h0, hlt⟩ := me_ix_some hc.1
    cases hs
    intro h1 h2 H locs rs hH hF hL hS
    obtain ⟨g1, g2⟩ := ms_arr hK hH ho hk
    have hrd : me_rd h o i.toNatClampNeg = .long (mh_j h o i.toNatClampNeg) := by
      unfold me_rd
      rw [hc.2]
      rfl
    rw [show ms_ety (mh_k h o) = ms_ety 101 by rw [hc.2]] at g2
    exact W.lald (v := ms_v base xt (.long (mh_j h o i.toNatClampNeg))) hx hb g1 g2 (fun z => by cases z) (ms_inx h0 hlt) (by rw [arrV_read _ _ hlt, hrd]) rfl rfl hd (k h1 h2 H locs rs hH hF hL hS)
  next => cases hs
theorem mo_baload (E : ms_E p s m args meth c M y D cA) (hd : decode (M y).2.1 pc = .ok (.baload, 1)) (hX : mx_ok base xt s) (hs : mm_ins (.baload) a b v pc ls st h = some (.inl (pc', ls', st', h'))) (k : ms_W p l e R s m args below meth c D cA base xt n0 s0 nL Q pc' ls' st' h') : ms_W p l e R s m args below meth c D cA base xt n0 s0 nL Q pc ls st h := by
  obtain ⟨hx, hb, hml, hown, hts, hK, hr, hlk, hnm⟩ := E
  unfold mm_ins at hs
  dsimp only at hs
  split at hs
  next i o r =>
    obtain ⟨hc, hs⟩ := me_1_some hs
    simp only [Bool.and_eq_true, Bool.or_eq_true, decide_eq_true_eq] at hc
    obtain ⟨ho, hk, h0, hlt⟩ := me_ix_some hc.1
    cases hs
    intro h1 h2 H locs rs hH hF hL hS
    obtain ⟨g1, g2⟩ := ms_arr hK hH ho hk
    rcases hc.2 with hc2 | hc2
    · have hrd : me_rd h o i.toNatClampNeg = .int (mh_i h o i.toNatClampNeg) := by
        unfold me_rd
        rw [hc2]
        rfl
      rw [show ms_ety (mh_k h o) = ms_ety 102 by rw [hc2]] at g2
      exact W.bald (v := ms_v base xt (.int (mh_i h o i.toNatClampNeg))) hx hb g1 g2 (fun z => by cases z) (ms_inx h0 hlt) (by rw [arrV_read _ _ hlt, hrd]) rfl rfl hd (k h1 h2 H locs rs hH hF hL hS)
    · have hrd : me_rd h o i.toNatClampNeg = .int (mh_i h o i.toNatClampNeg) := by
        unfold me_rd
        rw [hc2]
        rfl
      rw [show ms_ety (mh_k h o) = ms_ety 103 by rw [hc2]] at g2
      exact W.zald (v := ms_v base xt (.int (mh_i h o i.toNatClampNeg))) hx hb g1 g2 (fun z => by cases z) (ms_inx h0 hlt) (by rw [arrV_read _ _ hlt, hrd]) rfl rfl hd (k h1 h2 H locs rs hH hF hL hS)
  next i x r =>
    obtain ⟨hc, hs⟩ := me_1_some hs
    cases hs
    simp only [Bool.and_eq_true, decide_eq_true_eq] at hc
    obtain ⟨hx1, h0, hlt⟩ := hc
    obtain ⟨j, hj, hjx⟩ := me_xb_some hx1
    have hj3 : x / 3 - 1 = j := by omega
    rw [hj3] at hlt k
    intro h1 h2 H locs rs hH hF hL hS
    have kk := (k h1 h2 H locs rs hH hF hL hS)
    have hSS := mx_S (n := n0) h1.2 (by rw [hH.1]; omega) hF hL
    obtain ⟨t, bb, e1, e2, e3, e4, e5, e6⟩ := hX.1 j hj
    rw [List.map_cons, List.map_cons, show ms_v base xt (.retAddr x) = .ref bb by show va_rf (xt x) = _; rw [hjx, e2]; rfl]
    exact va_tb hx hb e6 hSS (fun z => z.elim (fun z => absurd h0 (Int32.not_le.mpr z)) (fun z => absurd hlt (Nat.not_lt.mpr z))) rfl hd kk
  next => cases hs
theorem ms_ety_ref {kind : Nat} (h1 : 104 ≤ kind) : ∃ C, ms_ety kind = .object C := by
  unfold ms_ety
  rw [if_neg (by omega), if_neg (by omega), if_neg (by omega), if_neg (by omega)]
  split
  · exact ⟨_, rfl⟩
  · split
    · exact ⟨_, rfl⟩
    · split <;> exact ⟨_, rfl⟩
theorem mt_tc_ref {kind k : Nat} (h1 : 104 ≤ kind) (h2 : kind < 107) : mt_tc kind k = 2 := by
  unfold mt_tc
  rw [if_neg (by omega), if_neg (by omega), if_neg (by omega), if_neg (by omega)]
theorem mt_zero_ref {kind k : Nat} (h1 : 104 ≤ kind) (h2 : kind < 108) : mt_zero (mt_tc kind k) = .null := by
  by_cases e : kind = 107
  · rw [e]; rfl
  · rw [mt_tc_ref h1 (by omega)]; rfl

theorem mo_aaload (E : ms_E p s m args meth c M y D cA) (hd : decode (M y).2.1 pc = .ok (.aaload, 1)) (hs : mm_ins (.aaload) a b v pc ls st h = some (.inl (pc', ls', st', h'))) (k : ms_W p l e R s m args below meth c D cA base xt n0 s0 nL Q pc' ls' st' h') : ms_W p l e R s m args below meth c D cA base xt n0 s0 nL Q pc ls st h := by
  obtain ⟨hx, hb, hml, hown, hts, hK, hr, hlk, hnm⟩ := E
  unfold mm_ins at hs
  dsimp only at hs
  split at hs
  next i o r =>
    obtain ⟨hc, hs⟩ := me_1_some hs
    simp only [Bool.and_eq_true, decide_eq_true_eq] at hc
    obtain ⟨ho, hk, h0, hlt⟩ := me_ix_some hc.1
    cases hs
    intro h1 h2 H locs rs hH hF hL hS
    obtain ⟨g1, g2⟩ := ms_arr hK hH ho hk
    obtain ⟨C, hC⟩ := ms_ety_ref hc.2.1
    rw [hC] at g2
    exact W.aald (v := ms_v base xt (me_rd h o i.toNatClampNeg)) (ty := .object C) hx hb g1 g2 rfl (fun z => by cases z) (ms_inx h0 hlt) (by rw [arrV_read _ _ hlt]) rfl rfl hd (k h1 h2 H locs rs hH hF hL hS)
  next => cases hs
theorem mo_iastore (E : ms_E p s m args meth c M y D cA) (hd : decode (M y).2.1 pc = .ok (.iastore, 1)) (hs : mm_ins (.iastore) a b v pc ls st h = some (.inl (pc', ls', st', h'))) (k : ms_W p l e R s m args below meth c D cA base xt n0 s0 nL Q pc' ls' st' h') : ms_W p l e R s m args below meth c D cA base xt n0 s0 nL Q pc ls st h := by
  obtain ⟨hx, hb, hml, hown, hts, hK, hr, hlk, hnm⟩ := E
  unfold mm_ins at hs
  dsimp only at hs
  split at hs
  next x i o r =>
    obtain ⟨hc, hs⟩ := me_1_some hs
    simp only [Bool.and_eq_true, decide_eq_true_eq] at hc
    obtain ⟨ho, hk, h0, hlt⟩ := me_ix_some hc.1
    cases hs
    intro h1 h2 H locs rs hH hF hL hS
    obtain ⟨g1, g2⟩ := ms_arr hK hH ho hk
    rw [show ms_ety (mh_k h o) = ms_ety 100 by rw [hc.2]] at g2
    have hu := (me_up_i (x := x) (by rw [hc.2, mt_tc_i rfl]; decide) (by rw [hc.2, mt_tc_i rfl]; decide) (by rw [hc.2, mt_tc_i rfl]; decide) : me_up h o i.toNatClampNeg _ _)
    have fin : ∀ H' : Heap, H'[base + o]? = some ((arrV (cA (mh_k h o)) (mh_l h o) (fun k => ms_v base xt (me_rd h o k))).setSlot i.toNatClampNeg (ms_v base xt (.int x))) → H'.size = H.size → (∀ q, q ≠ base + o → H'[q]? = H[q]?) → W p l e R s m args below meth c H' (locs ++ [⟨base + o, i.toNatClampNeg⟩]) (mh_n h - n0) (mh_s h - s0) Q (F0 m (pc + 1) rs (st'.map (ms_v base xt))) := fun H' e1 e2 e3 => k h1 h2 H' _ rs (ms_H_arr hH ho hk hu e1 e2 e3) (fun u hu' => by rw [e3 u (by omega)]; exact hF u hu') (fun u hu' => by
      rcases List.mem_append.mp hu' with h9 | h9
      · exact hL u h9
      · rw [List.mem_singleton.mp h9]; exact Nat.le_add_right _ _) hS
    exact W.iast hx hb g1 g2 (fun z => by cases z) (ms_inx h0 hlt) rfl rfl hd fin
  next => cases hs
theorem mo_lastore (E : ms_E p s m args meth c M y D cA) (hd : decode (M y).2.1 pc = .ok (.lastore, 1)) (hs : mm_ins (.lastore) a b v pc ls st h = some (.inl (pc', ls', st', h'))) (k : ms_W p l e R s m args below meth c D cA base xt n0 s0 nL Q pc' ls' st' h') : ms_W p l e R s m args below meth c D cA base xt n0 s0 nL Q pc ls st h := by
  obtain ⟨hx, hb, hml, hown, hts, hK, hr, hlk, hnm⟩ := E
  unfold mm_ins at hs
  dsimp only at hs
  split at hs
  next x i o r =>
    obtain ⟨hc, hs⟩ := me_1_some hs
    simp only [Bool.and_eq_true, decide_eq_true_eq] at hc
    obtain ⟨ho, hk, h0, hlt⟩ := me_ix_some hc.1
    cases hs
    intro h1 h2 H locs rs hH hF hL hS
    obtain ⟨g1, g2⟩ := ms_arr hK hH ho hk
    rw [show ms_ety (mh_k h o) = ms_ety 101 by rw [hc.2]] at g2
    have hu := (me_up_j (x := x) (by rw [hc.2]; rfl) : me_up h o i.toNatClampNeg _ _)
    have fin : ∀ H' : Heap, H'[base + o]? = some ((arrV (cA (mh_k h o)) (mh_l h o) (fun k => ms_v base xt (me_rd h o k))).setSlot i.toNatClampNeg (ms_v base xt (.long x))) → H'.size = H.size → (∀ q, q ≠ base + o → H'[q]? = H[q]?) → W p l e R s m args below meth c H' (locs ++ [⟨base + o, i.toNatClampNeg⟩]) (mh_n h - n0) (mh_s h - s0) Q (F0 m (pc + 1) rs (st'.map (ms_v base xt))) := fun H' e1 e2 e3 => k h1 h2 H' _ rs (ms_H_arr hH ho hk hu e1 e2 e3) (fun u hu' => by rw [e3 u (by omega)]; exact hF u hu') (fun u hu' => by
      rcases List.mem_append.mp hu' with h9 | h9
      · exact hL u h9
      · rw [List.mem_singleton.mp h9]; exact Nat.le_add_right _ _) hS
    exact W.last hx hb g1 g2 (fun z => by cases z) (ms_inx h0 hlt) rfl rfl hd fin
  next => cases hs
theorem ms_nar_byte (x : Int32) : narrow .byte (.int x) = .int (vp_nar .byte x) := rfl
theorem ms_nar_bool (x : Int32) : narrow .boolean (.int x) = .int (vp_nar .boolean x) := rfl

theorem mo_bastore (E : ms_E p s m args meth c M y D cA) (hd : decode (M y).2.1 pc = .ok (.bastore, 1)) (hs : mm_ins (.bastore) a b v pc ls st h = some (.inl (pc', ls', st', h'))) (k : ms_W p l e R s m args below meth c D cA base xt n0 s0 nL Q pc' ls' st' h') : ms_W p l e R s m args below meth c D cA base xt n0 s0 nL Q pc ls st h := by
  obtain ⟨hx, hb, hml, hown, hts, hK, hr, hlk, hnm⟩ := E
  unfold mm_ins at hs
  dsimp only at hs
  split at hs
  next x i o r =>
    split at hs
    next hc2 =>
      have hc2 := of_decide_eq_true hc2
      obtain ⟨hc, hs⟩ := me_1_some hs
      obtain ⟨ho, hk, h0, hlt⟩ := me_ix_some hc
      cases hs
      intro h1 h2 H locs rs hH hF hL hS
      obtain ⟨g1, g2⟩ := ms_arr hK hH ho hk
      rw [show ms_ety (mh_k h o) = ms_ety 102 by rw [hc2]] at g2
      have hu := (me_up_i (x := vp_nar .byte x) (by rw [hc2, mt_tc_i rfl]; decide) (by rw [hc2, mt_tc_i rfl]; decide) (by rw [hc2, mt_tc_i rfl]; decide) : me_up h o i.toNatClampNeg _ _)
      have fin : ∀ H' : Heap, H'[base + o]? = some ((arrV (cA (mh_k h o)) (mh_l h o) (fun k => ms_v base xt (me_rd h o k))).setSlot i.toNatClampNeg (ms_v base xt (.int (vp_nar .byte x)))) → H'.size = H.size → (∀ q, q ≠ base + o → H'[q]? = H[q]?) → W p l e R s m args below meth c H' (locs ++ [⟨base + o, i.toNatClampNeg⟩]) (mh_n h - n0) (mh_s h - s0) Q (F0 m (pc + 1) rs (st'.map (ms_v base xt))) := fun H' e1 e2 e3 => k h1 h2 H' _ rs (ms_H_arr hH ho hk hu e1 e2 e3) (fun u hu' => by rw [e3 u (by omega)]; exact hF u hu') (fun u hu' => by
        rcases List.mem_append.mp hu' with h9 | h9
        · exact hL u h9
        · rw [List.mem_singleton.mp h9]; exact Nat.le_add_right _ _) hS
      exact W.bast hx hb g1 g2 (fun z => by cases z) (ms_inx h0 hlt) rfl rfl hd fin
    next =>
      obtain ⟨hc, hs⟩ := me_1_some hs
      simp only [Bool.and_eq_true, decide_eq_true_eq] at hc
      obtain ⟨ho, hk, h0, hlt⟩ := me_ix_some hc.1
      cases hs
      intro h1 h2 H locs rs hH hF hL hS
      obtain ⟨g1, g2⟩ := ms_arr hK hH ho hk
      rw [show ms_ety (mh_k h o) = ms_ety 103 by rw [hc.2]] at g2
      have hu := (me_up_i (x := vp_nar .boolean x) (by rw [hc.2, mt_tc_i rfl]; decide) (by rw [hc.2, mt_tc_i rfl]; decide) (by rw [hc.2, mt_tc_i rfl]; decide) : me_up h o i.toNatClampNeg _ _)
      have fin : ∀ H' : Heap, H'[base + o]? = some ((arrV (cA (mh_k h o)) (mh_l h o) (fun k => ms_v base xt (me_rd h o k))).setSlot i.toNatClampNeg (ms_v base xt (.int (vp_nar .boolean x)))) → H'.size = H.size → (∀ q, q ≠ base + o → H'[q]? = H[q]?) → W p l e R s m args below meth c H' (locs ++ [⟨base + o, i.toNatClampNeg⟩]) (mh_n h - n0) (mh_s h - s0) Q (F0 m (pc + 1) rs (st'.map (ms_v base xt))) := fun H' e1 e2 e3 => k h1 h2 H' _ rs (ms_H_arr hH ho hk hu e1 e2 e3) (fun u hu' => by rw [e3 u (by omega)]; exact hF u hu') (fun u hu' => by
        rcases List.mem_append.mp hu' with h9 | h9
        · exact hL u h9
        · rw [List.mem_singleton.mp h9]; exact Nat.le_add_right _ _) hS
      exact W.zast hx hb g1 g2 (fun z => by cases z) (ms_inx h0 hlt) rfl rfl hd fin
  next => cases hs
theorem me_xr_of {x : Nat} (h1 : 0 < x) (h2 : x < 1000) : me_xr (Int32.ofNat x) = .retAddr x := by
  have e1 : (nI x).toNatClampNeg = x := nI_clamp (by omega)
  have e2 : ¬ nI x = 0 := nI_ne0 h1 (by omega)
  unfold me_xr
  rw [show Int32.ofNat x = nI x from rfl, if_neg e2, e1]
theorem me_ac_cl {kind : Nat} (h1 : 104 ≤ kind) (h2 : kind < 107) : ∃ q, mt_cl[me_ac kind]? = some q ∧ ms_ety kind = .object q.1 := by
  have e : kind = 104 ∨ kind = 105 ∨ kind = 106 := by omega
  rcases e with rfl | rfl | rfl
  · exact ⟨_, rfl, rfl⟩
  · exact ⟨_, rfl, rfl⟩
  · exact ⟨_, rfl, rfl⟩
theorem me_rc_some {h : mh_H} {w ci : Nat} (hc : me_rc h (some (.ref w)) ci = true) : w < mh_n h ∧ mh_k h w = ci ∧ ci < 100 := by
  simpa [me_rc] using hc

theorem mo_aastore (E : ms_E p s m args meth c M y D cA) (hd : decode (M y).2.1 pc = .ok (.aastore, 1)) (hX : mx_ok base xt s) (hs : mm_ins (.aastore) a b v pc ls st h = some (.inl (pc', ls', st', h'))) (k : ms_W p l e R s m args below meth c D cA base xt n0 s0 nL Q pc' ls' st' h') : ms_W p l e R s m args below meth c D cA base xt n0 s0 nL Q pc ls st h := by
  obtain ⟨hx, hb, hml, hown, hts, hK, hr, hlk, hnm⟩ := E
  unfold mm_ins at hs
  dsimp only at hs
  split at hs
  next w i o r =>
    obtain ⟨hc, hs⟩ := me_1_some hs
    simp only [Bool.and_eq_true, decide_eq_true_eq] at hc
    obtain ⟨hc1, hc2, hc3, hc4⟩ := hc
    obtain ⟨ho, hk, h0, hlt⟩ := me_ix_some hc1
    obtain ⟨hw, hwk, hw100⟩ := me_rc_some hc4
    cases hs
    intro h1 h2 H locs rs hH hF hL hS
    obtain ⟨g1, -⟩ := ms_arr hK hH ho hk
    obtain ⟨q, hq1, hq2⟩ := me_ac_cl hc2 hc3
    have hu := (me_up_r (x := some w) (mt_tc_ref hc2 (by omega)) : me_up h o i.toNatClampNeg _ _)
    have fin : ∀ H' : Heap, H'[base + o]? = some ((arrV (cA (mh_k h o)) (mh_l h o) (fun k => ms_v base xt (me_rd h o k))).setSlot i.toNatClampNeg (ms_v base xt (.ref w))) → H'.size = H.size → (∀ q, q ≠ base + o → H'[q]? = H[q]?) → W p l e R s m args below meth c H' (locs ++ [⟨base + o, i.toNatClampNeg⟩]) (mh_n h - n0) (mh_s h - s0) Q (F0 m (pc + 1) rs (st'.map (ms_v base xt))) := fun H' e1 e2 e3 => k h1 h2 H' _ rs (ms_H_arr hH ho hk hu e1 e2 e3) (fun u hu' => by rw [e3 u (by omega)]; exact hF u hu') (fun u hu' => by
      rcases List.mem_append.mp hu' with h9 | h9
      · exact hL u h9
      · rw [List.mem_singleton.mp h9]; exact Nat.le_add_right _ _) hS
    obtain ⟨-, cellV, v1, v2, v3, -⟩ := (hH.2 w hw).1 (by rw [hwk]; exact hw100)
    have hcls := (hK.1 (me_ac (mh_k h o)) q hq1).2
    have ht := (hK.2 (mh_k h o - 100) _ (ms_ty_at cA hk ((hH.2 o ho).2 hk).1)).2
    rw [hq2] at ht
    obtain ⟨kA, comp, k1, k2, k3, -⟩ := ht
    have hcomp : comp = D.1 (me_ac (mh_k h o)) := Option.some.inj (k3.symm.trans hcls.1)
    subst hcomp
    obtain ⟨kC, hkC, -⟩ := hcls.2
    rw [hwk] at v2
    exact W.aast hx hb g1 (fun q h => by cases h) (fun h => by cases h) k1 k2 rfl hkC ⟨fun z => absurd h0 (Int32.not_le.mpr z), by rw [arrV_size]; exact hlt⟩ v1 (fun q h => by rw [v3] at h; cases h) (by rw [v2]; exact hkC) (by rw [v2]; exact va_assign hcls) rfl rfl hd fin
  next i o r =>
    obtain ⟨hc, hs⟩ := me_1_some hs
    simp only [Bool.and_eq_true, decide_eq_true_eq] at hc
    obtain ⟨hc1, hc2, hc3⟩ := hc
    obtain ⟨ho, hk, h0, hlt⟩ := me_ix_some hc1
    cases hs
    intro h1 h2 H locs rs hH hF hL hS
    obtain ⟨g1, g2⟩ := ms_arr hK hH ho hk
    obtain ⟨C, hC⟩ := ms_ety_ref hc2
    rw [hC] at g2
    have hu := (me_up_r (x := none) (mt_tc_ref hc2 (by omega)) : me_up h o i.toNatClampNeg _ _)
    have fin : ∀ H' : Heap, H'[base + o]? = some ((arrV (cA (mh_k h o)) (mh_l h o) (fun k => ms_v base xt (me_rd h o k))).setSlot i.toNatClampNeg (ms_v base xt (.null))) → H'.size = H.size → (∀ q, q ≠ base + o → H'[q]? = H[q]?) → W p l e R s m args below meth c H' (locs ++ [⟨base + o, i.toNatClampNeg⟩]) (mh_n h - n0) (mh_s h - s0) Q (F0 m (pc + 1) rs (st'.map (ms_v base xt))) := fun H' e1 e2 e3 => k h1 h2 H' _ rs (ms_H_arr hH ho hk hu e1 e2 e3) (fun u hu' => by rw [e3 u (by omega)]; exact hF u hu') (fun u hu' => by
      rcases List.mem_append.mp hu' with h9 | h9
      · exact hL u h9
      · rw [List.mem_singleton.mp h9]; exact Nat.le_add_right _ _) hS
    exact va_WaastN (C := C) hx hb g1 g2 (fun h => by cases h) (ms_inx h0 hlt) rfl rfl hd fin
  next x i o r =>
    obtain ⟨hc, hs⟩ := me_1_some hs
    cases hs
    simp only [Bool.and_eq_true, decide_eq_true_eq] at hc
    obtain ⟨hc1, hc2, hc3⟩ := hc
    obtain ⟨ho, hk, h0, hlt⟩ := me_ix_some hc1
    obtain ⟨j, hj, hjx⟩ := me_xs_some hc3
    intro h1 h2 H locs rs hH hF hL hS
    obtain ⟨g1, -⟩ := ms_arr hK hH ho hk
    have hSS := mx_S (n := n0) h1.2 (by rw [hH.1]; omega) hF hL
    obtain ⟨t, bb, e1, e2, e3, -⟩ := hX.1 j hj
    have hxr : me_xr (Int32.ofNat x) = .retAddr x := me_xr_of (by omega) (by have hl : mx_len.length = 35 := rfl; omega)
    have hu := (me_up_x (x := Int32.ofNat x) (by rw [hc2]; rfl) : me_up h o i.toNatClampNeg _ _)
    rw [hxr] at hu
    have fin : ∀ H' : Heap, H'[base + o]? = some ((arrV (cA (mh_k h o)) (mh_l h o) (fun k => ms_v base xt (me_rd h o k))).setSlot i.toNatClampNeg (ms_v base xt (.retAddr x))) → H'.size = H.size → (∀ q, q ≠ base + o → H'[q]? = H[q]?) → W p l e R s m args below meth c H' (locs ++ [⟨base + o, i.toNatClampNeg⟩]) (mh_n h - n0) (mh_s h - s0) Q (F0 m (pc + 1) rs (st'.map (ms_v base xt))) := fun H' e1 e2 e3 => k h1 h2 H' _ rs (ms_H_arr hH ho hk hu e1 e2 e3) (fun u hu' => by rw [e3 u (by omega)]; exact hF u hu') (fun u hu' => by
      rcases List.mem_append.mp hu' with h9 | h9
      · exact hL u h9
      · rw [List.mem_singleton.mp h9]; exact Nat.le_add_right _ _) hS
    have hxt : ms_v base xt (.retAddr x) = .ref t := by show va_rf (xt x) = _; rw [hjx, e1]; rfl
    rw [hxt] at fin
    obtain ⟨cell, v1, v2, v3, -⟩ := e3.kept hSS.2.1
    have ht := (hK.2 (mh_k h o - 100) _ (ms_ty_at cA hk ((hH.2 o ho).2 hk).1)).2
    rw [show ms_ety (mh_k h o) = .object "java/lang/String" by rw [hc2]; rfl] at ht
    obtain ⟨kA, comp, k1, k2, k3, -⟩ := ht
    have hcomp : comp = cell.cls := Option.some.inj (k3.symm.trans v3)
    rw [List.map_cons, hxt]
    obtain ⟨kC, hkC⟩ := Vm.classAt_of_findClass v3
    exact W.aast hx hb g1 (fun q h => by cases h) (fun h => by cases h) k1 k2 rfl (by rw [hcomp]; exact hkC) ⟨fun z => absurd h0 (Int32.not_le.mpr z), by rw [arrV_size]; exact hlt⟩ v1 (fun q h => by rw [h] at v2; cases v2) hkC (by rw [hcomp]; exact va_asg _ _) rfl rfl hd fin
  next => cases hs
theorem mo_arraylength (E : ms_E p s m args meth c M y D cA) (hd : decode (M y).2.1 pc = .ok (.arraylength, 1)) (hX : mx_ok base xt s) (hs : mm_ins (.arraylength) a b v pc ls st h = some (.inl (pc', ls', st', h'))) (k : ms_W p l e R s m args below meth c D cA base xt n0 s0 nL Q pc' ls' st' h') : ms_W p l e R s m args below meth c D cA base xt n0 s0 nL Q pc ls st h := by
  obtain ⟨hx, hb, hml, hown, hts, hK, hr, hlk, hnm⟩ := E
  unfold mm_ins at hs
  dsimp only at hs
  split at hs
  next o r =>
    obtain ⟨hc, hs⟩ := me_1_some hs
    simp only [Bool.and_eq_true, decide_eq_true_eq] at hc
    cases hs
    intro h1 h2 H locs rs hH hF hL hS
    obtain ⟨g1, g2⟩ := ms_arr hK hH hc.1 hc.2.1
    exact W.alen hx hb g1 g2 (by rw [arrV_size]) rfl rfl hd (k h1 h2 H locs rs hH hF hL hS)
  next x r =>
    obtain ⟨hc, hs⟩ := me_1_some hs
    cases hs
    obtain ⟨j, hj, hjx⟩ := me_xb_some hc
    have hj3 : x / 3 - 1 = j := by omega
    rw [hj3] at k
    intro h1 h2 H locs rs hH hF hL hS
    have kk := (k h1 h2 H locs rs hH hF hL hS)
    have hSS := mx_S (n := n0) h1.2 (by rw [hH.1]; omega) hF hL
    obtain ⟨t, bb, e1, e2, e3, e4, e5, e6⟩ := hX.1 j hj
    rw [List.map_cons, show ms_v base xt (.retAddr x) = .ref bb by show va_rf (xt x) = _; rw [hjx, e2]; rfl]
    exact va_tlen hx hb e6 hSS rfl hd kk
  next => cases hs
theorem mo_checkcast {idx : Nat} (E : ms_E p s m args meth c M y D cA) (hd : decode (M y).2.1 pc = .ok (.checkcast idx, 3)) (hq : ms_fact M y (.checkcast idx) a b v) (hs : mm_ins (.checkcast idx) a b v pc ls st h = some (.inl (pc', ls', st', h'))) (k : ms_W p l e R s m args below meth c D cA base xt n0 s0 nL Q pc' ls' st' h') : ms_W p l e R s m args below meth c D cA base xt n0 s0 nL Q pc ls st h := by
  obtain ⟨hx, hb, hml, hown, hts, hK, hr, hlk, hnm⟩ := E
  unfold mm_ins at hs
  dsimp only at hs
  split at hs
  next o r =>
    obtain ⟨hc, hs⟩ := me_1_some hs
    cases hs
    simp only [Bool.and_eq_true, decide_eq_true_eq] at hc
    intro h1 h2 H locs rs hH hF hL hS
    obtain ⟨g1, g2⟩ := ms_arr hK hH hc.1 (by rw [hc.2.1]; decide)
    have ht := (hK.2 2 _ (ms_ty_at cA (kind := 102) (by decide) (by decide))).2
    exact va_castE hx hb hown (hts _ (hq hc.2.2)) ⟨_, g1, rfl, by rw [hc.2.1]; exact ht⟩ hd (k h1 h2 H locs rs hH hF hL hS)
  next => cases hs
theorem mo_new {idx : Nat} (E : ms_E p s m args meth c M y D cA) (hd : decode (M y).2.1 pc = .ok (.new idx, 3)) (hq : ms_fact M y (.new idx) a b v) (hs : mm_ins (.new idx) a b v pc ls st h = some (.inl (pc', ls', st', h'))) (hR1 : mh_n h' - n0 ≤ R.cells) (hR2 : mh_s h' - s0 ≤ R.slots) (k : ms_W p l e R s m args below meth c D cA base xt n0 s0 nL Q pc' ls' st' h') : ms_W p l e R s m args below meth c D cA base xt n0 s0 nL Q pc ls st h := by
  obtain ⟨hx, hb, hml, hown, hts, hK, hr, hlk, hnm⟩ := E
  obtain ⟨hc, hs⟩ := me_1_some hs
  have ha := of_decide_eq_true hc
  cases hs
  intro h1 h2 H locs rs hH hF hL hS
  obtain ⟨q, hcl, hlk1, hins, hini⟩ := hq
  have hnf := mt_len a q hcl
  have e1 : mh_n h + 1 - n0 = mh_n h - n0 + 1 := by omega
  have e2 : mh_s h + mt_nf a - s0 = mh_s h - s0 + mt_nf a := by omega
  have hc1 : mh_n h - n0 + 1 ≤ R.cells := by rw [← e1]; exact hR1
  have hc2 : mh_s h - s0 + mt_nf a ≤ R.slots := by rw [← e2]; exact hR2
  have hKn := hK.1 a q hcl
  have hfc := hKn.2.1
  refine W.newcK hx hb hown (hts _ hlk1) (by rw [hnf]; exact hts _ hins) (hts _ hini) rfl hd hc1 hc2 hfc hH.1 fun H' kC hkC ce zs zo => ?_
  have zs : H'.size = H.size + 1 := by rw [zs, hH.1]
  have zo : ∀ q, q < H.size → H'[q]? = H[q]? := by rw [hH.1]; exact zo
  have hn : ms_at D cA base xt (mh_new h a (mt_nf a)) (mh_n h) H' := by
    unfold ms_at
    rw [mh_k_new, mh_l_new]
    refine ⟨fun _ => ⟨ha, ?_⟩, fun z => by omega⟩
    rw [hnf]
    refine t_OB.to (u_born (mt_tf a) hts (fun w hw => ms_in hw (mt_ii a q hcl w hw)) hKn hkC ce (mt_oo a q hcl)) fun j hj => ?_
    rw [me_rd_new, ms_zero]
    exact mt_zz a q hcl j hj
  have z := k ⟨show n0 ≤ mh_n h + 1 by omega, h1.2⟩ (show s0 ≤ mh_s h + mt_nf a by omega) H' locs rs (ms_H_new hH zs zo hn) (fun u hu => by rw [zo u (by rw [hH.1]; omega)]; exact hF u hu) hL hS
  rw [show mh_n (mh_new h a (mt_nf a)) - n0 = mh_n h - n0 + 1 from e1, show mh_s (mh_new h a (mt_nf a)) - s0 = mh_s h - s0 + mt_nf a from e2] at z
  exact z
theorem mo_newarray {t : ArrayType} (E : ms_E p s m args meth c M y D cA) (hd : decode (M y).2.1 pc = .ok (.newarray t, 2)) (hq : ms_fact M y (.newarray t) a b v) (hs : mm_ins (.newarray t) a b v pc ls st h = some (.inl (pc', ls', st', h'))) (hR1 : mh_n h' - n0 ≤ R.cells) (hR2 : mh_s h' - s0 ≤ R.slots) (k : ms_W p l e R s m args below meth c D cA base xt n0 s0 nL Q pc' ls' st' h') : ms_W p l e R s m args below meth c D cA base xt n0 s0 nL Q pc ls st h := by
  obtain ⟨hx, hb, hml, hown, hts, hK, hr, hlk, hnm⟩ := E
  unfold mm_ins at hs
  dsimp only at hs
  split at hs
  next n r =>
    obtain ⟨hc, hs⟩ := me_1_some hs
    simp only [Bool.and_eq_true, decide_eq_true_eq] at hc
    obtain ⟨hn0, hnN, ha1, ha2⟩ := hc
    cases hs
    intro h1 h2 H locs rs hH hF hL hS
    obtain ⟨hty, harr⟩ := hq
    have e1 : mh_n h + 1 - n0 = mh_n h - n0 + 1 := by omega
    have e2 : mh_s h + n.toNatClampNeg - s0 = mh_s h - s0 + n.toNatClampNeg := by omega
    have hc1 : mh_n h - n0 + 1 ≤ R.cells := by rw [← e1]; exact hR1
    have hc2 : mh_s h - s0 + n.toNatClampNeg ≤ R.slots := by rw [← e2]; exact hR2
    have hbytes : n.toNatClampNeg * componentBytes (newarray.typeOf t) ≤ 536870912 := by
      have hcb : componentBytes (newarray.typeOf t) ≤ 8 := by cases t <;> decide
      exact Nat.le_trans (Nat.mul_le_mul hnN hcb) (by decide)
    refine va_newaK hx hb (by rw [hty]; exact hts _ harr) rfl hd rfl (fun z => absurd hn0 (Int32.not_le.mpr z)) rfl hbytes hc1 hc2 hH.1 fun H' cI ce zs zo hAr hNm => ?_
    have zs : H'.size = H.size + 1 := by rw [zs, hH.1]
    have zo : ∀ q, q < H.size → H'[q]? = H[q]? := by rw [hH.1]; exact zo
    have hcI : cI = cA a := by
      have ht := (hK.2 (a - 100) _ (ms_ty_at cA ha1 (by omega))).2
      rw [hty] at hNm
      have e : a = 100 ∨ a = 101 ∨ a = 102 ∨ a = 103 := by omega
      rcases e with rfl | rfl | rfl | rfl <;> exact Option.some.inj (hNm.symm.trans ht)
    have hn : ms_at D cA base xt (mh_new h a n.toNatClampNeg) (mh_n h) H' := by
      unfold ms_at
      rw [mh_k_new, mh_l_new]
      refine ⟨fun z => by omega, fun _ => ⟨by omega, ?_⟩⟩
      rw [ce, hcI, hty]
      have e : a = 100 ∨ a = 101 ∨ a = 102 ∨ a = 103 := by omega
      congr 2
      funext j
      rw [me_rd_new, ms_zero]
      rcases e with rfl | rfl | rfl | rfl <;> rfl
    have z := k ⟨show n0 ≤ mh_n h + 1 by omega, h1.2⟩ (show s0 ≤ mh_s h + n.toNatClampNeg by omega) H' locs rs (ms_H_new hH zs zo hn) (fun u hu => by rw [zo u (by rw [hH.1]; omega)]; exact hF u hu) hL hS
    rw [show mh_n (mh_new h a (n.toNatClampNeg)) - n0 = mh_n h - n0 + 1 from e1, show mh_s (mh_new h a (n.toNatClampNeg)) - s0 = mh_s h - s0 + n.toNatClampNeg from e2] at z
    exact z
  next => cases hs
theorem mo_anewarray {idx : Nat} (E : ms_E p s m args meth c M y D cA) (hd : decode (M y).2.1 pc = .ok (.anewarray idx, 3)) (hq : ms_fact M y (.anewarray idx) a b v) (hs : mm_ins (.anewarray idx) a b v pc ls st h = some (.inl (pc', ls', st', h'))) (hR1 : mh_n h' - n0 ≤ R.cells) (hR2 : mh_s h' - s0 ≤ R.slots) (k : ms_W p l e R s m args below meth c D cA base xt n0 s0 nL Q pc' ls' st' h') : ms_W p l e R s m args below meth c D cA base xt n0 s0 nL Q pc ls st h := by
  obtain ⟨hx, hb, hml, hown, hts, hK, hr, hlk, hnm⟩ := E
  unfold mm_ins at hs
  dsimp only at hs
  split at hs
  next n r =>
    obtain ⟨hc, hs⟩ := me_1_some hs
    simp only [Bool.and_eq_true, decide_eq_true_eq] at hc
    obtain ⟨hn0, hnN, ha1, ha2⟩ := hc
    cases hs
    intro h1 h2 H locs rs hH hF hL hS
    obtain ⟨C, hC, hcl, hov⟩ := hq
    have e1 : mh_n h + 1 - n0 = mh_n h - n0 + 1 := by omega
    have e2 : mh_s h + n.toNatClampNeg - s0 = mh_s h - s0 + n.toNatClampNeg := by omega
    have hc1 : mh_n h - n0 + 1 ≤ R.cells := by rw [← e1]; exact hR1
    have hc2 : mh_s h - s0 + n.toNatClampNeg ≤ R.slots := by rw [← e2]; exact hR2
    refine W.anew hx hb hown (hts _ hcl) (hts _ hov) rfl hd rfl (fun z => absurd hn0 (Int32.not_le.mpr z)) (by omega) hc1 hc2 fun cI kA comp f1 f2 f3 f4 => ?_
    generalize hH1 : H.push ({ cls := cI, slots := Array.replicate n.toNatClampNeg .null, vm := .none } : Cell) = H'
    have zs : H'.size = H.size + 1 := by rw [← hH1, Array.size_push]
    have ce : H'[H.size]? = some (arrV cI n.toNatClampNeg (fun _ => .null)) := by rw [← hH1, Array.getElem?_push_size, ← arrV_new]
    have zo : ∀ q : Nat, q < H.size → H'[q]? = H[q]? := fun q hq => by rw [← hH1, Array.getElem?_push, if_neg (Nat.ne_of_lt hq)]
    have hcI : cI = cA a := by
      have ht := (hK.2 (a - 100) _ (ms_ty_at cA (by omega) ha2)).2
      rw [hC] at ht
      obtain ⟨kA', comp', -, -, -, k4⟩ := ht
      exact Option.some.inj (f1.symm.trans k4)
    have hn : ms_at D cA base xt (mh_new h a n.toNatClampNeg) (mh_n h) H' := by
      unfold ms_at
      rw [mh_k_new, mh_l_new]
      refine ⟨fun z => by omega, fun _ => ⟨ha2, ?_⟩⟩
      rw [← hH.1, ce, hcI]
      congr 2
      funext j
      rw [me_rd_new, ms_zero, mt_zero_ref ha1 ha2]
    have z := k ⟨show n0 ≤ mh_n h + 1 by omega, h1.2⟩ (show s0 ≤ mh_s h + n.toNatClampNeg by omega) H' locs rs (ms_H_new hH zs zo hn) (fun u hu => by rw [zo u (by rw [hH.1]; omega)]; exact hF u hu) hL hS
    rw [show mh_n (mh_new h a (n.toNatClampNeg)) - n0 = mh_n h - n0 + 1 from e1, show mh_s (mh_new h a (n.toNatClampNeg)) - s0 = mh_s h - s0 + n.toNatClampNeg from e2] at z
    rw [hH.1]; exact z
  next => cases hs
end MSQ
