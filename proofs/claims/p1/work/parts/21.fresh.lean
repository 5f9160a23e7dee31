/-! THE TWO FRESH OBJECTS: the law's run up to its loop is one closed computation: the kernel does it, and looks at the cells that the first call reads -/
def mn_pre : Nat → Nat → Nat → Nat → me_L → List Value → mh_H → Option (Nat × me_L × List Value × mh_H)
  | 0, _, _, pc, ls, st, h => some (pc, ls, st, h)
  | k + 1, n, d, pc, ls, st, h => match mc_P ml_y pc with
    | some (ins, _, a, b, v) => match ml_nz ins with
      | true => match mm_ins ins a b v pc ls st h with
        | some (.inl (pc', ls', st', h')) => mn_pre k n d pc' ls' st' h'
        | some (.inr (.inl (y', args, rest))) => match d, decide ((args.map fun v => v.category).sum ≤ mc_nl y') with
          | d' + 1, true => match mm_run mc_P mc_nl n d' y' 0 (me_en (mc_nl y') args) [] h with
            | some (r, h') => mn_pre k n (d' + 1) (pc + 3) ls (r.toList ++ rest) h'
            | none => none
          | _, _ => none
        | _ => none
      | false => none
    | none => none
theorem mn_lw {L : Nat} {xs : Nat → Int32} {Q : Option Value → mh_H → Prop} : ∀ (k n d pc : Nat) (ls : me_L) (st : List Value) (h : mh_H) (pc' : Nat) (ls' : me_L) (st' : List Value) (h' : mh_H), mn_pre k n d pc ls st h = some (pc', ls', st', h') → lw L xs d Q pc' ls' st' h' → lw L xs d Q pc ls st h := by
  intro k
  induction k with
  | zero => intro n d pc ls st h pc' ls' st' h' e w; cases e; exact w
  | succ k ih =>
    intro n d pc ls st h pc' ls' st' h' e w
    unfold mn_pre at e
    split at e
    next ins len a b v hP =>
      split at e
      next hz =>
        split at e
        next pc1 ls1 st1 h1 hs => exact lw_st ((ml_at hP hz).trans hs) (ih _ _ _ _ _ _ _ _ _ _ e w)
        next y' as rest hs =>
          split at e
          next d1 hdec =>
            split at e
            next r2 h2 hr =>
              refine lw_cl (Q' := fun r z => r = r2 ∧ z = h2) ((ml_at hP hz).trans hs) (of_decide_eq_true hdec) ⟨n, r2, h2, hr, rfl, rfl⟩ (fun r z q => ?_)
              obtain ⟨rfl, rfl⟩ := q
              exact ih _ _ _ _ _ _ _ _ _ _ e w
            next => cases e
          next => cases e
        next => cases e
      next => cases e
    next => cases e
def mp_ck (h : mh_H) (f : Nat × Nat × Nat × Int) : Bool := match f.1 with
  | 0 => decide (mh_k h f.2.1 = f.2.2.2.toNat)
  | 1 => decide (mh_l h f.2.1 = f.2.2.2.toNat)
  | 2 => decide (mh_i h f.2.1 f.2.2.1 = Int32.ofInt f.2.2.2)
  | 3 => decide (mh_j h f.2.1 f.2.2.1 = Int64.ofInt f.2.2.2)
  | 4 => decide (mh_r h f.2.1 f.2.2.1 = some f.2.2.2.toNat)
  | 5 => decide (mh_r h f.2.1 f.2.2.1 = none)
  | 6 => decide (mh_n h = f.2.2.2.toNat)
  | _ => decide (mh_s h = f.2.2.2.toNat)
def mp_F : List (Nat × Nat × Nat × Int) := [(0, 0, 0, 11), (1, 0, 0, 15), (0, 1, 0, 102), (1, 1, 0, 16400), (0, 2, 0, 4), (1, 2, 0, 20), (0, 20, 0, 105), (1, 20, 0, 250), (0, 21, 0, 100), (1, 21, 0, 250), (0, 22, 0, 100), (1, 22, 0, 250), (0, 33, 0, 9), (1, 33, 0, 17), (0, 53, 0, 0), (1, 53, 0, 17), (0, 54, 0, 104), (1, 54, 0, 250), (0, 55, 0, 100), (1, 55, 0, 250), (0, 67, 0, 2), (1, 67, 0, 13), (0, 68, 0, 100), (1, 68, 0, 1000), (0, 73, 0, 104), (1, 73, 0, 250), (0, 74, 0, 102), (1, 74, 0, 64), (0, 75, 0, 8), (1, 75, 0, 6), (0, 78, 0, 8), (1, 78, 0, 6), (0, 81, 0, 14), (1, 81, 0, 70), (0, 82, 0, 100), (1, 82, 0, 16400), (0, 100, 0, 100), (1, 100, 0, 250), (0, 103, 0, 100), (1, 103, 0, 250), (0, 104, 0, 100), (1, 104, 0, 250), (0, 115, 0, 12), (1, 115, 0, 38), (0, 116, 0, 106), (1, 116, 0, 250), (0, 117, 0, 106), (1, 117, 0, 250), (0, 118, 0, 100), (1, 118, 0, 250), (0, 132, 0, 13), (1, 132, 0, 7), (0, 137, 0, 13), (1, 137, 0, 7), (0, 2637, 0, 100), (1, 2637, 0, 24000), (0, 2638, 0, 100), (1, 2638, 0, 24000), (0, 2639, 0, 100), (1, 2639, 0, 1000), (4, 0, 0, 1), (2, 0, 1, 0), (4, 0, 2, 2), (4, 0, 4, 53), (4, 0, 5, 67), (4, 0, 6, 73), (2, 0, 7, 0), (2, 0, 10, 0), (2, 0, 11, 0), (4, 0, 13, 74), (2, 0, 14, 0), (2, 2, 2, 1), (4, 2, 3, 20), (4, 2, 4, 21), (4, 2, 5, 22), (4, 20, 0, 33), (2, 21, 0, 0), (2, 22, 0, 0), (2, 33, 0, 0), (2, 33, 2, 0), (2, 33, 3, 0), (2, 33, 4, 0), (4, 53, 0, 54), (4, 53, 1, 55), (2, 53, 3, 0), (4, 54, 0, 75), (2, 55, 0, 0), (4, 67, 0, 2), (4, 67, 1, 68), (2, 67, 2, 0), (2, 67, 3, 0), (2, 67, 4, 0), (2, 67, 5, 0), (4, 67, 6, 69), (4, 67, 7, 70), (4, 67, 8, 71), (2, 67, 9, 0), (4, 73, 0, 78), (2, 75, 0, 0), (2, 75, 1, 0), (2, 75, 2, 0), (4, 75, 3, 76), (4, 75, 4, 77), (2, 75, 5, 0), (2, 78, 0, 0), (2, 78, 1, 0), (2, 78, 2, 0), (4, 78, 3, 79), (4, 78, 4, 80), (4, 81, 1, 82), (2, 81, 2, 0), (4, 81, 28, 100), (4, 81, 31, 103), (4, 81, 32, 104), (2, 81, 33, 1), (2, 81, 49, (-1)), (4, 81, 52, 115), (2, 81, 54, 0), (4, 81, 56, 2637), (2, 81, 57, 0), (4, 81, 58, 2638), (4, 81, 59, 2639), (2, 81, 60, 0), (4, 81, 61, 2640), (4, 81, 62, 2641), (2, 81, 64, 0), (2, 81, 65, 0), (2, 81, 66, 0), (2, 100, 0, (-1)), (2, 103, 0, 0), (2, 104, 0, 0), (4, 115, 4, 116), (4, 115, 5, 117), (4, 115, 6, 118), (2, 115, 7, 1), (2, 115, 9, 0), (2, 115, 13, 0), (4, 116, 0, 132), (4, 117, 0, 137), (2, 118, 0, 0), (2, 132, 0, 0), (2, 132, 1, 0), (2, 132, 2, 0), (4, 132, 3, 133), (4, 132, 4, 134), (4, 132, 5, 135), (4, 132, 6, 136), (2, 137, 0, 0), (2, 137, 1, 0), (2, 137, 2, 0), (4, 137, 3, 138), (4, 137, 4, 139), (4, 137, 5, 140), (4, 137, 6, 141), (6, 0, 0, 2644), (7, 0, 0, 1006085)]
def mp_ls : me_L := [some (.retAddr 8), some (.ref 0), some (.ref 81), some (.int 0)]
def mq_pre (y : Nat) : Nat → Nat → Nat → Nat → me_L → List Value → mh_H → Option (Nat × me_L × List Value × mh_H)
  | 0, _, _, pc, ls, st, h => some (pc, ls, st, h)
  | k + 1, n, d, pc, ls, st, h => match mm_step mc_P y pc ls st h with
    | some (.inl (pc', ls', st', h')) => mq_pre y k n d pc' ls' st' h'
    | some (.inr (.inl (y', args, rest))) => match d, decide ((args.map fun v => v.category).sum ≤ mc_nl y') with
      | d' + 1, true => match mm_run mc_P mc_nl n d' y' 0 (me_en (mc_nl y') args) [] h with
        | some (r, h') => mq_pre y k n (d' + 1) (pc + 3) ls (r.toList ++ rest) h'
        | none => none
      | _, _ => none
    | _ => none
theorem mq_mw {y : Nat} {Q : Option Value → mh_H → Prop} : ∀ (k n d pc : Nat) (ls : me_L) (st : List Value) (h : mh_H) (pc' : Nat) (ls' : me_L) (st' : List Value) (h' : mh_H), mq_pre y k n d pc ls st h = some (pc', ls', st', h') → mw d y Q pc' ls' st' h' → mw d y Q pc ls st h := by
  intro k
  induction k with
  | zero => intro n d pc ls st h pc' ls' st' h' e w; cases e; exact w
  | succ k ih =>
    intro n d pc ls st h pc' ls' st' h' e w
    unfold mq_pre at e
    split at e
    next pc1 ls1 st1 h1 hs => exact mw_st hs (ih _ _ _ _ _ _ _ _ _ _ e w)
    next y' as rest hs =>
      split at e
      next d1 hdec =>
        split at e
        next r2 h2 hr =>
          refine mw_cl (Q' := fun r z => r = r2 ∧ z = h2) hs (of_decide_eq_true hdec) ⟨n, r2, h2, hr, rfl, rfl⟩ (fun r z q => ?_)
          obtain ⟨rfl, rfl⟩ := q
          exact ih _ _ _ _ _ _ _ _ _ _ e w
        next => cases e
      next => cases e
    next => cases e
def mq_heap (r : Option (Nat × me_L × List Value × mh_H)) : mh_H := match r with
  | some (_, _, _, h) => h
  | none => mh_0
def mq_is (r : Option (Nat × me_L × List Value × mh_H)) (pc : Nat) (ls : me_L) (st : List Value) : Bool := match r with
  | some (p, l, s, _) => decide (p = pc) && (decide (l = ls) && decide (s = st))
  | none => false
theorem mq_eq {r : Option (Nat × me_L × List Value × mh_H)} {pc : Nat} {ls : me_L} {st : List Value} (h : mq_is r pc ls st = true) : r = some (pc, ls, st, mq_heap r) := by
  unfold mq_is at h
  split at h
  next p l s q hr =>
    simp only [Bool.and_eq_true, decide_eq_true_eq] at h
    obtain ⟨rfl, rfl, rfl⟩ := h
    rfl
  next => cases h
/-! the pieces: A the law up to the reference's constructor, B that up to its Analysis, C the Analysis up to its loop, D the loop, E the constructor's rest -/
def mp_rA := mn_pre 6 16000 2047 0 (me_en 4 [.retAddr 8]) [] mh_0
def mp_hA : mh_H := mq_heap mp_rA
def mp_rB := mq_pre 298 143 16000 2046 0 [some (.ref 81)] [] mp_hA
def mp_hB : mh_H := mq_heap mp_rB
def mp_rC := mq_pre 225 68 16000 2045 0 [some (.ref 115), none] [] mp_hB
def mp_hC : mh_H := mq_heap mp_rC
def mp_hD : mh_H := lp 116 117 250 0 mp_hC
def mp_rE := mq_pre 298 68 16000 2046 308 [some (.ref 81)] [.ref 115, .ref 81] mp_hD
def mp_hE : mh_H := mq_heap mp_rE
set_option maxRecDepth 100000 in
theorem mp_cA : mq_is mp_rA 12 [some (.retAddr 8), some (.ref 0), none, none] [.ref 81, .ref 81] = true := by decide +kernel
set_option maxRecDepth 100000 in
theorem mp_cB : mq_is mp_rB 305 [some (.ref 81)] [.ref 115, .ref 115, .ref 81] = true := by decide +kernel
set_option maxRecDepth 100000 in
theorem mp_cC : mq_is mp_rC 143 [some (.ref 115), some (.int 0)] [] = true := by decide +kernel
set_option maxRecDepth 100000 in
theorem mp_cE : mq_is mp_rE 429 [some (.ref 81)] [] = true := by decide +kernel
set_option maxRecDepth 100000 in
theorem mp_cI : (decide (mh_k mp_hC 115 = 12 ∧ 115 < mh_n mp_hC) && (decide (mh_k mp_hC 116 = 106 ∧ 116 < mh_n mp_hC ∧ mh_l mp_hC 116 = 250) && (decide (mh_k mp_hC 117 = 106 ∧ 117 < mh_n mp_hC ∧ mh_l mp_hC 117 = 250) && (decide (mh_r mp_hC 115 4 = some 116) && decide (mh_r mp_hC 115 5 = some 117))))) = true := by decide +kernel
set_option maxRecDepth 100000 in
theorem mp_cF : mp_F.all (mp_ck mp_hE) = true := by decide +kernel
theorem nl_225 : mc_nl 225 = 2 := by decide +kernel
theorem nl_298 : mc_nl 298 = 1 := by decide +kernel
theorem mi_298_305 : mc_P 298 305 = some (.invokespecial 120, 3, 225, 0, 1) := by decide +kernel
theorem mi_298_429 : mc_P 298 429 = some (.return_, 1, 0, 0, 0) := by decide +kernel
theorem mi_406_12 : mc_P ml_y 12 = some (.invokespecial 12, 3, 298, 0, 1) := by decide +kernel
theorem mi_406_15 : mc_P ml_y 15 = some (.astore_n 2, 1, 0, 0, 0) := by decide +kernel
theorem mi_406_16 : mc_P ml_y 16 = some (.iconst 0, 1, 0, 0, 0) := by decide +kernel
theorem mi_406_17 : mc_P ml_y 17 = some (.istore_n 3, 1, 0, 0, 0) := by decide +kernel
theorem mp_an {Q : Option Value → mh_H → Prop} (hq : Q none mp_hD) : mcall 2045 225 [.ref 115] mp_hB Q := by
  show mw 2045 225 Q 0 (me_en (mc_nl 225) [.ref 115]) [] mp_hB
  rw [nl_225]
  refine mq_mw _ _ _ _ _ _ _ _ _ _ _ (mq_eq mp_cC) ?_
  have e := mp_cI
  simp only [Bool.and_eq_true, decide_eq_true_eq] at e
  obtain ⟨e1, e2, e3, e4, e5⟩ := e
  exact lp_run (d := 2044) (t := 115) (A := 116) (B := 117) 250 0 mp_hC rfl ⟨e1, e2, e3, e4, e5⟩ (mr_vret mi_225_182 hq)
theorem mp_mo {Q : Option Value → mh_H → Prop} (hq : Q none mp_hE) : mcall 2046 298 [.ref 81] mp_hA Q := by
  show mw 2046 298 Q 0 (me_en (mc_nl 298) [.ref 81]) [] mp_hA
  rw [nl_298]
  refine mq_mw _ _ _ _ _ _ _ _ _ _ _ (mq_eq mp_cB) ?_
  refine mr_ini (d := 2045) (o := 115) (As := []) (rest := [.ref 115, .ref 81]) (Q' := fun r h' => r = none ∧ h' = mp_hD) mi_298_305 (by decide) rfl rfl (by decide) (nl_225 ▸ (by decide)) (mp_an ⟨rfl, rfl⟩) (fun r h' q => ?_)
  rw [q.1, q.2]
  refine mq_mw _ _ _ _ _ _ _ _ _ _ _ (mq_eq mp_cE) ?_
  exact mr_vret mi_298_429 hq
/-- THE FRESH OBJECTS: the law stands at its loop -/
theorem mp_fresh {L : Nat} {xs : Nat → Int32} {Q : Option Value → mh_H → Prop} (k : lw L xs 2047 Q 18 mp_ls [] mp_hE) : lw L xs 2047 Q 0 (me_en 4 [.retAddr 8]) [] mh_0 := by
  refine mn_lw _ _ _ _ _ _ _ _ _ _ _ (mq_eq mp_cA) ?_
  refine lr_ini (d := 2046) (o := 81) (As := []) (rest := [.ref 81]) (Q' := fun r h' => r = none ∧ h' = mp_hE) mi_406_12 (by decide) rfl rfl (by decide) (nl_298 ▸ (by decide)) (mp_mo ⟨rfl, rfl⟩) (fun r h' q => ?_)
  rw [q.1, q.2]
  refine lr_astore_n (ls' := [some (.retAddr 8), some (.ref 0), some (.ref 81), none]) mi_406_15 (by decide) rfl ?_
  refine lr_iconst (x := 0) mi_406_16 (by decide) ?_
  exact lr_istore_n (ls' := mp_ls) mi_406_17 (by decide) rfl k
theorem mp_facts : ∀ f ∈ mp_F, mp_ck mp_hE f = true := List.all_eq_true.mp mp_cF
