/-! THE LAW'S FRAME: rows as in 18, over ml_run -/
theorem ml_fuel (L : Nat) (xs : Nat → Int32) : ∀ (n m d pc : Nat) (ls : me_L) (st : List Value) (h : mh_H) (x : Option Value × mh_H), n ≤ m → ml_run L xs n d pc ls st h = some x → ml_run L xs m d pc ls st h = some x := by
  intro n
  induction n with
  | zero => intro m d pc ls st h x _ e; cases e
  | succ n ih =>
    intro m d pc ls st h x hm e
    obtain ⟨k, rfl⟩ : ∃ k, m = k + 1 := ⟨m - 1, by omega⟩
    have hk : n ≤ k := by omega
    unfold ml_run at e ⊢
    split at e
    next pc1 ls1 st1 h1 hst => exact ih _ _ _ _ _ _ _ hk e
    next r1 hst => exact e
    next y' as rest hst =>
      split at e
      next d1 hdec =>
        split at e
        next r2 h2 hr =>
          rw [mm_fuel _ _ _ _ _ _ _ _ _ _ _ hk hr]
          exact ih _ _ _ _ _ _ _ hk e
        next => cases e
      next => cases e
    next => cases e
def ml_nz (ins : Instr) : Bool := match ins with
  | .iaload => false
  | .arraylength => false
  | _ => true
def lw (L : Nat) (xs : Nat → Int32) (d : Nat) (Q : Option Value → mh_H → Prop) (pc : Nat) (ls : me_L) (st : List Value) (h : mh_H) : Prop := ∃ (n : Nat) (r : Option Value) (h' : mh_H), ml_run L xs n d pc ls st h = some (r, h') ∧ Q r h'
section LR
variable {L : Nat} {xs : Nat → Int32} {d pc : Nat} {Q : Option Value → mh_H → Prop} {ls ls' : me_L} {st : List Value} {h : mh_H} {l a b : Nat} {v : Int}
theorem lw_st {pc' : Nat} {st' : List Value} {h' : mh_H} (hs : ml_step L xs pc ls st h = some (.inl (pc', ls', st', h'))) (k : lw L xs d Q pc' ls' st' h') : lw L xs d Q pc ls st h := by
  obtain ⟨n, r, h2, e, q⟩ := k
  refine ⟨n + 1, r, h2, ?_, q⟩
  unfold ml_run
  rw [hs]
  exact e
theorem lw_rt {r : Option Value} (hs : ml_step L xs pc ls st h = some (.inr (.inr r))) (hq : Q r h) : lw L xs d Q pc ls st h := by
  refine ⟨1, r, h, ?_, hq⟩
  unfold ml_run
  rw [hs]
theorem lw_cl {y' : Nat} {as rest : List Value} {Q' : Option Value → mh_H → Prop} (hs : ml_step L xs pc ls st h = some (.inr (.inl (y', as, rest)))) (hsum : (as.map fun v => v.category).sum ≤ mc_nl y') (hc : mcall d y' as h Q') (k : ∀ r h', Q' r h' → lw L xs (d + 1) Q (pc + 3) ls (r.toList ++ rest) h') : lw L xs (d + 1) Q pc ls st h := by
  obtain ⟨n1, r1, h1, e1, q1⟩ := hc
  obtain ⟨n2, r2, h2, e2, q2⟩ := k r1 h1 q1
  refine ⟨max n1 n2 + 1, r2, h2, ?_, q2⟩
  unfold ml_run
  rw [hs]
  dsimp only
  rw [show decide ((as.map fun v => v.category).sum ≤ mc_nl y') = true from decide_eq_true hsum]
  dsimp only
  rw [mm_fuel _ _ _ _ _ _ _ _ _ _ _ (Nat.le_max_left n1 n2) e1]
  exact ml_fuel _ _ _ _ _ _ _ _ _ _ (Nat.le_max_right n1 n2) e2
theorem ml_at {ins : Instr} (hP : mc_P ml_y pc = some (ins, l, a, b, v)) (hi : ml_nz ins = true) : ml_step L xs pc ls st h = mm_ins ins a b v pc ls st h := by
  unfold ml_step mm_step
  rw [hP]
  cases ins <;> first | rfl | cases hi
theorem lr_scr {i : Int32} {j : Nat} (hP : mc_P ml_y pc = some (.iaload, l, a, b, v)) (hi : 0 ≤ i) (hj : i.toNatClampNeg = j) (hl : j < L) (k : lw L xs d Q (pc + 1) ls (.int (xs j) :: st) h) : lw L xs d Q pc ls (.int i :: .retAddr 8 :: st) h := by
  subst hj
  exact lw_st (by unfold ml_step; rw [hP]; simp [me_1, hi, hl]; rfl) k
theorem lr_len (hP : mc_P ml_y pc = some (.arraylength, l, a, b, v)) (k : lw L xs d Q (pc + 1) ls (.int (Int32.ofNat L) :: st) h) : lw L xs d Q pc ls (.retAddr 8 :: st) h := lw_st (by unfold ml_step; rw [hP]; rfl) k
theorem lr_iconst {n : Int} {x : Int32} (hP : mc_P ml_y pc = some (.iconst n, l, a, b, v)) (hx : Int32.ofInt n = x) (k : lw L xs d Q (pc + 1) ls (.int x :: st) h) : lw L xs d Q pc ls st h := by
  exact lw_st (by rw [ml_at hP rfl]; subst hx; rfl) k
theorem lr_bipush {n : Int} {x : Int32} (hP : mc_P ml_y pc = some (.bipush n, l, a, b, v)) (hx : (Int8.ofInt n).toInt32 = x) (k : lw L xs d Q (pc + 2) ls (.int x :: st) h) : lw L xs d Q pc ls st h := by
  exact lw_st (by rw [ml_at hP rfl]; subst hx; rfl) k
theorem lr_sipush {n : Int} {x : Int32} (hP : mc_P ml_y pc = some (.sipush n, l, a, b, v)) (hx : (Int16.ofInt n).toInt32 = x) (k : lw L xs d Q (pc + 3) ls (.int x :: st) h) : lw L xs d Q pc ls st h := by
  exact lw_st (by rw [ml_at hP rfl]; subst hx; rfl) k
theorem lr_ldc2 {idx : Nat} {x : Int64} (hP : mc_P ml_y pc = some (.ldc2_w idx, l, a, b, v)) (hx : Int64.ofInt v = x) (k : lw L xs d Q (pc + 3) ls (.long x :: st) h) : lw L xs d Q pc ls st h := by
  exact lw_st (by rw [ml_at hP rfl]; subst hx; rfl) k
theorem lr_iload {i : Nat} {x : Int32} (hP : mc_P ml_y pc = some (.iload i, l, a, b, v)) (hv : ls[i]? = some (some (.int x))) (k : lw L xs d Q (pc + 2) ls (.int x :: st) h) : lw L xs d Q pc ls st h := lw_st (by rw [ml_at hP rfl]; simp [mm_ins, me_pv, me_oi, me_ld, hv]; rfl) k
theorem lr_iload_n {i : Fin 4} {x : Int32} (hP : mc_P ml_y pc = some (.iload_n i, l, a, b, v)) (hv : ls[(i : Nat)]? = some (some (.int x))) (k : lw L xs d Q (pc + 1) ls (.int x :: st) h) : lw L xs d Q pc ls st h := lw_st (by rw [ml_at hP rfl]; simp [mm_ins, me_pv, me_oi, me_ld, hv]; rfl) k
theorem lr_aload {i : Nat} {x : Nat} (hP : mc_P ml_y pc = some (.aload i, l, a, b, v)) (hv : ls[i]? = some (some (.ref x))) (k : lw L xs d Q (pc + 2) ls (.ref x :: st) h) : lw L xs d Q pc ls st h := lw_st (by rw [ml_at hP rfl]; simp [mm_ins, me_pv, me_oa, me_ld, hv]; rfl) k
theorem lr_aload_n {i : Fin 4} {x : Nat} (hP : mc_P ml_y pc = some (.aload_n i, l, a, b, v)) (hv : ls[(i : Nat)]? = some (some (.ref x))) (k : lw L xs d Q (pc + 1) ls (.ref x :: st) h) : lw L xs d Q pc ls st h := lw_st (by rw [ml_at hP rfl]; simp [mm_ins, me_pv, me_oa, me_ld, hv]; rfl) k
theorem lr_aload_nX {i : Fin 4} {x : Nat} (hP : mc_P ml_y pc = some (.aload_n i, l, a, b, v)) (hv : ls[(i : Nat)]? = some (some (.retAddr x))) (k : lw L xs d Q (pc + 1) ls (.retAddr x :: st) h) : lw L xs d Q pc ls st h := lw_st (by rw [ml_at hP rfl]; simp [mm_ins, me_pv, me_oa, me_ld, hv]; rfl) k
theorem lr_istore {i : Nat} {x : Int32} (hP : mc_P ml_y pc = some (.istore i, l, a, b, v)) (hi : (i : Nat) < ls.length) (hl : me_s1 ls i (.int x) = ls') (k : lw L xs d Q (pc + 2) ls' st h) : lw L xs d Q pc ls (.int x :: st) h := lw_st (by rw [ml_at hP rfl]; subst hl; simp [mm_ins, me_st, me_1, hi]; rfl) k
theorem lr_istore_n {i : Fin 4} {x : Int32} (hP : mc_P ml_y pc = some (.istore_n i, l, a, b, v)) (hi : (i : Nat) < ls.length) (hl : me_s1 ls i (.int x) = ls') (k : lw L xs d Q (pc + 1) ls' st h) : lw L xs d Q pc ls (.int x :: st) h := lw_st (by rw [ml_at hP rfl]; subst hl; simp [mm_ins, me_st, me_1, hi]; rfl) k
theorem lr_astore_n {i : Fin 4} {x : Nat} (hP : mc_P ml_y pc = some (.astore_n i, l, a, b, v)) (hi : (i : Nat) < ls.length) (hl : me_s1 ls i (.ref x) = ls') (k : lw L xs d Q (pc + 1) ls' st h) : lw L xs d Q pc ls (.ref x :: st) h := lw_st (by rw [ml_at hP rfl]; subst hl; simp [mm_ins, me_st, me_1, hi]; rfl) k
theorem lr_iinc {i : Nat} {n : Int} {x z : Int32} (hP : mc_P ml_y pc = some (.iinc i n, l, a, b, v)) (hv : ls[i]? = some (some (.int x))) (hi : i < ls.length) (hz : x + Int32.ofInt n = z) (hl : me_s1 ls i (.int z) = ls') (k : lw L xs d Q (pc + 3) ls' st h) : lw L xs d Q pc ls st h := lw_st (by rw [ml_at hP rfl]; subst hl; subst hz; have e : me_ld ls i = some (.int x) := (by unfold me_ld; rw [hv]); simp only [mm_ins, e, me_st, me_1, decide_eq_true hi]; rfl) k
theorem lr_iadd {x z w : Int32} (hP : mc_P ml_y pc = some (.iadd, l, a, b, v)) (hr : x + z = w) (k : lw L xs d Q (pc + 1) ls (.int w :: st) h) : lw L xs d Q pc ls (.int z :: .int x :: st) h := lw_st (by rw [ml_at hP rfl]; subst hr; rfl) k
theorem lr_isub {x z w : Int32} (hP : mc_P ml_y pc = some (.isub, l, a, b, v)) (hr : x - z = w) (k : lw L xs d Q (pc + 1) ls (.int w :: st) h) : lw L xs d Q pc ls (.int z :: .int x :: st) h := lw_st (by rw [ml_at hP rfl]; subst hr; rfl) k
theorem lr_iand {x z w : Int32} (hP : mc_P ml_y pc = some (.iand, l, a, b, v)) (hr : x &&& z = w) (k : lw L xs d Q (pc + 1) ls (.int w :: st) h) : lw L xs d Q pc ls (.int z :: .int x :: st) h := lw_st (by rw [ml_at hP rfl]; subst hr; rfl) k
theorem lr_land {x z w : Int64} (hP : mc_P ml_y pc = some (.land, l, a, b, v)) (hr : x &&& z = w) (k : lw L xs d Q (pc + 1) ls (.long w :: st) h) : lw L xs d Q pc ls (.long z :: .long x :: st) h := lw_st (by rw [ml_at hP rfl]; subst hr; rfl) k
theorem lr_lor {x z w : Int64} (hP : mc_P ml_y pc = some (.lor, l, a, b, v)) (hr : x ||| z = w) (k : lw L xs d Q (pc + 1) ls (.long w :: st) h) : lw L xs d Q pc ls (.long z :: .long x :: st) h := lw_st (by rw [ml_at hP rfl]; subst hr; rfl) k
theorem lr_i2l {x : Int32} {w : Int64} (hP : mc_P ml_y pc = some (.i2l, l, a, b, v)) (hr : x.toInt64 = w) (k : lw L xs d Q (pc + 1) ls (.long w :: st) h) : lw L xs d Q pc ls (.int x :: st) h := lw_st (by rw [ml_at hP rfl]; subst hr; rfl) k
theorem lr_lcmp {x z : Int64} {w : Int32} (hP : mc_P ml_y pc = some (.lcmp, l, a, b, v)) (hr : lg_cmp x z = w) (k : lw L xs d Q (pc + 1) ls (.int w :: st) h) : lw L xs d Q pc ls (.long z :: .long x :: st) h := lw_st (by rw [ml_at hP rfl]; subst hr; rfl) k
theorem lr_lshl {x w : Int64} {z : Int32} (hP : mc_P ml_y pc = some (.lshl, l, a, b, v)) (hr : x <<< (z.toInt64 &&& 63) = w) (k : lw L xs d Q (pc + 1) ls (.long w :: st) h) : lw L xs d Q pc ls (.int z :: .long x :: st) h := lw_st (by rw [ml_at hP rfl]; subst hr; rfl) k
theorem lr_goto {off : Int} {tgt : Nat} (hP : mc_P ml_y pc = some (.goto off, l, a, b, v)) (ht : (pc : Int) + off = (tgt : Int)) (k : lw L xs d Q tgt ls st h) : lw L xs d Q pc ls st h := lw_st (by rw [ml_at hP rfl]; simp [mm_ins, me_jp, ht]; rfl) k
theorem lr_br {q : Bool} {off : Int} {tgt : Nat} {ins : Instr} {st0 : List Value} (hP : mc_P ml_y pc = some (ins, l, a, b, v)) (hz : ml_nz ins = true) (hi : mm_ins ins a b v pc ls st0 h = me_br q pc off ls st h) (ht : (pc : Int) + off = (tgt : Int)) (kt : q = true → lw L xs d Q tgt ls st h) (kf : q = false → lw L xs d Q (pc + 3) ls st h) : lw L xs d Q pc ls st0 h := by
  cases q with
  | true => exact lw_st (by rw [ml_at hP hz, hi]; simp [me_br, me_jp, ht]; rfl) (kt rfl)
  | false => exact lw_st (by rw [ml_at hP hz, hi]; simp [me_br, me_1, ht]; rfl) (kf rfl)
theorem lr_if_eq {x : Int32} {off : Int} {tgt : Nat} (hP : mc_P ml_y pc = some (.ifCond .eq off, l, a, b, v)) (ht : (pc : Int) + off = (tgt : Int)) (kt : x = 0 → lw L xs d Q tgt ls st h) (kf : ¬ x = 0 → lw L xs d Q (pc + 3) ls st h) : lw L xs d Q pc ls (.int x :: st) h := lr_br hP rfl rfl ht (fun z => kt (of_decide_eq_true z)) (fun z => kf (by have z := of_decide_eq_false z; first | exact z | exact Decidable.not_not.mp z))
theorem lr_icmp_eq {x z : Int32} {off : Int} {tgt : Nat} (hP : mc_P ml_y pc = some (.if_icmp .eq off, l, a, b, v)) (ht : (pc : Int) + off = (tgt : Int)) (kt : x = z → lw L xs d Q tgt ls st h) (kf : ¬ x = z → lw L xs d Q (pc + 3) ls st h) : lw L xs d Q pc ls (.int z :: .int x :: st) h := lr_br hP rfl rfl ht (fun z => kt (of_decide_eq_true z)) (fun z => kf (by have z := of_decide_eq_false z; first | exact z | exact Decidable.not_not.mp z))
theorem lr_if_ne {x : Int32} {off : Int} {tgt : Nat} (hP : mc_P ml_y pc = some (.ifCond .ne off, l, a, b, v)) (ht : (pc : Int) + off = (tgt : Int)) (kt : ¬ x = 0 → lw L xs d Q tgt ls st h) (kf : x = 0 → lw L xs d Q (pc + 3) ls st h) : lw L xs d Q pc ls (.int x :: st) h := lr_br hP rfl rfl ht (fun z => kt (of_decide_eq_true z)) (fun z => kf (by have z := of_decide_eq_false z; first | exact z | exact Decidable.not_not.mp z))
theorem lr_icmp_ne {x z : Int32} {off : Int} {tgt : Nat} (hP : mc_P ml_y pc = some (.if_icmp .ne off, l, a, b, v)) (ht : (pc : Int) + off = (tgt : Int)) (kt : ¬ x = z → lw L xs d Q tgt ls st h) (kf : x = z → lw L xs d Q (pc + 3) ls st h) : lw L xs d Q pc ls (.int z :: .int x :: st) h := lr_br hP rfl rfl ht (fun z => kt (of_decide_eq_true z)) (fun z => kf (by have z := of_decide_eq_false z; first | exact z | exact Decidable.not_not.mp z))
theorem lr_if_lt {x : Int32} {off : Int} {tgt : Nat} (hP : mc_P ml_y pc = some (.ifCond .lt off, l, a, b, v)) (ht : (pc : Int) + off = (tgt : Int)) (kt : x < 0 → lw L xs d Q tgt ls st h) (kf : ¬ x < 0 → lw L xs d Q (pc + 3) ls st h) : lw L xs d Q pc ls (.int x :: st) h := lr_br hP rfl rfl ht (fun z => kt (of_decide_eq_true z)) (fun z => kf (by have z := of_decide_eq_false z; first | exact z | exact Decidable.not_not.mp z))
theorem lr_icmp_lt {x z : Int32} {off : Int} {tgt : Nat} (hP : mc_P ml_y pc = some (.if_icmp .lt off, l, a, b, v)) (ht : (pc : Int) + off = (tgt : Int)) (kt : x < z → lw L xs d Q tgt ls st h) (kf : ¬ x < z → lw L xs d Q (pc + 3) ls st h) : lw L xs d Q pc ls (.int z :: .int x :: st) h := lr_br hP rfl rfl ht (fun z => kt (of_decide_eq_true z)) (fun z => kf (by have z := of_decide_eq_false z; first | exact z | exact Decidable.not_not.mp z))
theorem lr_if_ge {x : Int32} {off : Int} {tgt : Nat} (hP : mc_P ml_y pc = some (.ifCond .ge off, l, a, b, v)) (ht : (pc : Int) + off = (tgt : Int)) (kt : 0 ≤ x → lw L xs d Q tgt ls st h) (kf : ¬ 0 ≤ x → lw L xs d Q (pc + 3) ls st h) : lw L xs d Q pc ls (.int x :: st) h := lr_br hP rfl rfl ht (fun z => kt (of_decide_eq_true z)) (fun z => kf (by have z := of_decide_eq_false z; first | exact z | exact Decidable.not_not.mp z))
theorem lr_icmp_ge {x z : Int32} {off : Int} {tgt : Nat} (hP : mc_P ml_y pc = some (.if_icmp .ge off, l, a, b, v)) (ht : (pc : Int) + off = (tgt : Int)) (kt : z ≤ x → lw L xs d Q tgt ls st h) (kf : ¬ z ≤ x → lw L xs d Q (pc + 3) ls st h) : lw L xs d Q pc ls (.int z :: .int x :: st) h := lr_br hP rfl rfl ht (fun z => kt (of_decide_eq_true z)) (fun z => kf (by have z := of_decide_eq_false z; first | exact z | exact Decidable.not_not.mp z))
theorem lr_if_gt {x : Int32} {off : Int} {tgt : Nat} (hP : mc_P ml_y pc = some (.ifCond .gt off, l, a, b, v)) (ht : (pc : Int) + off = (tgt : Int)) (kt : 0 < x → lw L xs d Q tgt ls st h) (kf : ¬ 0 < x → lw L xs d Q (pc + 3) ls st h) : lw L xs d Q pc ls (.int x :: st) h := lr_br hP rfl rfl ht (fun z => kt (of_decide_eq_true z)) (fun z => kf (by have z := of_decide_eq_false z; first | exact z | exact Decidable.not_not.mp z))
theorem lr_icmp_gt {x z : Int32} {off : Int} {tgt : Nat} (hP : mc_P ml_y pc = some (.if_icmp .gt off, l, a, b, v)) (ht : (pc : Int) + off = (tgt : Int)) (kt : z < x → lw L xs d Q tgt ls st h) (kf : ¬ z < x → lw L xs d Q (pc + 3) ls st h) : lw L xs d Q pc ls (.int z :: .int x :: st) h := lr_br hP rfl rfl ht (fun z => kt (of_decide_eq_true z)) (fun z => kf (by have z := of_decide_eq_false z; first | exact z | exact Decidable.not_not.mp z))
theorem lr_if_le {x : Int32} {off : Int} {tgt : Nat} (hP : mc_P ml_y pc = some (.ifCond .le off, l, a, b, v)) (ht : (pc : Int) + off = (tgt : Int)) (kt : x ≤ 0 → lw L xs d Q tgt ls st h) (kf : ¬ x ≤ 0 → lw L xs d Q (pc + 3) ls st h) : lw L xs d Q pc ls (.int x :: st) h := lr_br hP rfl rfl ht (fun z => kt (of_decide_eq_true z)) (fun z => kf (by have z := of_decide_eq_false z; first | exact z | exact Decidable.not_not.mp z))
theorem lr_icmp_le {x z : Int32} {off : Int} {tgt : Nat} (hP : mc_P ml_y pc = some (.if_icmp .le off, l, a, b, v)) (ht : (pc : Int) + off = (tgt : Int)) (kt : x ≤ z → lw L xs d Q tgt ls st h) (kf : ¬ x ≤ z → lw L xs d Q (pc + 3) ls st h) : lw L xs d Q pc ls (.int z :: .int x :: st) h := lr_br hP rfl rfl ht (fun z => kt (of_decide_eq_true z)) (fun z => kf (by have z := of_decide_eq_false z; first | exact z | exact Decidable.not_not.mp z))
theorem lr_tabOut {df lo hi : Int} {offs : Array Int} {x : Int32} {tgt : Nat} (hP : mc_P ml_y pc = some (.tableswitch df lo hi offs, l, a, b, v)) (hc : x.toInt < lo ∨ hi < x.toInt) (ht : (pc : Int) + df = (tgt : Int)) (k : lw L xs d Q tgt ls st h) : lw L xs d Q pc ls (.int x :: st) h := lw_st (by rw [ml_at hP rfl]; simp only [mm_ins, decide_eq_true hc]; simp [me_jp, ht]; rfl) k
theorem lr_tabIn {df lo hi : Int} {offs : Array Int} {x : Int32} {off : Int} {tgt : Nat} (hP : mc_P ml_y pc = some (.tableswitch df lo hi offs, l, a, b, v)) (hc : ¬ (x.toInt < lo ∨ hi < x.toInt)) (ho : offs[(x.toInt - lo).toNat]? = some off) (ht : (pc : Int) + off = (tgt : Int)) (k : lw L xs d Q tgt ls st h) : lw L xs d Q pc ls (.int x :: st) h := lw_st (by rw [ml_at hP rfl]; simp only [mm_ins, decide_eq_false hc, ho, me_sw]; simp [me_jp, ht]; rfl) k
theorem lr_zret {x : Int32} (hP : mc_P ml_y pc = some (.ireturn, l, a, 3, v)) (hx : x = 0 ∨ x = 1) (hq : Q (some (.int x)) h) : lw L xs d Q pc ls [.int x] h := lw_rt (by rw [ml_at hP rfl]; rcases hx with rfl | rfl <;> rfl) hq
theorem lr_call {y' n : Nat} {As rest : List Value} {Q' : Option Value → mh_H → Prop} {ins : Instr} {st0 : List Value} (hP : mc_P ml_y pc = some (ins, l, y', b, v)) (hz : ml_nz ins = true) (hi : mm_ins ins y' b v pc ls st0 h = me_cl y' n st0) (hst : st0 = As.reverse ++ rest) (hn : As.length = n) (hw : (rest.map fun v => v.category).sum ≤ 8) (hsum : (As.map fun v => v.category).sum ≤ mc_nl y') (hc : mcall d y' As h Q') (k : ∀ r h', Q' r h' → lw L xs (d + 1) Q (pc + 3) ls (r.toList ++ rest) h') : lw L xs (d + 1) Q pc ls st0 h := by
  subst hst
  refine lw_cl ?_ hsum hc k
  have e1 : (As.reverse ++ rest).take n = As.reverse := by rw [← hn, ← List.length_reverse (as := As), List.take_left]
  have e2 : (As.reverse ++ rest).drop n = rest := by rw [← hn, ← List.length_reverse (as := As), List.drop_left]
  rw [ml_at hP hz, hi]
  unfold me_cl
  rw [e1, e2, List.reverse_reverse]
  have e3 : n ≤ (As.reverse ++ rest).length := by rw [List.length_append, List.length_reverse]; omega
  simp [me_1, hw, hn]
theorem lr_inv {idx y' ci o : Nat} {As rest st0 : List Value} {Q' : Option Value → mh_H → Prop} (hP : mc_P ml_y pc = some (.invokevirtual idx, l, y', ci, v)) (hci : ci < 15) (hst : st0 = (Value.ref o :: As).reverse ++ rest) (hn : v.toNat = As.length + 1) (hk : mh_k h o = ci) (ho : o < mh_n h) (hw : (rest.map fun v => v.category).sum ≤ 8) (hsum : ((Value.ref o :: As).map fun v => v.category).sum ≤ mc_nl y') (hc : mcall d y' (.ref o :: As) h Q') (k : ∀ r h', Q' r h' → lw L xs (d + 1) Q (pc + 3) ls (r.toList ++ rest) h') : lw L xs (d + 1) Q pc ls st0 h := by
  refine lr_call (n := v.toNat) hP rfl ?_ hst hn.symm hw hsum hc k
  have hr : st0[v.toNat - 1]? = some (.ref o) := by
    rw [hst, hn, List.reverse_cons, List.append_assoc, Nat.add_sub_cancel, ← List.length_reverse (as := As), List.getElem?_append_right (Nat.le_refl _), Nat.sub_self]
    rfl
  unfold mm_ins
  dsimp only
  split
  · omega
  · omega
  · rw [hr]
    simp [me_1, me_rc, hk, ho, show ci < 100 by omega, show 1 ≤ v.toNat by omega]
theorem lr_new {idx ci : Nat} (hP : mc_P ml_y pc = some (.new idx, l, ci, b, v)) (hc : ci < 15) (kk : lw L xs d Q (pc + 3) ls (.ref (mh_n h) :: st) (mh_new h ci (mt_nf ci))) : lw L xs d Q pc ls st h := lw_st (by rw [ml_at hP rfl]; simp [mm_ins, me_1, hc]; rfl) kk
theorem lr_ini {idx y' o : Nat} {As rest st0 : List Value} {Q' : Option Value → mh_H → Prop} (hP : mc_P ml_y pc = some (.invokespecial idx, l, y', b, v)) (hb1 : ¬ b = 1) (hst : st0 = (Value.ref o :: As).reverse ++ rest) (hn : v.toNat = As.length + 1) (hw : (rest.map fun v => v.category).sum ≤ 8) (hsum : ((Value.ref o :: As).map fun v => v.category).sum ≤ mc_nl y') (hc : mcall d y' (.ref o :: As) h Q') (k : ∀ r h', Q' r h' → lw L xs (d + 1) Q (pc + 3) ls (r.toList ++ rest) h') : lw L xs (d + 1) Q pc ls st0 h := by
  refine lr_call (n := v.toNat) hP rfl ?_ hst hn.symm hw hsum hc k
  have hr : st0[v.toNat - 1]? = some (.ref o) := by
    rw [hst, hn, List.reverse_cons, List.append_assoc, Nat.add_sub_cancel, ← List.length_reverse (as := As), List.getElem?_append_right (Nat.le_refl _), Nat.sub_self]
    rfl
  unfold mm_ins
  dsimp only
  split
  · omega
  · rw [hr]
    simp [me_1, me_isr, show 1 ≤ v.toNat by omega]
theorem lr_dup {x : Value} (hP : mc_P ml_y pc = some (.dup, l, a, b, v)) (hc : x.category = 1) (k : lw L xs d Q (pc + 1) ls (x :: x :: st) h) : lw L xs d Q pc ls (x :: st) h := lw_st (by rw [ml_at hP rfl]; simp [mm_ins, me_1, hc]; rfl) k
end LR
