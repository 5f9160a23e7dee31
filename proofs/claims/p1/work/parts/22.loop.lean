theorem mi_406_18 : mc_P ml_y 18 = some (.iload_n 3, 1, 0, 0, 0) := by decide +kernel
theorem mi_406_19 : mc_P ml_y 19 = some (.aload_n 0, 1, 0, 0, 0) := by decide +kernel
theorem mi_406_20 : mc_P ml_y 20 = some (.arraylength, 1, 0, 0, 0) := by decide +kernel
theorem mi_406_21 : mc_P ml_y 21 = some (.bipush 8, 2, 0, 0, 0) := by decide +kernel
theorem mi_406_23 : mc_P ml_y 23 = some (.isub, 1, 0, 0, 0) := by decide +kernel
theorem mi_406_24 : mc_P ml_y 24 = some (.if_icmp .gt 895, 3, 0, 0, 0) := by decide +kernel
theorem mi_406_27 : mc_P ml_y 27 = some (.aload_n 0, 1, 0, 0, 0) := by decide +kernel
theorem mi_406_28 : mc_P ml_y 28 = some (.iload_n 3, 1, 0, 0, 0) := by decide +kernel
theorem mi_406_29 : mc_P ml_y 29 = some (.iaload, 1, 0, 0, 0) := by decide +kernel
theorem mi_406_30 : mc_P ml_y 30 = some (.bipush 31, 2, 0, 0, 0) := by decide +kernel
theorem mi_406_32 : mc_P ml_y 32 = some (.iand, 1, 0, 0, 0) := by decide +kernel
theorem mi_406_33 : mc_P ml_y 33 = some (.tableswitch 880 0 20 #[99, 162, 185, 208, 221, 254, 346, 432, 539, 608, 631, 644, 657, 680, 693, 716, 739, 762, 795, 808, 857], 99, 0, 0, 0) := by decide +kernel
theorem mi_406_913 : mc_P ml_y 913 = some (.iinc 3 8, 3, 0, 0, 0) := by decide +kernel
theorem mi_406_916 : mc_P ml_y 916 = some (.goto (-898), 3, 0, 0, 0) := by decide +kernel
theorem mi_406_919 : mc_P ml_y 919 = some (.iconst 1, 1, 0, 0, 0) := by decide +kernel
theorem mi_406_920 : mc_P ml_y 920 = some (.ireturn, 1, 0, 3, 0) := by decide +kernel
/-! the law's loop: its head and its end -/
/-- what a run of the law must give -/
def lq (r : Option Value) (h' : mh_H) : Prop := r = some (.int 1) ∧ mh_n h' ≤ 600000 ∧ mh_s h' ≤ 7302000
theorem lq_ends {L : Nat} {xs : Nat → Int32} (k : lw L xs 2047 lq 0 (me_en 4 [.retAddr 8]) [] mh_0) : ml_ends L xs := by
  obtain ⟨n, r, h', e, q1, q2, q3⟩ := k
  subst q1
  exact ⟨n, 2047, h', e, Nat.le_refl _, q2, q3⟩
/-- the loop is left: i stands behind the last whole row of eight -/
theorem ll_out {L : Nat} {xs : Nat → Int32} {d i x m : Nat} {h : mh_H} {Q : Option Value → mh_H → Prop} (hL : L ≤ 4096) (hi : i ≤ 4096) (hout : L < i + 8) (hq : Q (some (.int 1)) h) : lw L xs d Q 18 [some (.retAddr 8), some (.ref x), some (.ref m), some (.int (Int32.ofNat i))] [] h := by
  refine lr_iload_n mi_406_18 rfl ?_
  refine lr_aload_nX mi_406_19 rfl ?_
  refine lr_len mi_406_20 ?_
  refine lr_bipush (x := 8) mi_406_21 (by decide) ?_
  refine lr_isub mi_406_23 rfl ?_
  have e1 : (Int32.ofNat i).toInt = i := Int32.toInt_ofNat_of_lt (by omega)
  have e2 : (Int32.ofNat L - 8).toInt = (L : Int) - 8 := by
    rw [show (8 : Int32) = Int32.ofInt 8 from rfl, show Int32.ofNat L = Int32.ofInt (L : Int) from (Int32.ofInt_eq_ofNat).symm, ← Int32.ofInt_sub, Int32.toInt_ofInt_of_le (by omega) (by omega)]
  refine lr_icmp_gt (tgt := 919) mi_406_24 (by decide) (fun _ => ?_) (fun z => ?_)
  · refine lr_iconst (x := 1) mi_406_919 (by decide) ?_
    exact lr_zret mi_406_920 (Or.inr rfl) hq
  · exact absurd (Int32.lt_iff_toInt_lt.mpr (by rw [e1, e2]; omega)) z
theorem mp_ck6 {h : mh_H} {v : Int} (e : mp_ck h (6, 0, 0, v) = true) : mh_n h = v.toNat := of_decide_eq_true e
theorem mp_ck7 {h : mh_H} {v : Int} (e : mp_ck h (7, 0, 0, v) = true) : mh_s h = v.toNat := of_decide_eq_true e
theorem mp_n : mh_n mp_hE = (2644 : Int).toNat := mp_ck6 (mp_facts (6, 0, 0, 2644) (by decide +kernel))
theorem mp_s : mh_s mp_hE = (1006085 : Int).toNat := mp_ck7 (mp_facts (7, 0, 0, 1006085) (by decide +kernel))
/-- scripts that hold no call -/
theorem ml_short {L : Nat} {xs : Nat → Int32} (hL : L < 8) : ml_ends L xs := lq_ends (mp_fresh (ll_out (i := 0) (by omega) (by omega) (by omega) ⟨rfl, Nat.le_trans (Nat.le_of_eq mp_n) (by decide), Nat.le_trans (Nat.le_of_eq mp_s) (by decide)⟩))
