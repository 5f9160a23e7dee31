/-! rules of methods, by program (wip/whole/srule.py) -/
section SR
variable {d : Nat} {Q : Option Value → mh_H → Prop} {st : List Value} {h : mh_H}
/-! java/util/Arrays.fill([II)V -/
theorem mj_393_0 : mc_P 393 0 = some (.iconst 0, 1, 0, 0, 0) := by decide +kernel
theorem s_393_0 {x0 x1 x2 x3 : Option Value} : mw d 393 Q 0 [x0, x1, x2, x3] (st) h = mw d 393 Q 1 [x0, x1, x2, x3] (.int 0 :: st) h := (mw_at mj_393_0).trans (z_iconst (by decide))
theorem mj_393_1 : mc_P 393 1 = some (.istore_n 2, 1, 0, 0, 0) := by decide +kernel
theorem s_393_1 {x0 x1 x2 x3 : Option Value} {w : Int32} : mw d 393 Q 1 [x0, x1, x2, x3] (.int w :: st) h = mw d 393 Q 2 [x0, mk2 x1, some (.int w), x3] (st) h := (mw_at mj_393_1).trans (z_istore_n (Nat.le_of_ble_eq_true rfl) (me_s1_mk (j := 1) (w := x1) rfl))
theorem mj_393_2 : mc_P 393 2 = some (.aload_n 0, 1, 0, 0, 0) := by decide +kernel
theorem s_393_2 {x1 x2 x3 : Option Value} {w : Value} : mw d 393 Q 2 [some w, x1, x2, x3] (st) h = mv_a w (mw d 393 Q 3 [some w, x1, x2, x3] (w :: st) h) := (mw_at mj_393_2).trans (z_aload_n rfl)
theorem mj_393_3 : mc_P 393 3 = some (.arraylength, 1, 0, 0, 0) := by decide +kernel
theorem s_393_3 {x0 x1 x2 x3 : Option Value} {o : Nat} : mw d 393 Q 3 [x0, x1, x2, x3] (.ref o :: st) h = (mga h o ∧ mw d 393 Q 4 [x0, x1, x2, x3] (.int (Int32.ofNat (mh_l h o)) :: st) h) := (mw_at mj_393_3).trans (z_alen)
theorem s_393_3x {x0 x1 x2 x3 : Option Value} {x : Nat} : mw d 393 Q 3 [x0, x1, x2, x3] (.retAddr x :: st) h = (me_xb x = true ∧ mw d 393 Q 4 [x0, x1, x2, x3] (.int (Int32.ofNat (mx_len.getD (x / 3 - 1) 0)) :: st) h) := (mw_at mj_393_3).trans (z_alenX)
theorem mj_393_4 : mc_P 393 4 = some (.istore_n 3, 1, 0, 0, 0) := by decide +kernel
theorem s_393_4 {x0 x1 x2 x3 : Option Value} {w : Int32} : mw d 393 Q 4 [x0, x1, x2, x3] (.int w :: st) h = mw d 393 Q 5 [x0, x1, mk2 x2, some (.int w)] (st) h := (mw_at mj_393_4).trans (z_istore_n (Nat.le_of_ble_eq_true rfl) (me_s1_mk (j := 2) (w := x2) rfl))
theorem mj_393_5 : mc_P 393 5 = some (.iload_n 2, 1, 0, 0, 0) := by decide +kernel
theorem s_393_5 {x0 x1 x3 : Option Value} {w : Value} : mw d 393 Q 5 [x0, x1, some w, x3] (st) h = mv_i w (mw d 393 Q 6 [x0, x1, some w, x3] (w :: st) h) := (mw_at mj_393_5).trans (z_iload_n rfl)
theorem mj_393_6 : mc_P 393 6 = some (.iload_n 3, 1, 0, 0, 0) := by decide +kernel
theorem s_393_6 {x0 x1 x2 : Option Value} {w : Value} : mw d 393 Q 6 [x0, x1, x2, some w] (st) h = mv_i w (mw d 393 Q 7 [x0, x1, x2, some w] (w :: st) h) := (mw_at mj_393_6).trans (z_iload_n rfl)
theorem mj_393_7 : mc_P 393 7 = some (.if_icmp .ge 13, 3, 0, 0, 0) := by decide +kernel
theorem s_393_7 {x0 x1 x2 x3 : Option Value} {x w : Int32} : mw d 393 Q 7 [x0, x1, x2, x3] (.int w :: .int x :: st) h = mB (w ≤ x) (mw d 393 Q) 20 10 [x0, x1, x2, x3] st h := (mw_at mj_393_7).trans (z_icmp_ge (by decide) rfl)
theorem mj_393_10 : mc_P 393 10 = some (.aload_n 0, 1, 0, 0, 0) := by decide +kernel
theorem s_393_10 {x1 x2 x3 : Option Value} {w : Value} : mw d 393 Q 10 [some w, x1, x2, x3] (st) h = mv_a w (mw d 393 Q 11 [some w, x1, x2, x3] (w :: st) h) := (mw_at mj_393_10).trans (z_aload_n rfl)
theorem mj_393_11 : mc_P 393 11 = some (.iload_n 2, 1, 0, 0, 0) := by decide +kernel
theorem s_393_11 {x0 x1 x3 : Option Value} {w : Value} : mw d 393 Q 11 [x0, x1, some w, x3] (st) h = mv_i w (mw d 393 Q 12 [x0, x1, some w, x3] (w :: st) h) := (mw_at mj_393_11).trans (z_iload_n rfl)
theorem mj_393_12 : mc_P 393 12 = some (.iload_n 1, 1, 0, 0, 0) := by decide +kernel
theorem s_393_12 {x0 x2 x3 : Option Value} {w : Value} : mw d 393 Q 12 [x0, some w, x2, x3] (st) h = mv_i w (mw d 393 Q 13 [x0, some w, x2, x3] (w :: st) h) := (mw_at mj_393_12).trans (z_iload_n rfl)
theorem mj_393_13 : mc_P 393 13 = some (.iastore, 1, 0, 0, 0) := by decide +kernel
theorem s_393_13 {x0 x1 x2 x3 : Option Value} {o : Nat} {i w : Int32} : mw d 393 Q 13 [x0, x1, x2, x3] (.int w :: .int i :: .ref o :: st) h = (mg h o 100 ∧ mx i (mh_l h o) ∧ mw d 393 Q 14 [x0, x1, x2, x3] (st) (mh_si h o i.toNatClampNeg w)) := (mw_at mj_393_13).trans (z_iast)
theorem mj_393_14 : mc_P 393 14 = some (.iinc 2 1, 3, 0, 0, 0) := by decide +kernel
theorem s_393_14 {x0 x1 x3 : Option Value} {w : Int32} : mw d 393 Q 14 [x0, x1, some (.int w), x3] (st) h = mw d 393 Q 17 [x0, mk2 x1, some (.int (w + 1)), x3] (st) h := (mw_at mj_393_14).trans (z_iinc rfl (Nat.le_of_ble_eq_true rfl) (by decide) (me_s1_mk (j := 1) (w := x1) rfl))
theorem mj_393_17 : mc_P 393 17 = some (.goto (-12), 3, 0, 0, 0) := by decide +kernel
theorem s_393_17 {x0 x1 x2 x3 : Option Value} : mw d 393 Q 17 [x0, x1, x2, x3] (st) h = mw d 393 Q 5 [x0, x1, x2, x3] (st) h := (mw_at mj_393_17).trans (z_goto (by decide))
theorem mj_393_20 : mc_P 393 20 = some (.return_, 1, 0, 0, 0) := by decide +kernel
theorem s_393_20 {x0 x1 x2 x3 : Option Value} : mw d 393 Q 20 [x0, x1, x2, x3] ([]) h = Q none h := (mw_at mj_393_20).trans (z_vret)
theorem e_393 {a0 : Nat} {a1 : Int32} : mcall d 393 [.ref a0, .int a1] h Q = mw d 393 Q 0 [some (.ref a0), some (.int a1), none, none] [] h := by
  show mw d 393 Q 0 (me_en (mc_nl 393) _) [] h = _
  rw [nl_393]; rfl

/-! java/lang/String.indexOf(I)I -/
theorem mj_399_0 : mc_P 399 0 = some (.aload_n 0, 1, 0, 0, 0) := by decide +kernel
theorem s_399_0 {x1 : Option Value} {w : Value} : mw d 399 Q 0 [some w, x1] (st) h = mv_a w (mw d 399 Q 1 [some w, x1] (w :: st) h) := (mw_at mj_399_0).trans (z_aload_n rfl)
theorem mj_399_1 : mc_P 399 1 = some (.iload_n 1, 1, 0, 0, 0) := by decide +kernel
theorem s_399_1 {x0 : Option Value} {w : Value} : mw d 399 Q 1 [x0, some w] (st) h = mv_i w (mw d 399 Q 2 [x0, some w] (w :: st) h) := (mw_at mj_399_1).trans (z_iload_n rfl)
theorem mj_399_2 : mc_P 399 2 = some (.iconst 0, 1, 0, 0, 0) := by decide +kernel
theorem s_399_2 {x0 x1 : Option Value} : mw d 399 Q 2 [x0, x1] (st) h = mw d 399 Q 3 [x0, x1] (.int 0 :: st) h := (mw_at mj_399_2).trans (z_iconst (by decide))
theorem mj_399_3 : mc_P 399 3 = some (.invokevirtual 633, 3, 400, 90, 3) := by decide +kernel
theorem s_399_3 {x0 x1 : Option Value} {o : Nat} {a1 a2 : Value} : mw (d + 1) 399 Q 3 [x0, x1] (a2 :: a1 :: .retAddr o :: st) h = (me_xs o = true ∧ mca st 8 ∧ mca [.retAddr o, a1, a2] 3 ∧ mcall d 400 [.retAddr o, a1, a2] h (mK (d + 1) 399 Q 6 [x0, x1] st)) := (mw_at mj_399_3).trans ((z_invx (As := [a1, a2]) rfl rfl).trans (congrArg (And _) (congrArg (And _) (mC_nl nl_400))))
theorem mj_399_6 : mc_P 399 6 = some (.ireturn, 1, 0, 0, 0) := by decide +kernel
theorem s_399_6 {x0 x1 : Option Value} {x : Int32} : mw d 399 Q 6 [x0, x1] ([.int x]) h = (Q (some (.int x)) h) := (mw_at mj_399_6).trans (z_iret)
theorem e_399 {a0 : Nat} {a1 : Int32} : mcall d 399 [.retAddr a0, .int a1] h Q = mw d 399 Q 0 [some (.retAddr a0), some (.int a1)] [] h := by
  show mw d 399 Q 0 (me_en (mc_nl 399) _) [] h = _
  rw [nl_399]; rfl

/-! java/lang/String.indexOf(II)I -/
theorem mj_400_0 : mc_P 400 0 = some (.aload_n 0, 1, 0, 0, 0) := by decide +kernel
theorem s_400_0 {x1 x2 : Option Value} {w : Value} : mw d 400 Q 0 [some w, x1, x2] (st) h = mv_a w (mw d 400 Q 1 [some w, x1, x2] (w :: st) h) := (mw_at mj_400_0).trans (z_aload_n rfl)
theorem mj_400_1 : mc_P 400 1 = some (.invokevirtual 492, 3, 396, 90, 1) := by decide +kernel
theorem s_400_1 {x0 x1 x2 : Option Value} {o : Nat} : mw (d + 1) 400 Q 1 [x0, x1, x2] (.retAddr o :: st) h = (me_xs o = true ∧ mca st 8 ∧ mca [.retAddr o] 1 ∧ mcall d 396 [.retAddr o] h (mK (d + 1) 400 Q 4 [x0, x1, x2] st)) := (mw_at mj_400_1).trans ((z_invx (As := []) rfl rfl).trans (congrArg (And _) (congrArg (And _) (mC_nl nl_396))))
theorem mj_400_4 : mc_P 400 4 = some (.ifCond .eq 19, 3, 0, 0, 0) := by decide +kernel
theorem s_400_4 {x0 x1 x2 : Option Value} {x : Int32} : mw d 400 Q 4 [x0, x1, x2] (.int x :: st) h = mB (x = 0) (mw d 400 Q) 23 7 [x0, x1, x2] st h := (mw_at mj_400_4).trans (z_if_eq (by decide) rfl)
theorem mj_400_7 : mc_P 400 7 = some (.aload_n 0, 1, 0, 0, 0) := by decide +kernel
theorem s_400_7 {x1 x2 : Option Value} {w : Value} : mw d 400 Q 7 [some w, x1, x2] (st) h = mv_a w (mw d 400 Q 8 [some w, x1, x2] (w :: st) h) := (mw_at mj_400_7).trans (z_aload_n rfl)
theorem mj_400_8 : mc_P 400 8 = some (.getfield 9, 3, 90, 1, 0) := by decide +kernel
theorem s_400_8 {x0 x1 x2 : Option Value} {x : Nat} : mw d 400 Q 8 [x0, x1, x2] (.retAddr x :: st) h = (me_xs x = true ∧ mw d 400 Q 11 [x0, x1, x2] (.retAddr (x + 1) :: st) h) := (mw_at mj_400_8).trans (z_getx (by decide) rfl)
theorem mj_400_11 : mc_P 400 11 = some (.iload_n 1, 1, 0, 0, 0) := by decide +kernel
theorem s_400_11 {x0 x2 : Option Value} {w : Value} : mw d 400 Q 11 [x0, some w, x2] (st) h = mv_i w (mw d 400 Q 12 [x0, some w, x2] (w :: st) h) := (mw_at mj_400_11).trans (z_iload_n rfl)
theorem mj_400_12 : mc_P 400 12 = some (.iload_n 2, 1, 0, 0, 0) := by decide +kernel
theorem s_400_12 {x0 x1 : Option Value} {w : Value} : mw d 400 Q 12 [x0, x1, some w] (st) h = mv_i w (mw d 400 Q 13 [x0, x1, some w] (w :: st) h) := (mw_at mj_400_12).trans (z_iload_n rfl)
theorem mj_400_13 : mc_P 400 13 = some (.aload_n 0, 1, 0, 0, 0) := by decide +kernel
theorem s_400_13 {x1 x2 : Option Value} {w : Value} : mw d 400 Q 13 [some w, x1, x2] (st) h = mv_a w (mw d 400 Q 14 [some w, x1, x2] (w :: st) h) := (mw_at mj_400_13).trans (z_aload_n rfl)
theorem mj_400_14 : mc_P 400 14 = some (.invokevirtual 505, 3, 394, 90, 1) := by decide +kernel
theorem s_400_14 {x0 x1 x2 : Option Value} {o : Nat} : mw (d + 1) 400 Q 14 [x0, x1, x2] (.retAddr o :: st) h = (me_xs o = true ∧ mca st 8 ∧ mca [.retAddr o] 1 ∧ mcall d 394 [.retAddr o] h (mK (d + 1) 400 Q 17 [x0, x1, x2] st)) := (mw_at mj_400_14).trans ((z_invx (As := []) rfl rfl).trans (congrArg (And _) (congrArg (And _) (mC_nl nl_394))))
theorem mj_400_17 : mc_P 400 17 = some (.invokestatic 637, 3, 402, 0, 4) := by decide +kernel
theorem s_400_17 {x0 x1 x2 : Option Value} {a0 a1 a2 a3 : Value} : mw (d + 1) 400 Q 17 [x0, x1, x2] (a3 :: a2 :: a1 :: a0 :: st) h = (mca st 8 ∧ mca [a0, a1, a2, a3] 4 ∧ mcall d 402 [a0, a1, a2, a3] h (mK (d + 1) 400 Q 20 [x0, x1, x2] st)) := (mw_at mj_400_17).trans ((z_invs (As := [a0, a1, a2, a3]) rfl rfl).trans (congrArg (And _) (mC_nl nl_402)))
theorem mj_400_20 : mc_P 400 20 = some (.goto 16, 3, 0, 0, 0) := by decide +kernel
theorem s_400_20 {x0 x1 x2 : Option Value} : mw d 400 Q 20 [x0, x1, x2] (st) h = mw d 400 Q 36 [x0, x1, x2] (st) h := (mw_at mj_400_20).trans (z_goto (by decide))
theorem mj_400_23 : mc_P 400 23 = some (.aload_n 0, 1, 0, 0, 0) := by decide +kernel
theorem s_400_23 {x1 x2 : Option Value} {w : Value} : mw d 400 Q 23 [some w, x1, x2] (st) h = mv_a w (mw d 400 Q 24 [some w, x1, x2] (w :: st) h) := (mw_at mj_400_23).trans (z_aload_n rfl)
theorem mj_400_24 : mc_P 400 24 = some (.getfield 9, 3, 90, 1, 0) := by decide +kernel
theorem s_400_24 {x0 x1 x2 : Option Value} {x : Nat} : mw d 400 Q 24 [x0, x1, x2] (.retAddr x :: st) h = (me_xs x = true ∧ mw d 400 Q 27 [x0, x1, x2] (.retAddr (x + 1) :: st) h) := (mw_at mj_400_24).trans (z_getx (by decide) rfl)
theorem mj_400_27 : mc_P 400 27 = some (.iload_n 1, 1, 0, 0, 0) := by decide +kernel
theorem s_400_27 {x0 x2 : Option Value} {w : Value} : mw d 400 Q 27 [x0, some w, x2] (st) h = mv_i w (mw d 400 Q 28 [x0, some w, x2] (w :: st) h) := (mw_at mj_400_27).trans (z_iload_n rfl)
theorem mj_400_28 : mc_P 400 28 = some (.iload_n 2, 1, 0, 0, 0) := by decide +kernel
theorem s_400_28 {x0 x1 : Option Value} {w : Value} : mw d 400 Q 28 [x0, x1, some w] (st) h = mv_i w (mw d 400 Q 29 [x0, x1, some w] (w :: st) h) := (mw_at mj_400_28).trans (z_iload_n rfl)
theorem mj_400_29 : mc_P 400 29 = some (.aload_n 0, 1, 0, 0, 0) := by decide +kernel
theorem s_400_29 {x1 x2 : Option Value} {w : Value} : mw d 400 Q 29 [some w, x1, x2] (st) h = mv_a w (mw d 400 Q 30 [some w, x1, x2] (w :: st) h) := (mw_at mj_400_29).trans (z_aload_n rfl)
theorem mj_400_30 : mc_P 400 30 = some (.invokevirtual 505, 3, 394, 90, 1) := by decide +kernel
theorem s_400_30 {x0 x1 x2 : Option Value} {o : Nat} : mw (d + 1) 400 Q 30 [x0, x1, x2] (.retAddr o :: st) h = (me_xs o = true ∧ mca st 8 ∧ mca [.retAddr o] 1 ∧ mcall d 394 [.retAddr o] h (mK (d + 1) 400 Q 33 [x0, x1, x2] st)) := (mw_at mj_400_30).trans ((z_invx (As := []) rfl rfl).trans (congrArg (And _) (congrArg (And _) (mC_nl nl_394))))
theorem mj_400_36 : mc_P 400 36 = some (.ireturn, 1, 0, 0, 0) := by decide +kernel
theorem s_400_36 {x0 x1 x2 : Option Value} {x : Int32} : mw d 400 Q 36 [x0, x1, x2] ([.int x]) h = (Q (some (.int x)) h) := (mw_at mj_400_36).trans (z_iret)
theorem e_400 {a0 : Nat} {a1 : Int32} {a2 : Int32} : mcall d 400 [.retAddr a0, .int a1, .int a2] h Q = mw d 400 Q 0 [some (.retAddr a0), some (.int a1), some (.int a2)] [] h := by
  show mw d 400 Q 0 (me_en (mc_nl 400) _) [] h = _
  rw [nl_400]; rfl

/-! java/lang/StringLatin1.indexOf([BIII)I -/
theorem mj_402_0 : mc_P 402 0 = some (.iload_n 1, 1, 0, 0, 0) := by decide +kernel
theorem s_402_0 {x0 x2 x3 : Option Value} {w : Value} : mw d 402 Q 0 [x0, some w, x2, x3] (st) h = mv_i w (mw d 402 Q 1 [x0, some w, x2, x3] (w :: st) h) := (mw_at mj_402_0).trans (z_iload_n rfl)
theorem mj_402_1 : mc_P 402 1 = some (.invokestatic 88, 3, 403, 0, 1) := by decide +kernel
theorem s_402_1 {x0 x1 x2 x3 : Option Value} {a0 : Value} : mw (d + 1) 402 Q 1 [x0, x1, x2, x3] (a0 :: st) h = (mca st 8 ∧ mca [a0] 1 ∧ mcall d 403 [a0] h (mK (d + 1) 402 Q 4 [x0, x1, x2, x3] st)) := (mw_at mj_402_1).trans ((z_invs (As := [a0]) rfl rfl).trans (congrArg (And _) (mC_nl nl_403)))
theorem mj_402_4 : mc_P 402 4 = some (.ifCond .ne 5, 3, 0, 0, 0) := by decide +kernel
theorem s_402_4 {x0 x1 x2 x3 : Option Value} {x : Int32} : mw d 402 Q 4 [x0, x1, x2, x3] (.int x :: st) h = mB (¬ x = 0) (mw d 402 Q) 9 7 [x0, x1, x2, x3] st h := (mw_at mj_402_4).trans (z_if_ne (by decide) rfl)
theorem mj_402_7 : mc_P 402 7 = some (.iconst (-1), 1, 0, 0, 0) := by decide +kernel
theorem s_402_7 {x0 x1 x2 x3 : Option Value} : mw d 402 Q 7 [x0, x1, x2, x3] (st) h = mw d 402 Q 8 [x0, x1, x2, x3] (.int (-1) :: st) h := (mw_at mj_402_7).trans (z_iconst (by decide))
theorem mj_402_8 : mc_P 402 8 = some (.ireturn, 1, 0, 0, 0) := by decide +kernel
theorem s_402_8 {x0 x1 x2 x3 : Option Value} {x : Int32} : mw d 402 Q 8 [x0, x1, x2, x3] ([.int x]) h = (Q (some (.int x)) h) := (mw_at mj_402_8).trans (z_iret)
theorem mj_402_9 : mc_P 402 9 = some (.iload_n 2, 1, 0, 0, 0) := by decide +kernel
theorem s_402_9 {x0 x1 x3 : Option Value} {w : Value} : mw d 402 Q 9 [x0, x1, some w, x3] (st) h = mv_i w (mw d 402 Q 10 [x0, x1, some w, x3] (w :: st) h) := (mw_at mj_402_9).trans (z_iload_n rfl)
theorem mj_402_10 : mc_P 402 10 = some (.iconst 0, 1, 0, 0, 0) := by decide +kernel
theorem s_402_10 {x0 x1 x2 x3 : Option Value} : mw d 402 Q 10 [x0, x1, x2, x3] (st) h = mw d 402 Q 11 [x0, x1, x2, x3] (.int 0 :: st) h := (mw_at mj_402_10).trans (z_iconst (by decide))
theorem mj_402_11 : mc_P 402 11 = some (.invokestatic 92, 3, 0, 21, 0) := by decide +kernel
theorem s_402_11 {x0 x1 x2 x3 : Option Value} {x w : Int32} : mw d 402 Q 11 [x0, x1, x2, x3] (.int w :: .int x :: st) h = (mca st 8 ∧ mw d 402 Q 14 [x0, x1, x2, x3] (.int (if x < w then w else x) :: st) h) := (mw_at mj_402_11).trans (z_max)
theorem mj_402_14 : mc_P 402 14 = some (.istore_n 2, 1, 0, 0, 0) := by decide +kernel
theorem s_402_14 {x0 x1 x2 x3 : Option Value} {w : Int32} : mw d 402 Q 14 [x0, x1, x2, x3] (.int w :: st) h = mw d 402 Q 15 [x0, mk2 x1, some (.int w), x3] (st) h := (mw_at mj_402_14).trans (z_istore_n (Nat.le_of_ble_eq_true rfl) (me_s1_mk (j := 1) (w := x1) rfl))
theorem mj_402_15 : mc_P 402 15 = some (.iload_n 3, 1, 0, 0, 0) := by decide +kernel
theorem s_402_15 {x0 x1 x2 : Option Value} {w : Value} : mw d 402 Q 15 [x0, x1, x2, some w] (st) h = mv_i w (mw d 402 Q 16 [x0, x1, x2, some w] (w :: st) h) := (mw_at mj_402_15).trans (z_iload_n rfl)
theorem mj_402_16 : mc_P 402 16 = some (.aload_n 0, 1, 0, 0, 0) := by decide +kernel
theorem s_402_16 {x1 x2 x3 : Option Value} {w : Value} : mw d 402 Q 16 [some w, x1, x2, x3] (st) h = mv_a w (mw d 402 Q 17 [some w, x1, x2, x3] (w :: st) h) := (mw_at mj_402_16).trans (z_aload_n rfl)
theorem mj_402_17 : mc_P 402 17 = some (.arraylength, 1, 0, 0, 0) := by decide +kernel
theorem s_402_17 {x0 x1 x2 x3 : Option Value} {o : Nat} : mw d 402 Q 17 [x0, x1, x2, x3] (.ref o :: st) h = (mga h o ∧ mw d 402 Q 18 [x0, x1, x2, x3] (.int (Int32.ofNat (mh_l h o)) :: st) h) := (mw_at mj_402_17).trans (z_alen)
theorem s_402_17x {x0 x1 x2 x3 : Option Value} {x : Nat} : mw d 402 Q 17 [x0, x1, x2, x3] (.retAddr x :: st) h = (me_xb x = true ∧ mw d 402 Q 18 [x0, x1, x2, x3] (.int (Int32.ofNat (mx_len.getD (x / 3 - 1) 0)) :: st) h) := (mw_at mj_402_17).trans (z_alenX)
theorem mj_402_18 : mc_P 402 18 = some (.invokestatic 38, 3, 0, 20, 0) := by decide +kernel
theorem s_402_18 {x0 x1 x2 x3 : Option Value} {x w : Int32} : mw d 402 Q 18 [x0, x1, x2, x3] (.int w :: .int x :: st) h = (mca st 8 ∧ mw d 402 Q 21 [x0, x1, x2, x3] (.int (if w < x then w else x) :: st) h) := (mw_at mj_402_18).trans (z_min)
theorem mj_402_21 : mc_P 402 21 = some (.istore_n 3, 1, 0, 0, 0) := by decide +kernel
theorem s_402_21 {x0 x1 x2 x3 : Option Value} {w : Int32} : mw d 402 Q 21 [x0, x1, x2, x3] (.int w :: st) h = mw d 402 Q 22 [x0, x1, mk2 x2, some (.int w)] (st) h := (mw_at mj_402_21).trans (z_istore_n (Nat.le_of_ble_eq_true rfl) (me_s1_mk (j := 2) (w := x2) rfl))
theorem mj_402_22 : mc_P 402 22 = some (.iload_n 2, 1, 0, 0, 0) := by decide +kernel
theorem s_402_22 {x0 x1 x3 : Option Value} {w : Value} : mw d 402 Q 22 [x0, x1, some w, x3] (st) h = mv_i w (mw d 402 Q 23 [x0, x1, some w, x3] (w :: st) h) := (mw_at mj_402_22).trans (z_iload_n rfl)
theorem mj_402_23 : mc_P 402 23 = some (.iload_n 3, 1, 0, 0, 0) := by decide +kernel
theorem s_402_23 {x0 x1 x2 : Option Value} {w : Value} : mw d 402 Q 23 [x0, x1, x2, some w] (st) h = mv_i w (mw d 402 Q 24 [x0, x1, x2, some w] (w :: st) h) := (mw_at mj_402_23).trans (z_iload_n rfl)
theorem mj_402_24 : mc_P 402 24 = some (.if_icmp .lt 5, 3, 0, 0, 0) := by decide +kernel
theorem s_402_24 {x0 x1 x2 x3 : Option Value} {x w : Int32} : mw d 402 Q 24 [x0, x1, x2, x3] (.int w :: .int x :: st) h = mB (x < w) (mw d 402 Q) 29 27 [x0, x1, x2, x3] st h := (mw_at mj_402_24).trans (z_icmp_lt (by decide) rfl)
theorem mj_402_27 : mc_P 402 27 = some (.iconst (-1), 1, 0, 0, 0) := by decide +kernel
theorem s_402_27 {x0 x1 x2 x3 : Option Value} : mw d 402 Q 27 [x0, x1, x2, x3] (st) h = mw d 402 Q 28 [x0, x1, x2, x3] (.int (-1) :: st) h := (mw_at mj_402_27).trans (z_iconst (by decide))
theorem mj_402_28 : mc_P 402 28 = some (.ireturn, 1, 0, 0, 0) := by decide +kernel
theorem s_402_28 {x0 x1 x2 x3 : Option Value} {x : Int32} : mw d 402 Q 28 [x0, x1, x2, x3] ([.int x]) h = (Q (some (.int x)) h) := (mw_at mj_402_28).trans (z_iret)
theorem mj_402_29 : mc_P 402 29 = some (.aload_n 0, 1, 0, 0, 0) := by decide +kernel
theorem s_402_29 {x1 x2 x3 : Option Value} {w : Value} : mw d 402 Q 29 [some w, x1, x2, x3] (st) h = mv_a w (mw d 402 Q 30 [some w, x1, x2, x3] (w :: st) h) := (mw_at mj_402_29).trans (z_aload_n rfl)
theorem mj_402_30 : mc_P 402 30 = some (.iload_n 1, 1, 0, 0, 0) := by decide +kernel
theorem s_402_30 {x0 x2 x3 : Option Value} {w : Value} : mw d 402 Q 30 [x0, some w, x2, x3] (st) h = mv_i w (mw d 402 Q 31 [x0, some w, x2, x3] (w :: st) h) := (mw_at mj_402_30).trans (z_iload_n rfl)
theorem mj_402_31 : mc_P 402 31 = some (.iload_n 2, 1, 0, 0, 0) := by decide +kernel
theorem s_402_31 {x0 x1 x3 : Option Value} {w : Value} : mw d 402 Q 31 [x0, x1, some w, x3] (st) h = mv_i w (mw d 402 Q 32 [x0, x1, some w, x3] (w :: st) h) := (mw_at mj_402_31).trans (z_iload_n rfl)
theorem mj_402_32 : mc_P 402 32 = some (.iload_n 3, 1, 0, 0, 0) := by decide +kernel
theorem s_402_32 {x0 x1 x2 : Option Value} {w : Value} : mw d 402 Q 32 [x0, x1, x2, some w] (st) h = mv_i w (mw d 402 Q 33 [x0, x1, x2, some w] (w :: st) h) := (mw_at mj_402_32).trans (z_iload_n rfl)
theorem mj_402_33 : mc_P 402 33 = some (.invokestatic 95, 3, 404, 0, 4) := by decide +kernel
theorem s_402_33 {x0 x1 x2 x3 : Option Value} {a0 a1 a2 a3 : Value} : mw (d + 1) 402 Q 33 [x0, x1, x2, x3] (a3 :: a2 :: a1 :: a0 :: st) h = (mca st 8 ∧ mca [a0, a1, a2, a3] 6 ∧ mcall d 404 [a0, a1, a2, a3] h (mK (d + 1) 402 Q 36 [x0, x1, x2, x3] st)) := (mw_at mj_402_33).trans ((z_invs (As := [a0, a1, a2, a3]) rfl rfl).trans (congrArg (And _) (mC_nl nl_404)))
theorem mj_402_36 : mc_P 402 36 = some (.ireturn, 1, 0, 0, 0) := by decide +kernel
theorem s_402_36 {x0 x1 x2 x3 : Option Value} {x : Int32} : mw d 402 Q 36 [x0, x1, x2, x3] ([.int x]) h = (Q (some (.int x)) h) := (mw_at mj_402_36).trans (z_iret)
theorem e_402 {a0 : Nat} {a1 : Int32} {a2 : Int32} {a3 : Int32} : mcall d 402 [.retAddr a0, .int a1, .int a2, .int a3] h Q = mw d 402 Q 0 [some (.retAddr a0), some (.int a1), some (.int a2), some (.int a3)] [] h := by
  show mw d 402 Q 0 (me_en (mc_nl 402) _) [] h = _
  rw [nl_402]; rfl

/-! java/lang/StringLatin1.canEncode(I)Z -/
theorem mj_403_0 : mc_P 403 0 = some (.iload_n 0, 1, 0, 0, 0) := by decide +kernel
theorem s_403_0 {w : Value} : mw d 403 Q 0 [some w] (st) h = mv_i w (mw d 403 Q 1 [some w] (w :: st) h) := (mw_at mj_403_0).trans (z_iload_n rfl)
theorem mj_403_1 : mc_P 403 1 = some (.ifCond .lt 14, 3, 0, 0, 0) := by decide +kernel
theorem s_403_1 {x0 : Option Value} {x : Int32} : mw d 403 Q 1 [x0] (.int x :: st) h = mB (x < 0) (mw d 403 Q) 15 4 [x0] st h := (mw_at mj_403_1).trans (z_if_lt (by decide) rfl)
theorem mj_403_4 : mc_P 403 4 = some (.iload_n 0, 1, 0, 0, 0) := by decide +kernel
theorem s_403_4 {w : Value} : mw d 403 Q 4 [some w] (st) h = mv_i w (mw d 403 Q 5 [some w] (w :: st) h) := (mw_at mj_403_4).trans (z_iload_n rfl)
theorem mj_403_5 : mc_P 403 5 = some (.sipush 255, 3, 0, 0, 0) := by decide +kernel
theorem s_403_5 {x0 : Option Value} : mw d 403 Q 5 [x0] (st) h = mw d 403 Q 8 [x0] (.int 255 :: st) h := (mw_at mj_403_5).trans (z_sipush (by decide))
theorem mj_403_8 : mc_P 403 8 = some (.if_icmp .gt 7, 3, 0, 0, 0) := by decide +kernel
theorem s_403_8 {x0 : Option Value} {x w : Int32} : mw d 403 Q 8 [x0] (.int w :: .int x :: st) h = mB (w < x) (mw d 403 Q) 15 11 [x0] st h := (mw_at mj_403_8).trans (z_icmp_gt (by decide) rfl)
theorem mj_403_11 : mc_P 403 11 = some (.iconst 1, 1, 0, 0, 0) := by decide +kernel
theorem s_403_11 {x0 : Option Value} : mw d 403 Q 11 [x0] (st) h = mw d 403 Q 12 [x0] (.int 1 :: st) h := (mw_at mj_403_11).trans (z_iconst (by decide))
theorem mj_403_12 : mc_P 403 12 = some (.goto 4, 3, 0, 0, 0) := by decide +kernel
theorem s_403_12 {x0 : Option Value} : mw d 403 Q 12 [x0] (st) h = mw d 403 Q 16 [x0] (st) h := (mw_at mj_403_12).trans (z_goto (by decide))
theorem mj_403_15 : mc_P 403 15 = some (.iconst 0, 1, 0, 0, 0) := by decide +kernel
theorem s_403_15 {x0 : Option Value} : mw d 403 Q 15 [x0] (st) h = mw d 403 Q 16 [x0] (.int 0 :: st) h := (mw_at mj_403_15).trans (z_iconst (by decide))
theorem mj_403_16 : mc_P 403 16 = some (.ireturn, 1, 0, 3, 0) := by decide +kernel
theorem s_403_16 {x0 : Option Value} {x : Int32} : mw d 403 Q 16 [x0] ([.int x]) h = ((x = 0 ∨ x = 1) ∧ Q (some (.int x)) h) := (mw_at mj_403_16).trans (z_zret)
theorem e_403 {a0 : Int32} : mcall d 403 [.int a0] h Q = mw d 403 Q 0 [some (.int a0)] [] h := by
  show mw d 403 Q 0 (me_en (mc_nl 403) _) [] h = _
  rw [nl_403]; rfl

/-! java/lang/StringLatin1.indexOfChar([BIII)I -/
theorem mj_404_0 : mc_P 404 0 = some (.iload_n 1, 1, 0, 0, 0) := by decide +kernel
theorem s_404_0 {x0 x2 x3 x4 x5 : Option Value} {w : Value} : mw d 404 Q 0 [x0, some w, x2, x3, x4, x5] (st) h = mv_i w (mw d 404 Q 1 [x0, some w, x2, x3, x4, x5] (w :: st) h) := (mw_at mj_404_0).trans (z_iload_n rfl)
theorem mj_404_1 : mc_P 404 1 = some (.i2b, 1, 0, 0, 0) := by decide +kernel
theorem s_404_1 {x0 x1 x2 x3 x4 x5 : Option Value} {x : Int32} : mw d 404 Q 1 [x0, x1, x2, x3, x4, x5] (.int x :: st) h = mw d 404 Q 2 [x0, x1, x2, x3, x4, x5] (.int x.toInt8.toInt32 :: st) h := (mw_at mj_404_1).trans (z_i2b)
theorem mj_404_2 : mc_P 404 2 = some (.istore 4, 2, 0, 0, 0) := by decide +kernel
theorem s_404_2 {x0 x1 x2 x3 x4 x5 : Option Value} {w : Int32} : mw d 404 Q 2 [x0, x1, x2, x3, x4, x5] (.int w :: st) h = mw d 404 Q 4 [x0, x1, x2, mk2 x3, some (.int w), x5] (st) h := (mw_at mj_404_2).trans (z_istore (Nat.le_of_ble_eq_true rfl) (me_s1_mk (j := 3) (w := x3) rfl))
theorem mj_404_4 : mc_P 404 4 = some (.iload_n 2, 1, 0, 0, 0) := by decide +kernel
theorem s_404_4 {x0 x1 x3 x4 x5 : Option Value} {w : Value} : mw d 404 Q 4 [x0, x1, some w, x3, x4, x5] (st) h = mv_i w (mw d 404 Q 5 [x0, x1, some w, x3, x4, x5] (w :: st) h) := (mw_at mj_404_4).trans (z_iload_n rfl)
theorem mj_404_5 : mc_P 404 5 = some (.istore 5, 2, 0, 0, 0) := by decide +kernel
theorem s_404_5 {x0 x1 x2 x3 x4 x5 : Option Value} {w : Int32} : mw d 404 Q 5 [x0, x1, x2, x3, x4, x5] (.int w :: st) h = mw d 404 Q 7 [x0, x1, x2, x3, mk2 x4, some (.int w)] (st) h := (mw_at mj_404_5).trans (z_istore (Nat.le_of_ble_eq_true rfl) (me_s1_mk (j := 4) (w := x4) rfl))
theorem mj_404_7 : mc_P 404 7 = some (.iload 5, 2, 0, 0, 0) := by decide +kernel
theorem s_404_7 {x0 x1 x2 x3 x4 : Option Value} {w : Value} : mw d 404 Q 7 [x0, x1, x2, x3, x4, some w] (st) h = mv_i w (mw d 404 Q 9 [x0, x1, x2, x3, x4, some w] (w :: st) h) := (mw_at mj_404_7).trans (z_iload rfl)
theorem mj_404_9 : mc_P 404 9 = some (.iload_n 3, 1, 0, 0, 0) := by decide +kernel
theorem s_404_9 {x0 x1 x2 x4 x5 : Option Value} {w : Value} : mw d 404 Q 9 [x0, x1, x2, some w, x4, x5] (st) h = mv_i w (mw d 404 Q 10 [x0, x1, x2, some w, x4, x5] (w :: st) h) := (mw_at mj_404_9).trans (z_iload_n rfl)
theorem mj_404_10 : mc_P 404 10 = some (.if_icmp .ge 21, 3, 0, 0, 0) := by decide +kernel
theorem s_404_10 {x0 x1 x2 x3 x4 x5 : Option Value} {x w : Int32} : mw d 404 Q 10 [x0, x1, x2, x3, x4, x5] (.int w :: .int x :: st) h = mB (w ≤ x) (mw d 404 Q) 31 13 [x0, x1, x2, x3, x4, x5] st h := (mw_at mj_404_10).trans (z_icmp_ge (by decide) rfl)
theorem mj_404_13 : mc_P 404 13 = some (.aload_n 0, 1, 0, 0, 0) := by decide +kernel
theorem s_404_13 {x1 x2 x3 x4 x5 : Option Value} {w : Value} : mw d 404 Q 13 [some w, x1, x2, x3, x4, x5] (st) h = mv_a w (mw d 404 Q 14 [some w, x1, x2, x3, x4, x5] (w :: st) h) := (mw_at mj_404_13).trans (z_aload_n rfl)
theorem mj_404_14 : mc_P 404 14 = some (.iload 5, 2, 0, 0, 0) := by decide +kernel
theorem s_404_14 {x0 x1 x2 x3 x4 : Option Value} {w : Value} : mw d 404 Q 14 [x0, x1, x2, x3, x4, some w] (st) h = mv_i w (mw d 404 Q 16 [x0, x1, x2, x3, x4, some w] (w :: st) h) := (mw_at mj_404_14).trans (z_iload rfl)
theorem mj_404_16 : mc_P 404 16 = some (.baload, 1, 0, 0, 0) := by decide +kernel
theorem s_404_16 {x0 x1 x2 x3 x4 x5 : Option Value} {o : Nat} {i : Int32} : mw d 404 Q 16 [x0, x1, x2, x3, x4, x5] (.int i :: .ref o :: st) h = (mgb h o ∧ mx i (mh_l h o) ∧ mw d 404 Q 17 [x0, x1, x2, x3, x4, x5] (.int (mh_i h o i.toNatClampNeg) :: st) h) := (mw_at mj_404_16).trans (z_bald)
theorem s_404_16x {x0 x1 x2 x3 x4 x5 : Option Value} {x : Nat} {i : Int32} : mw d 404 Q 16 [x0, x1, x2, x3, x4, x5] (.int i :: .retAddr x :: st) h = (me_xb x = true ∧ mx i (mx_len.getD (x / 3 - 1) 0) ∧ mw d 404 Q 17 [x0, x1, x2, x3, x4, x5] (.int ((mx_byt.getD (x / 3 - 1) []).getD i.toNatClampNeg 0) :: st) h) := (mw_at mj_404_16).trans (z_baX)
theorem mj_404_17 : mc_P 404 17 = some (.iload 4, 2, 0, 0, 0) := by decide +kernel
theorem s_404_17 {x0 x1 x2 x3 x5 : Option Value} {w : Value} : mw d 404 Q 17 [x0, x1, x2, x3, some w, x5] (st) h = mv_i w (mw d 404 Q 19 [x0, x1, x2, x3, some w, x5] (w :: st) h) := (mw_at mj_404_17).trans (z_iload rfl)
theorem mj_404_19 : mc_P 404 19 = some (.if_icmp .ne 6, 3, 0, 0, 0) := by decide +kernel
theorem s_404_19 {x0 x1 x2 x3 x4 x5 : Option Value} {x w : Int32} : mw d 404 Q 19 [x0, x1, x2, x3, x4, x5] (.int w :: .int x :: st) h = mB (¬ x = w) (mw d 404 Q) 25 22 [x0, x1, x2, x3, x4, x5] st h := (mw_at mj_404_19).trans (z_icmp_ne (by decide) rfl)
theorem mj_404_22 : mc_P 404 22 = some (.iload 5, 2, 0, 0, 0) := by decide +kernel
theorem s_404_22 {x0 x1 x2 x3 x4 : Option Value} {w : Value} : mw d 404 Q 22 [x0, x1, x2, x3, x4, some w] (st) h = mv_i w (mw d 404 Q 24 [x0, x1, x2, x3, x4, some w] (w :: st) h) := (mw_at mj_404_22).trans (z_iload rfl)
theorem mj_404_24 : mc_P 404 24 = some (.ireturn, 1, 0, 0, 0) := by decide +kernel
theorem s_404_24 {x0 x1 x2 x3 x4 x5 : Option Value} {x : Int32} : mw d 404 Q 24 [x0, x1, x2, x3, x4, x5] ([.int x]) h = (Q (some (.int x)) h) := (mw_at mj_404_24).trans (z_iret)
theorem mj_404_25 : mc_P 404 25 = some (.iinc 5 1, 3, 0, 0, 0) := by decide +kernel
theorem s_404_25 {x0 x1 x2 x3 x4 : Option Value} {w : Int32} : mw d 404 Q 25 [x0, x1, x2, x3, x4, some (.int w)] (st) h = mw d 404 Q 28 [x0, x1, x2, x3, mk2 x4, some (.int (w + 1))] (st) h := (mw_at mj_404_25).trans (z_iinc rfl (Nat.le_of_ble_eq_true rfl) (by decide) (me_s1_mk (j := 4) (w := x4) rfl))
theorem mj_404_28 : mc_P 404 28 = some (.goto (-21), 3, 0, 0, 0) := by decide +kernel
theorem s_404_28 {x0 x1 x2 x3 x4 x5 : Option Value} : mw d 404 Q 28 [x0, x1, x2, x3, x4, x5] (st) h = mw d 404 Q 7 [x0, x1, x2, x3, x4, x5] (st) h := (mw_at mj_404_28).trans (z_goto (by decide))
theorem mj_404_31 : mc_P 404 31 = some (.iconst (-1), 1, 0, 0, 0) := by decide +kernel
theorem s_404_31 {x0 x1 x2 x3 x4 x5 : Option Value} : mw d 404 Q 31 [x0, x1, x2, x3, x4, x5] (st) h = mw d 404 Q 32 [x0, x1, x2, x3, x4, x5] (.int (-1) :: st) h := (mw_at mj_404_31).trans (z_iconst (by decide))
theorem mj_404_32 : mc_P 404 32 = some (.ireturn, 1, 0, 0, 0) := by decide +kernel
theorem s_404_32 {x0 x1 x2 x3 x4 x5 : Option Value} {x : Int32} : mw d 404 Q 32 [x0, x1, x2, x3, x4, x5] ([.int x]) h = (Q (some (.int x)) h) := (mw_at mj_404_32).trans (z_iret)
theorem e_404 {a0 : Nat} {a1 : Int32} {a2 : Int32} {a3 : Int32} : mcall d 404 [.retAddr a0, .int a1, .int a2, .int a3] h Q = mw d 404 Q 0 [some (.retAddr a0), some (.int a1), some (.int a2), some (.int a3), none, none] [] h := by
  show mw d 404 Q 0 (me_en (mc_nl 404) _) [] h = _
  rw [nl_404]; rfl

end SR
