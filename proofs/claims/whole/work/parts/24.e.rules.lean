/-! rules of methods, by program (wip/whole/srule.py) -/
section SR
variable {d : Nat} {Q : Option Value → mh_H → Prop} {st : List Value} {h : mh_H}
/-! InvariantDesk$State.<init>()V -/
theorem mj_139_0 : mc_P 139 0 = some (.aload_n 0, 1, 0, 0, 0) := by decide +kernel
theorem s_139_0 {w : Value} : mw d 139 Q 0 [some w] (st) h = mv_a w (mw d 139 Q 1 [some w] (w :: st) h) := (mw_at mj_139_0).trans (z_aload_n rfl)
theorem mj_139_1 : mc_P 139 1 = some (.invokespecial 3, 3, 0, 1, 0) := by decide +kernel
theorem s_139_1 {x0 : Option Value} {o : Nat} : mw d 139 Q 1 [x0] (.ref o :: st) h = (mca st 8 ∧ mw d 139 Q 4 [x0] (st) h) := (mw_at mj_139_1).trans (z_obj)
theorem mj_139_4 : mc_P 139 4 = some (.aload_n 0, 1, 0, 0, 0) := by decide +kernel
theorem s_139_4 {w : Value} : mw d 139 Q 4 [some w] (st) h = mv_a w (mw d 139 Q 5 [some w] (w :: st) h) := (mw_at mj_139_4).trans (z_aload_n rfl)
theorem mj_139_5 : mc_P 139 5 = some (.sipush 312, 3, 0, 0, 0) := by decide +kernel
theorem s_139_5 {x0 : Option Value} : mw d 139 Q 5 [x0] (st) h = mw d 139 Q 8 [x0] (.int 312 :: st) h := (mw_at mj_139_5).trans (z_sipush (by decide))
theorem mj_139_8 : mc_P 139 8 = some (.newarray .long, 2, 101, 0, 0) := by decide +kernel
theorem s_139_8 {x0 : Option Value} {i : Int32} : mw d 139 Q 8 [x0] (.int i :: st) h = (mN i ∧ mw d 139 Q 10 [x0] (.ref (mh_n h) :: st) (mh_new h 101 i.toNatClampNeg)) := (mw_at mj_139_8).trans (z_newa (by decide) (by decide))
theorem mj_139_10 : mc_P 139 10 = some (.putfield 11, 3, 8, 3, 0) := by decide +kernel
theorem s_139_10 {x0 : Option Value} {o w : Nat} : mw d 139 Q 10 [x0] (.ref w :: .ref o :: st) h = (mg h o 8 ∧ mw d 139 Q 13 [x0] (st) (mh_sr h o 3 (some w))) := (mw_at mj_139_10).trans (z_putr (by decide) (by decide) rfl)
theorem s_139_10n {x0 : Option Value} {o : Nat} : mw d 139 Q 10 [x0] (.null :: .ref o :: st) h = (mg h o 8 ∧ mw d 139 Q 13 [x0] (st) (mh_sr h o 3 none)) := (mw_at mj_139_10).trans (z_putn (by decide) (by decide) rfl)
theorem mj_139_13 : mc_P 139 13 = some (.aload_n 0, 1, 0, 0, 0) := by decide +kernel
theorem s_139_13 {w : Value} : mw d 139 Q 13 [some w] (st) h = mv_a w (mw d 139 Q 14 [some w] (w :: st) h) := (mw_at mj_139_13).trans (z_aload_n rfl)
theorem mj_139_14 : mc_P 139 14 = some (.bipush 12, 2, 0, 0, 0) := by decide +kernel
theorem s_139_14 {x0 : Option Value} : mw d 139 Q 14 [x0] (st) h = mw d 139 Q 16 [x0] (.int 12 :: st) h := (mw_at mj_139_14).trans (z_bipush (by decide))
theorem mj_139_16 : mc_P 139 16 = some (.newarray .long, 2, 101, 0, 0) := by decide +kernel
theorem s_139_16 {x0 : Option Value} {i : Int32} : mw d 139 Q 16 [x0] (.int i :: st) h = (mN i ∧ mw d 139 Q 18 [x0] (.ref (mh_n h) :: st) (mh_new h 101 i.toNatClampNeg)) := (mw_at mj_139_16).trans (z_newa (by decide) (by decide))
theorem mj_139_18 : mc_P 139 18 = some (.putfield 15, 3, 8, 4, 0) := by decide +kernel
theorem s_139_18 {x0 : Option Value} {o w : Nat} : mw d 139 Q 18 [x0] (.ref w :: .ref o :: st) h = (mg h o 8 ∧ mw d 139 Q 21 [x0] (st) (mh_sr h o 4 (some w))) := (mw_at mj_139_18).trans (z_putr (by decide) (by decide) rfl)
theorem s_139_18n {x0 : Option Value} {o : Nat} : mw d 139 Q 18 [x0] (.null :: .ref o :: st) h = (mg h o 8 ∧ mw d 139 Q 21 [x0] (st) (mh_sr h o 4 none)) := (mw_at mj_139_18).trans (z_putn (by decide) (by decide) rfl)
theorem mj_139_21 : mc_P 139 21 = some (.return_, 1, 0, 0, 0) := by decide +kernel
theorem s_139_21 {x0 : Option Value} : mw d 139 Q 21 [x0] ([]) h = Q none h := (mw_at mj_139_21).trans (z_vret)
theorem e_139 {a0 : Nat} : mcall d 139 [.ref a0] h Q = mw d 139 Q 0 [some (.ref a0)] [] h := by
  show mw d 139 Q 0 (me_en (mc_nl 139) _) [] h = _
  rw [nl_139]; rfl

/-! InvariantDesk$State.cell(II)I -/
theorem mj_140_0 : mc_P 140 0 = some (.iload_n 1, 1, 0, 0, 0) := by decide +kernel
theorem s_140_0 {x0 : Option Value} {w : Value} : mw d 140 Q 0 [x0, some w] (st) h = mv_i w (mw d 140 Q 1 [x0, some w] (w :: st) h) := (mw_at mj_140_0).trans (z_iload_n rfl)
theorem mj_140_1 : mc_P 140 1 = some (.iload_n 0, 1, 0, 0, 0) := by decide +kernel
theorem s_140_1 {x1 : Option Value} {w : Value} : mw d 140 Q 1 [some w, x1] (st) h = mv_i w (mw d 140 Q 2 [some w, x1] (w :: st) h) := (mw_at mj_140_1).trans (z_iload_n rfl)
theorem mj_140_2 : mc_P 140 2 = some (.iconst 1, 1, 0, 0, 0) := by decide +kernel
theorem s_140_2 {x0 x1 : Option Value} : mw d 140 Q 2 [x0, x1] (st) h = mw d 140 Q 3 [x0, x1] (.int 1 :: st) h := (mw_at mj_140_2).trans (z_iconst (by decide))
theorem mj_140_3 : mc_P 140 3 = some (.ior, 1, 0, 0, 0) := by decide +kernel
theorem s_140_3 {x0 x1 : Option Value} {x w : Int32} : mw d 140 Q 3 [x0, x1] (.int w :: .int x :: st) h = mw d 140 Q 4 [x0, x1] (.int (x ||| w) :: st) h := (mw_at mj_140_3).trans (z_ior)
theorem mj_140_4 : mc_P 140 4 = some (.if_icmp .gt 13, 3, 0, 0, 0) := by decide +kernel
theorem s_140_4 {x0 x1 : Option Value} {x w : Int32} : mw d 140 Q 4 [x0, x1] (.int w :: .int x :: st) h = mB (w < x) (mw d 140 Q) 17 7 [x0, x1] st h := (mw_at mj_140_4).trans (z_icmp_gt (by decide) rfl)
theorem mj_140_7 : mc_P 140 7 = some (.getstatic 18, 3, 2, 0, 0) := by decide +kernel
theorem s_140_7 {x0 x1 : Option Value} : mw d 140 Q 7 [x0, x1] (st) h = mw d 140 Q 10 [x0, x1] (.retAddr 2 :: st) h := (mw_at mj_140_7).trans (z_gets0)
theorem mj_140_10 : mc_P 140 10 = some (.iload_n 0, 1, 0, 0, 0) := by decide +kernel
theorem s_140_10 {x1 : Option Value} {w : Value} : mw d 140 Q 10 [some w, x1] (st) h = mv_i w (mw d 140 Q 11 [some w, x1] (w :: st) h) := (mw_at mj_140_10).trans (z_iload_n rfl)
theorem mj_140_11 : mc_P 140 11 = some (.iaload, 1, 0, 0, 0) := by decide +kernel
theorem s_140_11 {x0 x1 : Option Value} {o : Nat} {i : Int32} : mw d 140 Q 11 [x0, x1] (.int i :: .ref o :: st) h = (mg h o 100 ∧ mx i (mh_l h o) ∧ mw d 140 Q 12 [x0, x1] (.int (mh_i h o i.toNatClampNeg) :: st) h) := (mw_at mj_140_11).trans (z_iald)
theorem s_140_11x {x0 x1 : Option Value} {i : Int32} : mw d 140 Q 11 [x0, x1] (.int i :: .retAddr 2 :: st) h = (mx i 24 ∧ mw d 140 Q 12 [x0, x1] (.int (mx_row.getD i.toNatClampNeg 0) :: st) h) := (mw_at mj_140_11).trans (z_iaX)
theorem mj_140_12 : mc_P 140 12 = some (.iload_n 1, 1, 0, 0, 0) := by decide +kernel
theorem s_140_12 {x0 : Option Value} {w : Value} : mw d 140 Q 12 [x0, some w] (st) h = mv_i w (mw d 140 Q 13 [x0, some w] (w :: st) h) := (mw_at mj_140_12).trans (z_iload_n rfl)
theorem mj_140_13 : mc_P 140 13 = some (.iadd, 1, 0, 0, 0) := by decide +kernel
theorem s_140_13 {x0 x1 : Option Value} {x w : Int32} : mw d 140 Q 13 [x0, x1] (.int w :: .int x :: st) h = mw d 140 Q 14 [x0, x1] (.int (x + w) :: st) h := (mw_at mj_140_13).trans (z_iadd)
theorem mj_140_14 : mc_P 140 14 = some (.goto 14, 3, 0, 0, 0) := by decide +kernel
theorem s_140_14 {x0 x1 : Option Value} : mw d 140 Q 14 [x0, x1] (st) h = mw d 140 Q 28 [x0, x1] (st) h := (mw_at mj_140_14).trans (z_goto (by decide))
theorem mj_140_17 : mc_P 140 17 = some (.getstatic 18, 3, 2, 0, 0) := by decide +kernel
theorem s_140_17 {x0 x1 : Option Value} : mw d 140 Q 17 [x0, x1] (st) h = mw d 140 Q 20 [x0, x1] (.retAddr 2 :: st) h := (mw_at mj_140_17).trans (z_gets0)
theorem mj_140_20 : mc_P 140 20 = some (.iload_n 1, 1, 0, 0, 0) := by decide +kernel
theorem s_140_20 {x0 : Option Value} {w : Value} : mw d 140 Q 20 [x0, some w] (st) h = mv_i w (mw d 140 Q 21 [x0, some w] (w :: st) h) := (mw_at mj_140_20).trans (z_iload_n rfl)
theorem mj_140_21 : mc_P 140 21 = some (.iconst 1, 1, 0, 0, 0) := by decide +kernel
theorem s_140_21 {x0 x1 : Option Value} : mw d 140 Q 21 [x0, x1] (st) h = mw d 140 Q 22 [x0, x1] (.int 1 :: st) h := (mw_at mj_140_21).trans (z_iconst (by decide))
theorem mj_140_22 : mc_P 140 22 = some (.ixor, 1, 0, 0, 0) := by decide +kernel
theorem s_140_22 {x0 x1 : Option Value} {x w : Int32} : mw d 140 Q 22 [x0, x1] (.int w :: .int x :: st) h = mw d 140 Q 23 [x0, x1] (.int (x ^^^ w) :: st) h := (mw_at mj_140_22).trans (z_ixor)
theorem mj_140_23 : mc_P 140 23 = some (.iaload, 1, 0, 0, 0) := by decide +kernel
theorem s_140_23 {x0 x1 : Option Value} {o : Nat} {i : Int32} : mw d 140 Q 23 [x0, x1] (.int i :: .ref o :: st) h = (mg h o 100 ∧ mx i (mh_l h o) ∧ mw d 140 Q 24 [x0, x1] (.int (mh_i h o i.toNatClampNeg) :: st) h) := (mw_at mj_140_23).trans (z_iald)
theorem s_140_23x {x0 x1 : Option Value} {i : Int32} : mw d 140 Q 23 [x0, x1] (.int i :: .retAddr 2 :: st) h = (mx i 24 ∧ mw d 140 Q 24 [x0, x1] (.int (mx_row.getD i.toNatClampNeg 0) :: st) h) := (mw_at mj_140_23).trans (z_iaX)
theorem mj_140_24 : mc_P 140 24 = some (.iload_n 0, 1, 0, 0, 0) := by decide +kernel
theorem s_140_24 {x1 : Option Value} {w : Value} : mw d 140 Q 24 [some w, x1] (st) h = mv_i w (mw d 140 Q 25 [some w, x1] (w :: st) h) := (mw_at mj_140_24).trans (z_iload_n rfl)
theorem mj_140_25 : mc_P 140 25 = some (.iconst 1, 1, 0, 0, 0) := by decide +kernel
theorem s_140_25 {x0 x1 : Option Value} : mw d 140 Q 25 [x0, x1] (st) h = mw d 140 Q 26 [x0, x1] (.int 1 :: st) h := (mw_at mj_140_25).trans (z_iconst (by decide))
theorem mj_140_26 : mc_P 140 26 = some (.ixor, 1, 0, 0, 0) := by decide +kernel
theorem s_140_26 {x0 x1 : Option Value} {x w : Int32} : mw d 140 Q 26 [x0, x1] (.int w :: .int x :: st) h = mw d 140 Q 27 [x0, x1] (.int (x ^^^ w) :: st) h := (mw_at mj_140_26).trans (z_ixor)
theorem mj_140_27 : mc_P 140 27 = some (.iadd, 1, 0, 0, 0) := by decide +kernel
theorem s_140_27 {x0 x1 : Option Value} {x w : Int32} : mw d 140 Q 27 [x0, x1] (.int w :: .int x :: st) h = mw d 140 Q 28 [x0, x1] (.int (x + w) :: st) h := (mw_at mj_140_27).trans (z_iadd)
theorem mj_140_28 : mc_P 140 28 = some (.ireturn, 1, 0, 0, 0) := by decide +kernel
theorem s_140_28 {x0 x1 : Option Value} {x : Int32} : mw d 140 Q 28 [x0, x1] ([.int x]) h = (Q (some (.int x)) h) := (mw_at mj_140_28).trans (z_iret)
theorem e_140 {a0 : Int32} {a1 : Int32} : mcall d 140 [.int a0, .int a1] h Q = mw d 140 Q 0 [some (.int a0), some (.int a1)] [] h := by
  show mw d 140 Q 0 (me_en (mc_nl 140) _) [] h = _
  rw [nl_140]; rfl

/-! InvariantDesk$State.greatestOf(I)J -/
theorem mj_141_0 : mc_P 141 0 = some (.iload_n 0, 1, 0, 0, 0) := by decide +kernel
theorem s_141_0 {w : Value} : mw d 141 Q 0 [some w] (st) h = mv_i w (mw d 141 Q 1 [some w] (w :: st) h) := (mw_at mj_141_0).trans (z_iload_n rfl)
theorem mj_141_1 : mc_P 141 1 = some (.iconst 2, 1, 0, 0, 0) := by decide +kernel
theorem s_141_1 {x0 : Option Value} : mw d 141 Q 1 [x0] (st) h = mw d 141 Q 2 [x0] (.int 2 :: st) h := (mw_at mj_141_1).trans (z_iconst (by decide))
theorem mj_141_2 : mc_P 141 2 = some (.irem, 1, 0, 0, 0) := by decide +kernel
theorem s_141_2 {x0 : Option Value} {x w : Int32} : mw d 141 Q 2 [x0] (.int w :: .int x :: st) h = (¬ w = 0 ∧ mw d 141 Q 3 [x0] (.int (x - x / w * w) :: st) h) := (mw_at mj_141_2).trans (z_irem)
theorem mj_141_3 : mc_P 141 3 = some (.ifCond .ne 9, 3, 0, 0, 0) := by decide +kernel
theorem s_141_3 {x0 : Option Value} {x : Int32} : mw d 141 Q 3 [x0] (.int x :: st) h = mB (¬ x = 0) (mw d 141 Q) 12 6 [x0] st h := (mw_at mj_141_3).trans (z_if_ne (by decide) rfl)
theorem mj_141_6 : mc_P 141 6 = some (.ldc2_w 22, 3, 0, 0, 2147483647) := by decide +kernel
theorem s_141_6 {x0 : Option Value} : mw d 141 Q 6 [x0] (st) h = mw d 141 Q 9 [x0] (.long 2147483647 :: st) h := (mw_at mj_141_6).trans (z_ldc2 (by decide))
theorem mj_141_9 : mc_P 141 9 = some (.goto 6, 3, 0, 0, 0) := by decide +kernel
theorem s_141_9 {x0 : Option Value} : mw d 141 Q 9 [x0] (st) h = mw d 141 Q 15 [x0] (st) h := (mw_at mj_141_9).trans (z_goto (by decide))
theorem mj_141_12 : mc_P 141 12 = some (.ldc2_w 24, 3, 0, 0, 2147483648) := by decide +kernel
theorem s_141_12 {x0 : Option Value} : mw d 141 Q 12 [x0] (st) h = mw d 141 Q 15 [x0] (.long 2147483648 :: st) h := (mw_at mj_141_12).trans (z_ldc2 (by decide))
theorem mj_141_15 : mc_P 141 15 = some (.lreturn, 1, 0, 0, 0) := by decide +kernel
theorem s_141_15 {x0 : Option Value} {x : Int64} : mw d 141 Q 15 [x0] ([.long x]) h = Q (some (.long x)) h := (mw_at mj_141_15).trans (z_lret)
theorem e_141 {a0 : Int32} : mcall d 141 [.int a0] h Q = mw d 141 Q 0 [some (.int a0)] [] h := by
  show mw d 141 Q 0 (me_en (mc_nl 141) _) [] h = _
  rw [nl_141]; rfl

/-! InvariantDesk$State.greatest(II)J -/
theorem mj_146_0 : mc_P 146 0 = some (.aload_n 0, 1, 0, 0, 0) := by decide +kernel
theorem s_146_0 {x1 x2 x3 x4 : Option Value} {w : Value} : mw d 146 Q 0 [some w, x1, x2, x3, x4] (st) h = mv_a w (mw d 146 Q 1 [some w, x1, x2, x3, x4] (w :: st) h) := (mw_at mj_146_0).trans (z_aload_n rfl)
theorem mj_146_1 : mc_P 146 1 = some (.getfield 11, 3, 8, 3, 0) := by decide +kernel
theorem s_146_1 {x0 x1 x2 x3 x4 : Option Value} {o : Nat} : mw d 146 Q 1 [x0, x1, x2, x3, x4] (.ref o :: st) h = (mg h o 8 ∧ mw d 146 Q 4 [x0, x1, x2, x3, x4] (va_rf (mh_r h o 3) :: st) h) := (mw_at mj_146_1).trans (z_getr (by decide) (by decide) rfl)
theorem mj_146_4 : mc_P 146 4 = some (.iload_n 1, 1, 0, 0, 0) := by decide +kernel
theorem s_146_4 {x0 x2 x3 x4 : Option Value} {w : Value} : mw d 146 Q 4 [x0, some w, x2, x3, x4] (st) h = mv_i w (mw d 146 Q 5 [x0, some w, x2, x3, x4] (w :: st) h) := (mw_at mj_146_4).trans (z_iload_n rfl)
theorem mj_146_5 : mc_P 146 5 = some (.iload_n 2, 1, 0, 0, 0) := by decide +kernel
theorem s_146_5 {x0 x1 x3 x4 : Option Value} {w : Value} : mw d 146 Q 5 [x0, x1, some w, x3, x4] (st) h = mv_i w (mw d 146 Q 6 [x0, x1, some w, x3, x4] (w :: st) h) := (mw_at mj_146_5).trans (z_iload_n rfl)
theorem mj_146_6 : mc_P 146 6 = some (.iconst 1, 1, 0, 0, 0) := by decide +kernel
theorem s_146_6 {x0 x1 x2 x3 x4 : Option Value} : mw d 146 Q 6 [x0, x1, x2, x3, x4] (st) h = mw d 146 Q 7 [x0, x1, x2, x3, x4] (.int 1 :: st) h := (mw_at mj_146_6).trans (z_iconst (by decide))
theorem mj_146_7 : mc_P 146 7 = some (.ior, 1, 0, 0, 0) := by decide +kernel
theorem s_146_7 {x0 x1 x2 x3 x4 : Option Value} {x w : Int32} : mw d 146 Q 7 [x0, x1, x2, x3, x4] (.int w :: .int x :: st) h = mw d 146 Q 8 [x0, x1, x2, x3, x4] (.int (x ||| w) :: st) h := (mw_at mj_146_7).trans (z_ior)
theorem mj_146_8 : mc_P 146 8 = some (.if_icmp .gt 15, 3, 0, 0, 0) := by decide +kernel
theorem s_146_8 {x0 x1 x2 x3 x4 : Option Value} {x w : Int32} : mw d 146 Q 8 [x0, x1, x2, x3, x4] (.int w :: .int x :: st) h = mB (w < x) (mw d 146 Q) 23 11 [x0, x1, x2, x3, x4] st h := (mw_at mj_146_8).trans (z_icmp_gt (by decide) rfl)
theorem mj_146_11 : mc_P 146 11 = some (.getstatic 18, 3, 2, 0, 0) := by decide +kernel
theorem s_146_11 {x0 x1 x2 x3 x4 : Option Value} : mw d 146 Q 11 [x0, x1, x2, x3, x4] (st) h = mw d 146 Q 14 [x0, x1, x2, x3, x4] (.retAddr 2 :: st) h := (mw_at mj_146_11).trans (z_gets0)
theorem mj_146_14 : mc_P 146 14 = some (.iload_n 2, 1, 0, 0, 0) := by decide +kernel
theorem s_146_14 {x0 x1 x3 x4 : Option Value} {w : Value} : mw d 146 Q 14 [x0, x1, some w, x3, x4] (st) h = mv_i w (mw d 146 Q 15 [x0, x1, some w, x3, x4] (w :: st) h) := (mw_at mj_146_14).trans (z_iload_n rfl)
theorem mj_146_15 : mc_P 146 15 = some (.iconst 1, 1, 0, 0, 0) := by decide +kernel
theorem s_146_15 {x0 x1 x2 x3 x4 : Option Value} : mw d 146 Q 15 [x0, x1, x2, x3, x4] (st) h = mw d 146 Q 16 [x0, x1, x2, x3, x4] (.int 1 :: st) h := (mw_at mj_146_15).trans (z_iconst (by decide))
theorem mj_146_16 : mc_P 146 16 = some (.ixor, 1, 0, 0, 0) := by decide +kernel
theorem s_146_16 {x0 x1 x2 x3 x4 : Option Value} {x w : Int32} : mw d 146 Q 16 [x0, x1, x2, x3, x4] (.int w :: .int x :: st) h = mw d 146 Q 17 [x0, x1, x2, x3, x4] (.int (x ^^^ w) :: st) h := (mw_at mj_146_16).trans (z_ixor)
theorem mj_146_17 : mc_P 146 17 = some (.iaload, 1, 0, 0, 0) := by decide +kernel
theorem s_146_17 {x0 x1 x2 x3 x4 : Option Value} {o : Nat} {i : Int32} : mw d 146 Q 17 [x0, x1, x2, x3, x4] (.int i :: .ref o :: st) h = (mg h o 100 ∧ mx i (mh_l h o) ∧ mw d 146 Q 18 [x0, x1, x2, x3, x4] (.int (mh_i h o i.toNatClampNeg) :: st) h) := (mw_at mj_146_17).trans (z_iald)
theorem s_146_17x {x0 x1 x2 x3 x4 : Option Value} {i : Int32} : mw d 146 Q 17 [x0, x1, x2, x3, x4] (.int i :: .retAddr 2 :: st) h = (mx i 24 ∧ mw d 146 Q 18 [x0, x1, x2, x3, x4] (.int (mx_row.getD i.toNatClampNeg 0) :: st) h) := (mw_at mj_146_17).trans (z_iaX)
theorem mj_146_18 : mc_P 146 18 = some (.iload_n 1, 1, 0, 0, 0) := by decide +kernel
theorem s_146_18 {x0 x2 x3 x4 : Option Value} {w : Value} : mw d 146 Q 18 [x0, some w, x2, x3, x4] (st) h = mv_i w (mw d 146 Q 19 [x0, some w, x2, x3, x4] (w :: st) h) := (mw_at mj_146_18).trans (z_iload_n rfl)
theorem mj_146_19 : mc_P 146 19 = some (.iadd, 1, 0, 0, 0) := by decide +kernel
theorem s_146_19 {x0 x1 x2 x3 x4 : Option Value} {x w : Int32} : mw d 146 Q 19 [x0, x1, x2, x3, x4] (.int w :: .int x :: st) h = mw d 146 Q 20 [x0, x1, x2, x3, x4] (.int (x + w) :: st) h := (mw_at mj_146_19).trans (z_iadd)
theorem mj_146_20 : mc_P 146 20 = some (.goto 12, 3, 0, 0, 0) := by decide +kernel
theorem s_146_20 {x0 x1 x2 x3 x4 : Option Value} : mw d 146 Q 20 [x0, x1, x2, x3, x4] (st) h = mw d 146 Q 32 [x0, x1, x2, x3, x4] (st) h := (mw_at mj_146_20).trans (z_goto (by decide))
theorem mj_146_23 : mc_P 146 23 = some (.getstatic 18, 3, 2, 0, 0) := by decide +kernel
theorem s_146_23 {x0 x1 x2 x3 x4 : Option Value} : mw d 146 Q 23 [x0, x1, x2, x3, x4] (st) h = mw d 146 Q 26 [x0, x1, x2, x3, x4] (.retAddr 2 :: st) h := (mw_at mj_146_23).trans (z_gets0)
theorem mj_146_26 : mc_P 146 26 = some (.iload_n 1, 1, 0, 0, 0) := by decide +kernel
theorem s_146_26 {x0 x2 x3 x4 : Option Value} {w : Value} : mw d 146 Q 26 [x0, some w, x2, x3, x4] (st) h = mv_i w (mw d 146 Q 27 [x0, some w, x2, x3, x4] (w :: st) h) := (mw_at mj_146_26).trans (z_iload_n rfl)
theorem mj_146_27 : mc_P 146 27 = some (.iconst 1, 1, 0, 0, 0) := by decide +kernel
theorem s_146_27 {x0 x1 x2 x3 x4 : Option Value} : mw d 146 Q 27 [x0, x1, x2, x3, x4] (st) h = mw d 146 Q 28 [x0, x1, x2, x3, x4] (.int 1 :: st) h := (mw_at mj_146_27).trans (z_iconst (by decide))
theorem mj_146_28 : mc_P 146 28 = some (.ixor, 1, 0, 0, 0) := by decide +kernel
theorem s_146_28 {x0 x1 x2 x3 x4 : Option Value} {x w : Int32} : mw d 146 Q 28 [x0, x1, x2, x3, x4] (.int w :: .int x :: st) h = mw d 146 Q 29 [x0, x1, x2, x3, x4] (.int (x ^^^ w) :: st) h := (mw_at mj_146_28).trans (z_ixor)
theorem mj_146_29 : mc_P 146 29 = some (.iaload, 1, 0, 0, 0) := by decide +kernel
theorem s_146_29 {x0 x1 x2 x3 x4 : Option Value} {o : Nat} {i : Int32} : mw d 146 Q 29 [x0, x1, x2, x3, x4] (.int i :: .ref o :: st) h = (mg h o 100 ∧ mx i (mh_l h o) ∧ mw d 146 Q 30 [x0, x1, x2, x3, x4] (.int (mh_i h o i.toNatClampNeg) :: st) h) := (mw_at mj_146_29).trans (z_iald)
theorem s_146_29x {x0 x1 x2 x3 x4 : Option Value} {i : Int32} : mw d 146 Q 29 [x0, x1, x2, x3, x4] (.int i :: .retAddr 2 :: st) h = (mx i 24 ∧ mw d 146 Q 30 [x0, x1, x2, x3, x4] (.int (mx_row.getD i.toNatClampNeg 0) :: st) h) := (mw_at mj_146_29).trans (z_iaX)
theorem mj_146_30 : mc_P 146 30 = some (.iload_n 2, 1, 0, 0, 0) := by decide +kernel
theorem s_146_30 {x0 x1 x3 x4 : Option Value} {w : Value} : mw d 146 Q 30 [x0, x1, some w, x3, x4] (st) h = mv_i w (mw d 146 Q 31 [x0, x1, some w, x3, x4] (w :: st) h) := (mw_at mj_146_30).trans (z_iload_n rfl)
theorem mj_146_31 : mc_P 146 31 = some (.iadd, 1, 0, 0, 0) := by decide +kernel
theorem s_146_31 {x0 x1 x2 x3 x4 : Option Value} {x w : Int32} : mw d 146 Q 31 [x0, x1, x2, x3, x4] (.int w :: .int x :: st) h = mw d 146 Q 32 [x0, x1, x2, x3, x4] (.int (x + w) :: st) h := (mw_at mj_146_31).trans (z_iadd)
theorem mj_146_32 : mc_P 146 32 = some (.laload, 1, 0, 0, 0) := by decide +kernel
theorem s_146_32 {x0 x1 x2 x3 x4 : Option Value} {o : Nat} {i : Int32} : mw d 146 Q 32 [x0, x1, x2, x3, x4] (.int i :: .ref o :: st) h = (mg h o 101 ∧ mx i (mh_l h o) ∧ mw d 146 Q 33 [x0, x1, x2, x3, x4] (.long (mh_j h o i.toNatClampNeg) :: st) h) := (mw_at mj_146_32).trans (z_lald)
theorem mj_146_33 : mc_P 146 33 = some (.lstore_n 3, 1, 0, 0, 0) := by decide +kernel
theorem s_146_33 {x0 x1 x2 x3 x4 : Option Value} {w : Int64} : mw d 146 Q 33 [x0, x1, x2, x3, x4] (.long w :: st) h = mw d 146 Q 34 [x0, x1, mk2 x2, some (.long w), none] (st) h := (mw_at mj_146_33).trans (z_lstore_n (Nat.le_of_ble_eq_true rfl) (me_s2_mk (j := 2) (w := x2) rfl))
theorem mj_146_34 : mc_P 146 34 = some (.iload_n 1, 1, 0, 0, 0) := by decide +kernel
theorem s_146_34 {x0 x2 x3 x4 : Option Value} {w : Value} : mw d 146 Q 34 [x0, some w, x2, x3, x4] (st) h = mv_i w (mw d 146 Q 35 [x0, some w, x2, x3, x4] (w :: st) h) := (mw_at mj_146_34).trans (z_iload_n rfl)
theorem mj_146_35 : mc_P 146 35 = some (.iload_n 2, 1, 0, 0, 0) := by decide +kernel
theorem s_146_35 {x0 x1 x3 x4 : Option Value} {w : Value} : mw d 146 Q 35 [x0, x1, some w, x3, x4] (st) h = mv_i w (mw d 146 Q 36 [x0, x1, some w, x3, x4] (w :: st) h) := (mw_at mj_146_35).trans (z_iload_n rfl)
theorem mj_146_36 : mc_P 146 36 = some (.if_icmp .ne 11, 3, 0, 0, 0) := by decide +kernel
theorem s_146_36 {x0 x1 x2 x3 x4 : Option Value} {x w : Int32} : mw d 146 Q 36 [x0, x1, x2, x3, x4] (.int w :: .int x :: st) h = mB (¬ x = w) (mw d 146 Q) 47 39 [x0, x1, x2, x3, x4] st h := (mw_at mj_146_36).trans (z_icmp_ne (by decide) rfl)
theorem mj_146_39 : mc_P 146 39 = some (.lload_n 3, 1, 0, 0, 0) := by decide +kernel
theorem s_146_39 {x0 x1 x2 x4 : Option Value} {w : Value} : mw d 146 Q 39 [x0, x1, x2, some w, x4] (st) h = mv_l w (mw d 146 Q 40 [x0, x1, x2, some w, x4] (w :: st) h) := (mw_at mj_146_39).trans (z_lload_n rfl)
theorem mj_146_40 : mc_P 146 40 = some (.ldc2_w 50, 3, 0, 0, 2) := by decide +kernel
theorem s_146_40 {x0 x1 x2 x3 x4 : Option Value} : mw d 146 Q 40 [x0, x1, x2, x3, x4] (st) h = mw d 146 Q 43 [x0, x1, x2, x3, x4] (.long 2 :: st) h := (mw_at mj_146_40).trans (z_ldc2 (by decide))
theorem mj_146_43 : mc_P 146 43 = some (.ldiv, 1, 0, 0, 0) := by decide +kernel
theorem s_146_43 {x0 x1 x2 x3 x4 : Option Value} {x w : Int64} : mw d 146 Q 43 [x0, x1, x2, x3, x4] (.long w :: .long x :: st) h = (¬ w = 0 ∧ mw d 146 Q 44 [x0, x1, x2, x3, x4] (.long (x / w) :: st) h) := (mw_at mj_146_43).trans (z_ldiv)
theorem mj_146_44 : mc_P 146 44 = some (.goto 4, 3, 0, 0, 0) := by decide +kernel
theorem s_146_44 {x0 x1 x2 x3 x4 : Option Value} : mw d 146 Q 44 [x0, x1, x2, x3, x4] (st) h = mw d 146 Q 48 [x0, x1, x2, x3, x4] (st) h := (mw_at mj_146_44).trans (z_goto (by decide))
theorem mj_146_47 : mc_P 146 47 = some (.lload_n 3, 1, 0, 0, 0) := by decide +kernel
theorem s_146_47 {x0 x1 x2 x4 : Option Value} {w : Value} : mw d 146 Q 47 [x0, x1, x2, some w, x4] (st) h = mv_l w (mw d 146 Q 48 [x0, x1, x2, some w, x4] (w :: st) h) := (mw_at mj_146_47).trans (z_lload_n rfl)
theorem mj_146_48 : mc_P 146 48 = some (.lreturn, 1, 0, 0, 0) := by decide +kernel
theorem s_146_48 {x0 x1 x2 x3 x4 : Option Value} {x : Int64} : mw d 146 Q 48 [x0, x1, x2, x3, x4] ([.long x]) h = Q (some (.long x)) h := (mw_at mj_146_48).trans (z_lret)
theorem e_146 {a0 : Nat} {a1 : Int32} {a2 : Int32} : mcall d 146 [.ref a0, .int a1, .int a2] h Q = mw d 146 Q 0 [some (.ref a0), some (.int a1), some (.int a2), none, none] [] h := by
  show mw d 146 Q 0 (me_en (mc_nl 146) _) [] h = _
  rw [nl_146]; rfl

/-! InvariantDesk$State.limit(IIJ)V -/
theorem mj_147_0 : mc_P 147 0 = some (.iload_n 2, 1, 0, 0, 0) := by decide +kernel
theorem s_147_0 {x0 x1 x3 x4 x5 x6 x7 : Option Value} {w : Value} : mw d 147 Q 0 [x0, x1, some w, x3, x4, x5, x6, x7] (st) h = mv_i w (mw d 147 Q 1 [x0, x1, some w, x3, x4, x5, x6, x7] (w :: st) h) := (mw_at mj_147_0).trans (z_iload_n rfl)
theorem mj_147_1 : mc_P 147 1 = some (.iconst 1, 1, 0, 0, 0) := by decide +kernel
theorem s_147_1 {x0 x1 x2 x3 x4 x5 x6 x7 : Option Value} : mw d 147 Q 1 [x0, x1, x2, x3, x4, x5, x6, x7] (st) h = mw d 147 Q 2 [x0, x1, x2, x3, x4, x5, x6, x7] (.int 1 :: st) h := (mw_at mj_147_1).trans (z_iconst (by decide))
theorem mj_147_2 : mc_P 147 2 = some (.ixor, 1, 0, 0, 0) := by decide +kernel
theorem s_147_2 {x0 x1 x2 x3 x4 x5 x6 x7 : Option Value} {x w : Int32} : mw d 147 Q 2 [x0, x1, x2, x3, x4, x5, x6, x7] (.int w :: .int x :: st) h = mw d 147 Q 3 [x0, x1, x2, x3, x4, x5, x6, x7] (.int (x ^^^ w) :: st) h := (mw_at mj_147_2).trans (z_ixor)
theorem mj_147_3 : mc_P 147 3 = some (.iload_n 1, 1, 0, 0, 0) := by decide +kernel
theorem s_147_3 {x0 x2 x3 x4 x5 x6 x7 : Option Value} {w : Value} : mw d 147 Q 3 [x0, some w, x2, x3, x4, x5, x6, x7] (st) h = mv_i w (mw d 147 Q 4 [x0, some w, x2, x3, x4, x5, x6, x7] (w :: st) h) := (mw_at mj_147_3).trans (z_iload_n rfl)
theorem mj_147_4 : mc_P 147 4 = some (.invokestatic 52, 3, 140, 0, 2) := by decide +kernel
theorem s_147_4 {x0 x1 x2 x3 x4 x5 x6 x7 : Option Value} {a0 a1 : Value} : mw (d + 1) 147 Q 4 [x0, x1, x2, x3, x4, x5, x6, x7] (a1 :: a0 :: st) h = (mca st 8 ∧ mca [a0, a1] 2 ∧ mcall d 140 [a0, a1] h (mK (d + 1) 147 Q 7 [x0, x1, x2, x3, x4, x5, x6, x7] st)) := (mw_at mj_147_4).trans ((z_invs (As := [a0, a1]) rfl rfl).trans (congrArg (And _) (mC_nl nl_140)))
theorem mj_147_7 : mc_P 147 7 = some (.istore 5, 2, 0, 0, 0) := by decide +kernel
theorem s_147_7 {x0 x1 x2 x3 x4 x5 x6 x7 : Option Value} {w : Int32} : mw d 147 Q 7 [x0, x1, x2, x3, x4, x5, x6, x7] (.int w :: st) h = mw d 147 Q 9 [x0, x1, x2, x3, mk2 x4, some (.int w), x6, x7] (st) h := (mw_at mj_147_7).trans (z_istore (Nat.le_of_ble_eq_true rfl) (me_s1_mk (j := 4) (w := x4) rfl))
theorem mj_147_9 : mc_P 147 9 = some (.iload_n 1, 1, 0, 0, 0) := by decide +kernel
theorem s_147_9 {x0 x2 x3 x4 x5 x6 x7 : Option Value} {w : Value} : mw d 147 Q 9 [x0, some w, x2, x3, x4, x5, x6, x7] (st) h = mv_i w (mw d 147 Q 10 [x0, some w, x2, x3, x4, x5, x6, x7] (w :: st) h) := (mw_at mj_147_9).trans (z_iload_n rfl)
theorem mj_147_10 : mc_P 147 10 = some (.iload_n 2, 1, 0, 0, 0) := by decide +kernel
theorem s_147_10 {x0 x1 x3 x4 x5 x6 x7 : Option Value} {w : Value} : mw d 147 Q 10 [x0, x1, some w, x3, x4, x5, x6, x7] (st) h = mv_i w (mw d 147 Q 11 [x0, x1, some w, x3, x4, x5, x6, x7] (w :: st) h) := (mw_at mj_147_10).trans (z_iload_n rfl)
theorem mj_147_11 : mc_P 147 11 = some (.if_icmp .ne 11, 3, 0, 0, 0) := by decide +kernel
theorem s_147_11 {x0 x1 x2 x3 x4 x5 x6 x7 : Option Value} {x w : Int32} : mw d 147 Q 11 [x0, x1, x2, x3, x4, x5, x6, x7] (.int w :: .int x :: st) h = mB (¬ x = w) (mw d 147 Q) 22 14 [x0, x1, x2, x3, x4, x5, x6, x7] st h := (mw_at mj_147_11).trans (z_icmp_ne (by decide) rfl)
theorem mj_147_14 : mc_P 147 14 = some (.ldc2_w 50, 3, 0, 0, 2) := by decide +kernel
theorem s_147_14 {x0 x1 x2 x3 x4 x5 x6 x7 : Option Value} : mw d 147 Q 14 [x0, x1, x2, x3, x4, x5, x6, x7] (st) h = mw d 147 Q 17 [x0, x1, x2, x3, x4, x5, x6, x7] (.long 2 :: st) h := (mw_at mj_147_14).trans (z_ldc2 (by decide))
theorem mj_147_17 : mc_P 147 17 = some (.lload_n 3, 1, 0, 0, 0) := by decide +kernel
theorem s_147_17 {x0 x1 x2 x4 x5 x6 x7 : Option Value} {w : Value} : mw d 147 Q 17 [x0, x1, x2, some w, x4, x5, x6, x7] (st) h = mv_l w (mw d 147 Q 18 [x0, x1, x2, some w, x4, x5, x6, x7] (w :: st) h) := (mw_at mj_147_17).trans (z_lload_n rfl)
theorem mj_147_18 : mc_P 147 18 = some (.lmul, 1, 0, 0, 0) := by decide +kernel
theorem s_147_18 {x0 x1 x2 x3 x4 x5 x6 x7 : Option Value} {x w : Int64} : mw d 147 Q 18 [x0, x1, x2, x3, x4, x5, x6, x7] (.long w :: .long x :: st) h = mw d 147 Q 19 [x0, x1, x2, x3, x4, x5, x6, x7] (.long (x * w) :: st) h := (mw_at mj_147_18).trans (z_lmul)
theorem mj_147_19 : mc_P 147 19 = some (.goto 4, 3, 0, 0, 0) := by decide +kernel
theorem s_147_19 {x0 x1 x2 x3 x4 x5 x6 x7 : Option Value} : mw d 147 Q 19 [x0, x1, x2, x3, x4, x5, x6, x7] (st) h = mw d 147 Q 23 [x0, x1, x2, x3, x4, x5, x6, x7] (st) h := (mw_at mj_147_19).trans (z_goto (by decide))
theorem mj_147_22 : mc_P 147 22 = some (.lload_n 3, 1, 0, 0, 0) := by decide +kernel
theorem s_147_22 {x0 x1 x2 x4 x5 x6 x7 : Option Value} {w : Value} : mw d 147 Q 22 [x0, x1, x2, some w, x4, x5, x6, x7] (st) h = mv_l w (mw d 147 Q 23 [x0, x1, x2, some w, x4, x5, x6, x7] (w :: st) h) := (mw_at mj_147_22).trans (z_lload_n rfl)
theorem mj_147_23 : mc_P 147 23 = some (.lstore 6, 2, 0, 0, 0) := by decide +kernel
theorem s_147_23 {x0 x1 x2 x3 x4 x5 x6 x7 : Option Value} {w : Int64} : mw d 147 Q 23 [x0, x1, x2, x3, x4, x5, x6, x7] (.long w :: st) h = mw d 147 Q 25 [x0, x1, x2, x3, x4, mk2 x5, some (.long w), none] (st) h := (mw_at mj_147_23).trans (z_lstore (Nat.le_of_ble_eq_true rfl) (me_s2_mk (j := 5) (w := x5) rfl))
theorem mj_147_25 : mc_P 147 25 = some (.lload 6, 2, 0, 0, 0) := by decide +kernel
theorem s_147_25 {x0 x1 x2 x3 x4 x5 x7 : Option Value} {w : Value} : mw d 147 Q 25 [x0, x1, x2, x3, x4, x5, some w, x7] (st) h = mv_l w (mw d 147 Q 27 [x0, x1, x2, x3, x4, x5, some w, x7] (w :: st) h) := (mw_at mj_147_25).trans (z_lload rfl)
theorem mj_147_27 : mc_P 147 27 = some (.aload_n 0, 1, 0, 0, 0) := by decide +kernel
theorem s_147_27 {x1 x2 x3 x4 x5 x6 x7 : Option Value} {w : Value} : mw d 147 Q 27 [some w, x1, x2, x3, x4, x5, x6, x7] (st) h = mv_a w (mw d 147 Q 28 [some w, x1, x2, x3, x4, x5, x6, x7] (w :: st) h) := (mw_at mj_147_27).trans (z_aload_n rfl)
theorem mj_147_28 : mc_P 147 28 = some (.getfield 11, 3, 8, 3, 0) := by decide +kernel
theorem s_147_28 {x0 x1 x2 x3 x4 x5 x6 x7 : Option Value} {o : Nat} : mw d 147 Q 28 [x0, x1, x2, x3, x4, x5, x6, x7] (.ref o :: st) h = (mg h o 8 ∧ mw d 147 Q 31 [x0, x1, x2, x3, x4, x5, x6, x7] (va_rf (mh_r h o 3) :: st) h) := (mw_at mj_147_28).trans (z_getr (by decide) (by decide) rfl)
theorem mj_147_31 : mc_P 147 31 = some (.iload 5, 2, 0, 0, 0) := by decide +kernel
theorem s_147_31 {x0 x1 x2 x3 x4 x6 x7 : Option Value} {w : Value} : mw d 147 Q 31 [x0, x1, x2, x3, x4, some w, x6, x7] (st) h = mv_i w (mw d 147 Q 33 [x0, x1, x2, x3, x4, some w, x6, x7] (w :: st) h) := (mw_at mj_147_31).trans (z_iload rfl)
theorem mj_147_33 : mc_P 147 33 = some (.laload, 1, 0, 0, 0) := by decide +kernel
theorem s_147_33 {x0 x1 x2 x3 x4 x5 x6 x7 : Option Value} {o : Nat} {i : Int32} : mw d 147 Q 33 [x0, x1, x2, x3, x4, x5, x6, x7] (.int i :: .ref o :: st) h = (mg h o 101 ∧ mx i (mh_l h o) ∧ mw d 147 Q 34 [x0, x1, x2, x3, x4, x5, x6, x7] (.long (mh_j h o i.toNatClampNeg) :: st) h) := (mw_at mj_147_33).trans (z_lald)
theorem mj_147_34 : mc_P 147 34 = some (.lcmp, 1, 0, 0, 0) := by decide +kernel
theorem s_147_34 {x0 x1 x2 x3 x4 x5 x6 x7 : Option Value} {x w : Int64} : mw d 147 Q 34 [x0, x1, x2, x3, x4, x5, x6, x7] (.long w :: .long x :: st) h = mw d 147 Q 35 [x0, x1, x2, x3, x4, x5, x6, x7] (.int (lg_cmp x w) :: st) h := (mw_at mj_147_34).trans (z_lcmp)
theorem mj_147_35 : mc_P 147 35 = some (.ifCond .ge 32, 3, 0, 0, 0) := by decide +kernel
theorem s_147_35 {x0 x1 x2 x3 x4 x5 x6 x7 : Option Value} {x : Int32} : mw d 147 Q 35 [x0, x1, x2, x3, x4, x5, x6, x7] (.int x :: st) h = mB (0 ≤ x) (mw d 147 Q) 67 38 [x0, x1, x2, x3, x4, x5, x6, x7] st h := (mw_at mj_147_35).trans (z_if_ge (by decide) rfl)
theorem mj_147_38 : mc_P 147 38 = some (.aload_n 0, 1, 0, 0, 0) := by decide +kernel
theorem s_147_38 {x1 x2 x3 x4 x5 x6 x7 : Option Value} {w : Value} : mw d 147 Q 38 [some w, x1, x2, x3, x4, x5, x6, x7] (st) h = mv_a w (mw d 147 Q 39 [some w, x1, x2, x3, x4, x5, x6, x7] (w :: st) h) := (mw_at mj_147_38).trans (z_aload_n rfl)
theorem mj_147_39 : mc_P 147 39 = some (.getfield 11, 3, 8, 3, 0) := by decide +kernel
theorem s_147_39 {x0 x1 x2 x3 x4 x5 x6 x7 : Option Value} {o : Nat} : mw d 147 Q 39 [x0, x1, x2, x3, x4, x5, x6, x7] (.ref o :: st) h = (mg h o 8 ∧ mw d 147 Q 42 [x0, x1, x2, x3, x4, x5, x6, x7] (va_rf (mh_r h o 3) :: st) h) := (mw_at mj_147_39).trans (z_getr (by decide) (by decide) rfl)
theorem mj_147_42 : mc_P 147 42 = some (.iload 5, 2, 0, 0, 0) := by decide +kernel
theorem s_147_42 {x0 x1 x2 x3 x4 x6 x7 : Option Value} {w : Value} : mw d 147 Q 42 [x0, x1, x2, x3, x4, some w, x6, x7] (st) h = mv_i w (mw d 147 Q 44 [x0, x1, x2, x3, x4, some w, x6, x7] (w :: st) h) := (mw_at mj_147_42).trans (z_iload rfl)
theorem mj_147_44 : mc_P 147 44 = some (.lload 6, 2, 0, 0, 0) := by decide +kernel
theorem s_147_44 {x0 x1 x2 x3 x4 x5 x7 : Option Value} {w : Value} : mw d 147 Q 44 [x0, x1, x2, x3, x4, x5, some w, x7] (st) h = mv_l w (mw d 147 Q 46 [x0, x1, x2, x3, x4, x5, some w, x7] (w :: st) h) := (mw_at mj_147_44).trans (z_lload rfl)
theorem mj_147_46 : mc_P 147 46 = some (.lastore, 1, 0, 0, 0) := by decide +kernel
theorem s_147_46 {x0 x1 x2 x3 x4 x5 x6 x7 : Option Value} {o : Nat} {i : Int32} {w : Int64} : mw d 147 Q 46 [x0, x1, x2, x3, x4, x5, x6, x7] (.long w :: .int i :: .ref o :: st) h = (mg h o 101 ∧ mx i (mh_l h o) ∧ mw d 147 Q 47 [x0, x1, x2, x3, x4, x5, x6, x7] (st) (mh_sj h o i.toNatClampNeg w)) := (mw_at mj_147_46).trans (z_last)
theorem mj_147_47 : mc_P 147 47 = some (.aload_n 0, 1, 0, 0, 0) := by decide +kernel
theorem s_147_47 {x1 x2 x3 x4 x5 x6 x7 : Option Value} {w : Value} : mw d 147 Q 47 [some w, x1, x2, x3, x4, x5, x6, x7] (st) h = mv_a w (mw d 147 Q 48 [some w, x1, x2, x3, x4, x5, x6, x7] (w :: st) h) := (mw_at mj_147_47).trans (z_aload_n rfl)
theorem mj_147_48 : mc_P 147 48 = some (.dup, 1, 0, 0, 0) := by decide +kernel
theorem s_147_48 {x0 x1 x2 x3 x4 x5 x6 x7 : Option Value} {w : Value} : mw d 147 Q 48 [x0, x1, x2, x3, x4, x5, x6, x7] (w :: st) h = (w.category = 1 ∧ mw d 147 Q 49 [x0, x1, x2, x3, x4, x5, x6, x7] (w :: w :: st) h) := (mw_at mj_147_48).trans (z_dup)
theorem mj_147_49 : mc_P 147 49 = some (.getfield 37, 3, 8, 5, 0) := by decide +kernel
theorem s_147_49 {x0 x1 x2 x3 x4 x5 x6 x7 : Option Value} {o : Nat} : mw d 147 Q 49 [x0, x1, x2, x3, x4, x5, x6, x7] (.ref o :: st) h = (mg h o 8 ∧ mw d 147 Q 52 [x0, x1, x2, x3, x4, x5, x6, x7] (.int (mh_i h o 5) :: st) h) := (mw_at mj_147_49).trans (z_geti (by decide) (by decide) (Or.inl rfl))
theorem mj_147_52 : mc_P 147 52 = some (.iconst 1, 1, 0, 0, 0) := by decide +kernel
theorem s_147_52 {x0 x1 x2 x3 x4 x5 x6 x7 : Option Value} : mw d 147 Q 52 [x0, x1, x2, x3, x4, x5, x6, x7] (st) h = mw d 147 Q 53 [x0, x1, x2, x3, x4, x5, x6, x7] (.int 1 :: st) h := (mw_at mj_147_52).trans (z_iconst (by decide))
theorem mj_147_53 : mc_P 147 53 = some (.iload_n 1, 1, 0, 0, 0) := by decide +kernel
theorem s_147_53 {x0 x2 x3 x4 x5 x6 x7 : Option Value} {w : Value} : mw d 147 Q 53 [x0, some w, x2, x3, x4, x5, x6, x7] (st) h = mv_i w (mw d 147 Q 54 [x0, some w, x2, x3, x4, x5, x6, x7] (w :: st) h) := (mw_at mj_147_53).trans (z_iload_n rfl)
theorem mj_147_54 : mc_P 147 54 = some (.iconst 2, 1, 0, 0, 0) := by decide +kernel
theorem s_147_54 {x0 x1 x2 x3 x4 x5 x6 x7 : Option Value} : mw d 147 Q 54 [x0, x1, x2, x3, x4, x5, x6, x7] (st) h = mw d 147 Q 55 [x0, x1, x2, x3, x4, x5, x6, x7] (.int 2 :: st) h := (mw_at mj_147_54).trans (z_iconst (by decide))
theorem mj_147_55 : mc_P 147 55 = some (.idiv, 1, 0, 0, 0) := by decide +kernel
theorem s_147_55 {x0 x1 x2 x3 x4 x5 x6 x7 : Option Value} {x w : Int32} : mw d 147 Q 55 [x0, x1, x2, x3, x4, x5, x6, x7] (.int w :: .int x :: st) h = (¬ w = 0 ∧ mw d 147 Q 56 [x0, x1, x2, x3, x4, x5, x6, x7] (.int (x / w) :: st) h) := (mw_at mj_147_55).trans (z_idiv)
theorem mj_147_56 : mc_P 147 56 = some (.ishl, 1, 0, 0, 0) := by decide +kernel
theorem s_147_56 {x0 x1 x2 x3 x4 x5 x6 x7 : Option Value} {x w : Int32} : mw d 147 Q 56 [x0, x1, x2, x3, x4, x5, x6, x7] (.int w :: .int x :: st) h = mw d 147 Q 57 [x0, x1, x2, x3, x4, x5, x6, x7] (.int (x <<< (w &&& 31)) :: st) h := (mw_at mj_147_56).trans (z_ishl)
theorem mj_147_57 : mc_P 147 57 = some (.iconst 1, 1, 0, 0, 0) := by decide +kernel
theorem s_147_57 {x0 x1 x2 x3 x4 x5 x6 x7 : Option Value} : mw d 147 Q 57 [x0, x1, x2, x3, x4, x5, x6, x7] (st) h = mw d 147 Q 58 [x0, x1, x2, x3, x4, x5, x6, x7] (.int 1 :: st) h := (mw_at mj_147_57).trans (z_iconst (by decide))
theorem mj_147_58 : mc_P 147 58 = some (.iload_n 2, 1, 0, 0, 0) := by decide +kernel
theorem s_147_58 {x0 x1 x3 x4 x5 x6 x7 : Option Value} {w : Value} : mw d 147 Q 58 [x0, x1, some w, x3, x4, x5, x6, x7] (st) h = mv_i w (mw d 147 Q 59 [x0, x1, some w, x3, x4, x5, x6, x7] (w :: st) h) := (mw_at mj_147_58).trans (z_iload_n rfl)
theorem mj_147_59 : mc_P 147 59 = some (.iconst 2, 1, 0, 0, 0) := by decide +kernel
theorem s_147_59 {x0 x1 x2 x3 x4 x5 x6 x7 : Option Value} : mw d 147 Q 59 [x0, x1, x2, x3, x4, x5, x6, x7] (st) h = mw d 147 Q 60 [x0, x1, x2, x3, x4, x5, x6, x7] (.int 2 :: st) h := (mw_at mj_147_59).trans (z_iconst (by decide))
theorem mj_147_60 : mc_P 147 60 = some (.idiv, 1, 0, 0, 0) := by decide +kernel
theorem s_147_60 {x0 x1 x2 x3 x4 x5 x6 x7 : Option Value} {x w : Int32} : mw d 147 Q 60 [x0, x1, x2, x3, x4, x5, x6, x7] (.int w :: .int x :: st) h = (¬ w = 0 ∧ mw d 147 Q 61 [x0, x1, x2, x3, x4, x5, x6, x7] (.int (x / w) :: st) h) := (mw_at mj_147_60).trans (z_idiv)
theorem mj_147_61 : mc_P 147 61 = some (.ishl, 1, 0, 0, 0) := by decide +kernel
theorem s_147_61 {x0 x1 x2 x3 x4 x5 x6 x7 : Option Value} {x w : Int32} : mw d 147 Q 61 [x0, x1, x2, x3, x4, x5, x6, x7] (.int w :: .int x :: st) h = mw d 147 Q 62 [x0, x1, x2, x3, x4, x5, x6, x7] (.int (x <<< (w &&& 31)) :: st) h := (mw_at mj_147_61).trans (z_ishl)
theorem mj_147_62 : mc_P 147 62 = some (.ior, 1, 0, 0, 0) := by decide +kernel
theorem s_147_62 {x0 x1 x2 x3 x4 x5 x6 x7 : Option Value} {x w : Int32} : mw d 147 Q 62 [x0, x1, x2, x3, x4, x5, x6, x7] (.int w :: .int x :: st) h = mw d 147 Q 63 [x0, x1, x2, x3, x4, x5, x6, x7] (.int (x ||| w) :: st) h := (mw_at mj_147_62).trans (z_ior)
theorem mj_147_63 : mc_P 147 63 = some (.ior, 1, 0, 0, 0) := by decide +kernel
theorem s_147_63 {x0 x1 x2 x3 x4 x5 x6 x7 : Option Value} {x w : Int32} : mw d 147 Q 63 [x0, x1, x2, x3, x4, x5, x6, x7] (.int w :: .int x :: st) h = mw d 147 Q 64 [x0, x1, x2, x3, x4, x5, x6, x7] (.int (x ||| w) :: st) h := (mw_at mj_147_63).trans (z_ior)
theorem mj_147_64 : mc_P 147 64 = some (.putfield 37, 3, 8, 5, 0) := by decide +kernel
theorem s_147_64 {x0 x1 x2 x3 x4 x5 x6 x7 : Option Value} {o : Nat} {w : Int32} : mw d 147 Q 64 [x0, x1, x2, x3, x4, x5, x6, x7] (.int w :: .ref o :: st) h = (mg h o 8 ∧ mw d 147 Q 67 [x0, x1, x2, x3, x4, x5, x6, x7] (st) (mh_si h o 5 w)) := (mw_at mj_147_64).trans (z_puti (by decide) (by decide) rfl)
theorem mj_147_67 : mc_P 147 67 = some (.return_, 1, 0, 0, 0) := by decide +kernel
theorem s_147_67 {x0 x1 x2 x3 x4 x5 x6 x7 : Option Value} : mw d 147 Q 67 [x0, x1, x2, x3, x4, x5, x6, x7] ([]) h = Q none h := (mw_at mj_147_67).trans (z_vret)
theorem e_147 {a0 : Nat} {a1 : Int32} {a2 : Int32} {a3 : Int64} : mcall d 147 [.ref a0, .int a1, .int a2, .long a3] h Q = mw d 147 Q 0 [some (.ref a0), some (.int a1), some (.int a2), some (.long a3), none, none, none, none] [] h := by
  show mw d 147 Q 0 (me_en (mc_nl 147) _) [] h = _
  rw [nl_147]; rfl

/-! InvariantDesk$State.loosenAll()V -/
theorem mj_148_0 : mc_P 148 0 = some (.aload_n 0, 1, 0, 0, 0) := by decide +kernel
theorem s_148_0 {w : Value} : mw d 148 Q 0 [some w] (st) h = mv_a w (mw d 148 Q 1 [some w] (w :: st) h) := (mw_at mj_148_0).trans (z_aload_n rfl)
theorem mj_148_1 : mc_P 148 1 = some (.iconst 1, 1, 0, 0, 0) := by decide +kernel
theorem s_148_1 {x0 : Option Value} : mw d 148 Q 1 [x0] (st) h = mw d 148 Q 2 [x0] (.int 1 :: st) h := (mw_at mj_148_1).trans (z_iconst (by decide))
theorem mj_148_2 : mc_P 148 2 = some (.aload_n 0, 1, 0, 0, 0) := by decide +kernel
theorem s_148_2 {w : Value} : mw d 148 Q 2 [some w] (st) h = mv_a w (mw d 148 Q 3 [some w] (w :: st) h) := (mw_at mj_148_2).trans (z_aload_n rfl)
theorem mj_148_3 : mc_P 148 3 = some (.getfield 26, 3, 8, 1, 0) := by decide +kernel
theorem s_148_3 {x0 : Option Value} {o : Nat} : mw d 148 Q 3 [x0] (.ref o :: st) h = (mg h o 8 ∧ mw d 148 Q 6 [x0] (.int (mh_i h o 1) :: st) h) := (mw_at mj_148_3).trans (z_geti (by decide) (by decide) (Or.inl rfl))
theorem mj_148_6 : mc_P 148 6 = some (.ishl, 1, 0, 0, 0) := by decide +kernel
theorem s_148_6 {x0 : Option Value} {x w : Int32} : mw d 148 Q 6 [x0] (.int w :: .int x :: st) h = mw d 148 Q 7 [x0] (.int (x <<< (w &&& 31)) :: st) h := (mw_at mj_148_6).trans (z_ishl)
theorem mj_148_7 : mc_P 148 7 = some (.iconst 1, 1, 0, 0, 0) := by decide +kernel
theorem s_148_7 {x0 : Option Value} : mw d 148 Q 7 [x0] (st) h = mw d 148 Q 8 [x0] (.int 1 :: st) h := (mw_at mj_148_7).trans (z_iconst (by decide))
theorem mj_148_8 : mc_P 148 8 = some (.isub, 1, 0, 0, 0) := by decide +kernel
theorem s_148_8 {x0 : Option Value} {x w : Int32} : mw d 148 Q 8 [x0] (.int w :: .int x :: st) h = mw d 148 Q 9 [x0] (.int (x - w) :: st) h := (mw_at mj_148_8).trans (z_isub)
theorem mj_148_9 : mc_P 148 9 = some (.putfield 37, 3, 8, 5, 0) := by decide +kernel
theorem s_148_9 {x0 : Option Value} {o : Nat} {w : Int32} : mw d 148 Q 9 [x0] (.int w :: .ref o :: st) h = (mg h o 8 ∧ mw d 148 Q 12 [x0] (st) (mh_si h o 5 w)) := (mw_at mj_148_9).trans (z_puti (by decide) (by decide) rfl)
theorem mj_148_12 : mc_P 148 12 = some (.return_, 1, 0, 0, 0) := by decide +kernel
theorem s_148_12 {x0 : Option Value} : mw d 148 Q 12 [x0] ([]) h = Q none h := (mw_at mj_148_12).trans (z_vret)
theorem e_148 {a0 : Nat} : mcall d 148 [.ref a0] h Q = mw d 148 Q 0 [some (.ref a0)] [] h := by
  show mw d 148 Q 0 (me_en (mc_nl 148) _) [] h = _
  rw [nl_148]; rfl

/-! InvariantDesk$State.join(LInvariantDesk$State;)V -/
theorem mj_151_0 : mc_P 151 0 = some (.aload_n 1, 1, 0, 0, 0) := by decide +kernel
theorem s_151_0 {x0 x2 : Option Value} {w : Value} : mw d 151 Q 0 [x0, some w, x2] (st) h = mv_a w (mw d 151 Q 1 [x0, some w, x2] (w :: st) h) := (mw_at mj_151_0).trans (z_aload_n rfl)
theorem mj_151_1 : mc_P 151 1 = some (.getfield 30, 3, 8, 0, 0) := by decide +kernel
theorem s_151_1 {x0 x1 x2 : Option Value} {o : Nat} : mw d 151 Q 1 [x0, x1, x2] (.ref o :: st) h = (mg h o 8 ∧ mw d 151 Q 4 [x0, x1, x2] (.int (mh_i h o 0) :: st) h) := (mw_at mj_151_1).trans (z_geti (by decide) (by decide) (Or.inr rfl))
theorem mj_151_4 : mc_P 151 4 = some (.ifCond .eq 4, 3, 0, 0, 0) := by decide +kernel
theorem s_151_4 {x0 x1 x2 : Option Value} {x : Int32} : mw d 151 Q 4 [x0, x1, x2] (.int x :: st) h = mB (x = 0) (mw d 151 Q) 8 7 [x0, x1, x2] st h := (mw_at mj_151_4).trans (z_if_eq (by decide) rfl)
theorem mj_151_7 : mc_P 151 7 = some (.return_, 1, 0, 0, 0) := by decide +kernel
theorem s_151_7 {x0 x1 x2 : Option Value} : mw d 151 Q 7 [x0, x1, x2] ([]) h = Q none h := (mw_at mj_151_7).trans (z_vret)
theorem mj_151_8 : mc_P 151 8 = some (.aload_n 0, 1, 0, 0, 0) := by decide +kernel
theorem s_151_8 {x1 x2 : Option Value} {w : Value} : mw d 151 Q 8 [some w, x1, x2] (st) h = mv_a w (mw d 151 Q 9 [some w, x1, x2] (w :: st) h) := (mw_at mj_151_8).trans (z_aload_n rfl)
theorem mj_151_9 : mc_P 151 9 = some (.getfield 30, 3, 8, 0, 0) := by decide +kernel
theorem s_151_9 {x0 x1 x2 : Option Value} {o : Nat} : mw d 151 Q 9 [x0, x1, x2] (.ref o :: st) h = (mg h o 8 ∧ mw d 151 Q 12 [x0, x1, x2] (.int (mh_i h o 0) :: st) h) := (mw_at mj_151_9).trans (z_geti (by decide) (by decide) (Or.inr rfl))
theorem mj_151_12 : mc_P 151 12 = some (.ifCond .eq 9, 3, 0, 0, 0) := by decide +kernel
theorem s_151_12 {x0 x1 x2 : Option Value} {x : Int32} : mw d 151 Q 12 [x0, x1, x2] (.int x :: st) h = mB (x = 0) (mw d 151 Q) 21 15 [x0, x1, x2] st h := (mw_at mj_151_12).trans (z_if_eq (by decide) rfl)
theorem mj_151_15 : mc_P 151 15 = some (.aload_n 0, 1, 0, 0, 0) := by decide +kernel
theorem s_151_15 {x1 x2 : Option Value} {w : Value} : mw d 151 Q 15 [some w, x1, x2] (st) h = mv_a w (mw d 151 Q 16 [some w, x1, x2] (w :: st) h) := (mw_at mj_151_15).trans (z_aload_n rfl)
theorem mj_151_16 : mc_P 151 16 = some (.aload_n 1, 1, 0, 0, 0) := by decide +kernel
theorem s_151_16 {x0 x2 : Option Value} {w : Value} : mw d 151 Q 16 [x0, some w, x2] (st) h = mv_a w (mw d 151 Q 17 [x0, some w, x2] (w :: st) h) := (mw_at mj_151_16).trans (z_aload_n rfl)
theorem mj_151_17 : mc_P 151 17 = some (.invokevirtual 60, 3, 144, 8, 2) := by decide +kernel
theorem s_151_17 {x0 x1 x2 : Option Value} {o : Nat} {a1 : Value} : mw (d + 1) 151 Q 17 [x0, x1, x2] (a1 :: .ref o :: st) h = (mg h o 8 ∧ mca st 8 ∧ mca [.ref o, a1] 2 ∧ mcall d 144 [.ref o, a1] h (mK (d + 1) 151 Q 20 [x0, x1, x2] st)) := (mw_at mj_151_17).trans ((z_invv (As := [a1]) (by decide) rfl rfl).trans (congrArg (And _) (congrArg (And _) (mC_nl nl_144))))
theorem mj_151_20 : mc_P 151 20 = some (.return_, 1, 0, 0, 0) := by decide +kernel
theorem s_151_20 {x0 x1 x2 : Option Value} : mw d 151 Q 20 [x0, x1, x2] ([]) h = Q none h := (mw_at mj_151_20).trans (z_vret)
theorem mj_151_21 : mc_P 151 21 = some (.iconst 0, 1, 0, 0, 0) := by decide +kernel
theorem s_151_21 {x0 x1 x2 : Option Value} : mw d 151 Q 21 [x0, x1, x2] (st) h = mw d 151 Q 22 [x0, x1, x2] (.int 0 :: st) h := (mw_at mj_151_21).trans (z_iconst (by decide))
theorem mj_151_22 : mc_P 151 22 = some (.istore_n 2, 1, 0, 0, 0) := by decide +kernel
theorem s_151_22 {x0 x1 x2 : Option Value} {w : Int32} : mw d 151 Q 22 [x0, x1, x2] (.int w :: st) h = mw d 151 Q 23 [x0, mk2 x1, some (.int w)] (st) h := (mw_at mj_151_22).trans (z_istore_n (Nat.le_of_ble_eq_true rfl) (me_s1_mk (j := 1) (w := x1) rfl))
theorem mj_151_23 : mc_P 151 23 = some (.iload_n 2, 1, 0, 0, 0) := by decide +kernel
theorem s_151_23 {x0 x1 : Option Value} {w : Value} : mw d 151 Q 23 [x0, x1, some w] (st) h = mv_i w (mw d 151 Q 24 [x0, x1, some w] (w :: st) h) := (mw_at mj_151_23).trans (z_iload_n rfl)
theorem mj_151_24 : mc_P 151 24 = some (.aload_n 0, 1, 0, 0, 0) := by decide +kernel
theorem s_151_24 {x1 x2 : Option Value} {w : Value} : mw d 151 Q 24 [some w, x1, x2] (st) h = mv_a w (mw d 151 Q 25 [some w, x1, x2] (w :: st) h) := (mw_at mj_151_24).trans (z_aload_n rfl)
theorem mj_151_25 : mc_P 151 25 = some (.invokevirtual 40, 3, 142, 8, 1) := by decide +kernel
theorem s_151_25 {x0 x1 x2 : Option Value} {o : Nat} : mw (d + 1) 151 Q 25 [x0, x1, x2] (.ref o :: st) h = (mg h o 8 ∧ mca st 8 ∧ mca [.ref o] 1 ∧ mcall d 142 [.ref o] h (mK (d + 1) 151 Q 28 [x0, x1, x2] st)) := (mw_at mj_151_25).trans ((z_invv (As := []) (by decide) rfl rfl).trans (congrArg (And _) (congrArg (And _) (mC_nl nl_142))))
theorem mj_151_28 : mc_P 151 28 = some (.if_icmp .ge 30, 3, 0, 0, 0) := by decide +kernel
theorem s_151_28 {x0 x1 x2 : Option Value} {x w : Int32} : mw d 151 Q 28 [x0, x1, x2] (.int w :: .int x :: st) h = mB (w ≤ x) (mw d 151 Q) 58 31 [x0, x1, x2] st h := (mw_at mj_151_28).trans (z_icmp_ge (by decide) rfl)
theorem mj_151_31 : mc_P 151 31 = some (.aload_n 0, 1, 0, 0, 0) := by decide +kernel
theorem s_151_31 {x1 x2 : Option Value} {w : Value} : mw d 151 Q 31 [some w, x1, x2] (st) h = mv_a w (mw d 151 Q 32 [some w, x1, x2] (w :: st) h) := (mw_at mj_151_31).trans (z_aload_n rfl)
theorem mj_151_32 : mc_P 151 32 = some (.getfield 11, 3, 8, 3, 0) := by decide +kernel
theorem s_151_32 {x0 x1 x2 : Option Value} {o : Nat} : mw d 151 Q 32 [x0, x1, x2] (.ref o :: st) h = (mg h o 8 ∧ mw d 151 Q 35 [x0, x1, x2] (va_rf (mh_r h o 3) :: st) h) := (mw_at mj_151_32).trans (z_getr (by decide) (by decide) rfl)
theorem mj_151_35 : mc_P 151 35 = some (.iload_n 2, 1, 0, 0, 0) := by decide +kernel
theorem s_151_35 {x0 x1 : Option Value} {w : Value} : mw d 151 Q 35 [x0, x1, some w] (st) h = mv_i w (mw d 151 Q 36 [x0, x1, some w] (w :: st) h) := (mw_at mj_151_35).trans (z_iload_n rfl)
theorem mj_151_36 : mc_P 151 36 = some (.aload_n 0, 1, 0, 0, 0) := by decide +kernel
theorem s_151_36 {x1 x2 : Option Value} {w : Value} : mw d 151 Q 36 [some w, x1, x2] (st) h = mv_a w (mw d 151 Q 37 [some w, x1, x2] (w :: st) h) := (mw_at mj_151_36).trans (z_aload_n rfl)
theorem mj_151_37 : mc_P 151 37 = some (.getfield 11, 3, 8, 3, 0) := by decide +kernel
theorem s_151_37 {x0 x1 x2 : Option Value} {o : Nat} : mw d 151 Q 37 [x0, x1, x2] (.ref o :: st) h = (mg h o 8 ∧ mw d 151 Q 40 [x0, x1, x2] (va_rf (mh_r h o 3) :: st) h) := (mw_at mj_151_37).trans (z_getr (by decide) (by decide) rfl)
theorem mj_151_40 : mc_P 151 40 = some (.iload_n 2, 1, 0, 0, 0) := by decide +kernel
theorem s_151_40 {x0 x1 : Option Value} {w : Value} : mw d 151 Q 40 [x0, x1, some w] (st) h = mv_i w (mw d 151 Q 41 [x0, x1, some w] (w :: st) h) := (mw_at mj_151_40).trans (z_iload_n rfl)
theorem mj_151_41 : mc_P 151 41 = some (.laload, 1, 0, 0, 0) := by decide +kernel
theorem s_151_41 {x0 x1 x2 : Option Value} {o : Nat} {i : Int32} : mw d 151 Q 41 [x0, x1, x2] (.int i :: .ref o :: st) h = (mg h o 101 ∧ mx i (mh_l h o) ∧ mw d 151 Q 42 [x0, x1, x2] (.long (mh_j h o i.toNatClampNeg) :: st) h) := (mw_at mj_151_41).trans (z_lald)
theorem mj_151_42 : mc_P 151 42 = some (.aload_n 1, 1, 0, 0, 0) := by decide +kernel
theorem s_151_42 {x0 x2 : Option Value} {w : Value} : mw d 151 Q 42 [x0, some w, x2] (st) h = mv_a w (mw d 151 Q 43 [x0, some w, x2] (w :: st) h) := (mw_at mj_151_42).trans (z_aload_n rfl)
theorem mj_151_43 : mc_P 151 43 = some (.getfield 11, 3, 8, 3, 0) := by decide +kernel
theorem s_151_43 {x0 x1 x2 : Option Value} {o : Nat} : mw d 151 Q 43 [x0, x1, x2] (.ref o :: st) h = (mg h o 8 ∧ mw d 151 Q 46 [x0, x1, x2] (va_rf (mh_r h o 3) :: st) h) := (mw_at mj_151_43).trans (z_getr (by decide) (by decide) rfl)
theorem mj_151_46 : mc_P 151 46 = some (.iload_n 2, 1, 0, 0, 0) := by decide +kernel
theorem s_151_46 {x0 x1 : Option Value} {w : Value} : mw d 151 Q 46 [x0, x1, some w] (st) h = mv_i w (mw d 151 Q 47 [x0, x1, some w] (w :: st) h) := (mw_at mj_151_46).trans (z_iload_n rfl)
theorem mj_151_47 : mc_P 151 47 = some (.laload, 1, 0, 0, 0) := by decide +kernel
theorem s_151_47 {x0 x1 x2 : Option Value} {o : Nat} {i : Int32} : mw d 151 Q 47 [x0, x1, x2] (.int i :: .ref o :: st) h = (mg h o 101 ∧ mx i (mh_l h o) ∧ mw d 151 Q 48 [x0, x1, x2] (.long (mh_j h o i.toNatClampNeg) :: st) h) := (mw_at mj_151_47).trans (z_lald)
theorem mj_151_48 : mc_P 151 48 = some (.invokestatic 64, 3, 0, 23, 0) := by decide +kernel
theorem s_151_48 {x0 x1 x2 : Option Value} {x w : Int64} : mw d 151 Q 48 [x0, x1, x2] (.long w :: .long x :: st) h = (mca st 8 ∧ mw d 151 Q 51 [x0, x1, x2] (.long (if w < x then x else w) :: st) h) := (mw_at mj_151_48).trans (z_lmax)
theorem mj_151_51 : mc_P 151 51 = some (.lastore, 1, 0, 0, 0) := by decide +kernel
theorem s_151_51 {x0 x1 x2 : Option Value} {o : Nat} {i : Int32} {w : Int64} : mw d 151 Q 51 [x0, x1, x2] (.long w :: .int i :: .ref o :: st) h = (mg h o 101 ∧ mx i (mh_l h o) ∧ mw d 151 Q 52 [x0, x1, x2] (st) (mh_sj h o i.toNatClampNeg w)) := (mw_at mj_151_51).trans (z_last)
theorem mj_151_52 : mc_P 151 52 = some (.iinc 2 1, 3, 0, 0, 0) := by decide +kernel
theorem s_151_52 {x0 x1 : Option Value} {w : Int32} : mw d 151 Q 52 [x0, x1, some (.int w)] (st) h = mw d 151 Q 55 [x0, mk2 x1, some (.int (w + 1))] (st) h := (mw_at mj_151_52).trans (z_iinc rfl (Nat.le_of_ble_eq_true rfl) (by decide) (me_s1_mk (j := 1) (w := x1) rfl))
theorem mj_151_55 : mc_P 151 55 = some (.goto (-32), 3, 0, 0, 0) := by decide +kernel
theorem s_151_55 {x0 x1 x2 : Option Value} : mw d 151 Q 55 [x0, x1, x2] (st) h = mw d 151 Q 23 [x0, x1, x2] (st) h := (mw_at mj_151_55).trans (z_goto (by decide))
theorem mj_151_58 : mc_P 151 58 = some (.iconst 0, 1, 0, 0, 0) := by decide +kernel
theorem s_151_58 {x0 x1 x2 : Option Value} : mw d 151 Q 58 [x0, x1, x2] (st) h = mw d 151 Q 59 [x0, x1, x2] (.int 0 :: st) h := (mw_at mj_151_58).trans (z_iconst (by decide))
theorem mj_151_59 : mc_P 151 59 = some (.istore_n 2, 1, 0, 0, 0) := by decide +kernel
theorem s_151_59 {x0 x1 x2 : Option Value} {w : Int32} : mw d 151 Q 59 [x0, x1, x2] (.int w :: st) h = mw d 151 Q 60 [x0, mk2 x1, some (.int w)] (st) h := (mw_at mj_151_59).trans (z_istore_n (Nat.le_of_ble_eq_true rfl) (me_s1_mk (j := 1) (w := x1) rfl))
theorem mj_151_60 : mc_P 151 60 = some (.iload_n 2, 1, 0, 0, 0) := by decide +kernel
theorem s_151_60 {x0 x1 : Option Value} {w : Value} : mw d 151 Q 60 [x0, x1, some w] (st) h = mv_i w (mw d 151 Q 61 [x0, x1, some w] (w :: st) h) := (mw_at mj_151_60).trans (z_iload_n rfl)
theorem mj_151_61 : mc_P 151 61 = some (.aload_n 0, 1, 0, 0, 0) := by decide +kernel
theorem s_151_61 {x1 x2 : Option Value} {w : Value} : mw d 151 Q 61 [some w, x1, x2] (st) h = mv_a w (mw d 151 Q 62 [some w, x1, x2] (w :: st) h) := (mw_at mj_151_61).trans (z_aload_n rfl)
theorem mj_151_62 : mc_P 151 62 = some (.getfield 34, 3, 8, 2, 0) := by decide +kernel
theorem s_151_62 {x0 x1 x2 : Option Value} {o : Nat} : mw d 151 Q 62 [x0, x1, x2] (.ref o :: st) h = (mg h o 8 ∧ mw d 151 Q 65 [x0, x1, x2] (.int (mh_i h o 2) :: st) h) := (mw_at mj_151_62).trans (z_geti (by decide) (by decide) (Or.inl rfl))
theorem mj_151_65 : mc_P 151 65 = some (.if_icmp .ge 69, 3, 0, 0, 0) := by decide +kernel
theorem s_151_65 {x0 x1 x2 : Option Value} {x w : Int32} : mw d 151 Q 65 [x0, x1, x2] (.int w :: .int x :: st) h = mB (w ≤ x) (mw d 151 Q) 134 68 [x0, x1, x2] st h := (mw_at mj_151_65).trans (z_icmp_ge (by decide) rfl)
theorem mj_151_68 : mc_P 151 68 = some (.aload_n 0, 1, 0, 0, 0) := by decide +kernel
theorem s_151_68 {x1 x2 : Option Value} {w : Value} : mw d 151 Q 68 [some w, x1, x2] (st) h = mv_a w (mw d 151 Q 69 [some w, x1, x2] (w :: st) h) := (mw_at mj_151_68).trans (z_aload_n rfl)
theorem mj_151_69 : mc_P 151 69 = some (.getfield 15, 3, 8, 4, 0) := by decide +kernel
theorem s_151_69 {x0 x1 x2 : Option Value} {o : Nat} : mw d 151 Q 69 [x0, x1, x2] (.ref o :: st) h = (mg h o 8 ∧ mw d 151 Q 72 [x0, x1, x2] (va_rf (mh_r h o 4) :: st) h) := (mw_at mj_151_69).trans (z_getr (by decide) (by decide) rfl)
theorem mj_151_72 : mc_P 151 72 = some (.iconst 2, 1, 0, 0, 0) := by decide +kernel
theorem s_151_72 {x0 x1 x2 : Option Value} : mw d 151 Q 72 [x0, x1, x2] (st) h = mw d 151 Q 73 [x0, x1, x2] (.int 2 :: st) h := (mw_at mj_151_72).trans (z_iconst (by decide))
theorem mj_151_73 : mc_P 151 73 = some (.iload_n 2, 1, 0, 0, 0) := by decide +kernel
theorem s_151_73 {x0 x1 : Option Value} {w : Value} : mw d 151 Q 73 [x0, x1, some w] (st) h = mv_i w (mw d 151 Q 74 [x0, x1, some w] (w :: st) h) := (mw_at mj_151_73).trans (z_iload_n rfl)
theorem mj_151_74 : mc_P 151 74 = some (.imul, 1, 0, 0, 0) := by decide +kernel
theorem s_151_74 {x0 x1 x2 : Option Value} {x w : Int32} : mw d 151 Q 74 [x0, x1, x2] (.int w :: .int x :: st) h = mw d 151 Q 75 [x0, x1, x2] (.int (x * w) :: st) h := (mw_at mj_151_74).trans (z_imul)
theorem mj_151_75 : mc_P 151 75 = some (.aload_n 0, 1, 0, 0, 0) := by decide +kernel
theorem s_151_75 {x1 x2 : Option Value} {w : Value} : mw d 151 Q 75 [some w, x1, x2] (st) h = mv_a w (mw d 151 Q 76 [some w, x1, x2] (w :: st) h) := (mw_at mj_151_75).trans (z_aload_n rfl)
theorem mj_151_76 : mc_P 151 76 = some (.getfield 15, 3, 8, 4, 0) := by decide +kernel
theorem s_151_76 {x0 x1 x2 : Option Value} {o : Nat} : mw d 151 Q 76 [x0, x1, x2] (.ref o :: st) h = (mg h o 8 ∧ mw d 151 Q 79 [x0, x1, x2] (va_rf (mh_r h o 4) :: st) h) := (mw_at mj_151_76).trans (z_getr (by decide) (by decide) rfl)
theorem mj_151_79 : mc_P 151 79 = some (.iconst 2, 1, 0, 0, 0) := by decide +kernel
theorem s_151_79 {x0 x1 x2 : Option Value} : mw d 151 Q 79 [x0, x1, x2] (st) h = mw d 151 Q 80 [x0, x1, x2] (.int 2 :: st) h := (mw_at mj_151_79).trans (z_iconst (by decide))
theorem mj_151_80 : mc_P 151 80 = some (.iload_n 2, 1, 0, 0, 0) := by decide +kernel
theorem s_151_80 {x0 x1 : Option Value} {w : Value} : mw d 151 Q 80 [x0, x1, some w] (st) h = mv_i w (mw d 151 Q 81 [x0, x1, some w] (w :: st) h) := (mw_at mj_151_80).trans (z_iload_n rfl)
theorem mj_151_81 : mc_P 151 81 = some (.imul, 1, 0, 0, 0) := by decide +kernel
theorem s_151_81 {x0 x1 x2 : Option Value} {x w : Int32} : mw d 151 Q 81 [x0, x1, x2] (.int w :: .int x :: st) h = mw d 151 Q 82 [x0, x1, x2] (.int (x * w) :: st) h := (mw_at mj_151_81).trans (z_imul)
theorem mj_151_82 : mc_P 151 82 = some (.laload, 1, 0, 0, 0) := by decide +kernel
theorem s_151_82 {x0 x1 x2 : Option Value} {o : Nat} {i : Int32} : mw d 151 Q 82 [x0, x1, x2] (.int i :: .ref o :: st) h = (mg h o 101 ∧ mx i (mh_l h o) ∧ mw d 151 Q 83 [x0, x1, x2] (.long (mh_j h o i.toNatClampNeg) :: st) h) := (mw_at mj_151_82).trans (z_lald)
theorem mj_151_83 : mc_P 151 83 = some (.aload_n 1, 1, 0, 0, 0) := by decide +kernel
theorem s_151_83 {x0 x2 : Option Value} {w : Value} : mw d 151 Q 83 [x0, some w, x2] (st) h = mv_a w (mw d 151 Q 84 [x0, some w, x2] (w :: st) h) := (mw_at mj_151_83).trans (z_aload_n rfl)
theorem mj_151_84 : mc_P 151 84 = some (.getfield 15, 3, 8, 4, 0) := by decide +kernel
theorem s_151_84 {x0 x1 x2 : Option Value} {o : Nat} : mw d 151 Q 84 [x0, x1, x2] (.ref o :: st) h = (mg h o 8 ∧ mw d 151 Q 87 [x0, x1, x2] (va_rf (mh_r h o 4) :: st) h) := (mw_at mj_151_84).trans (z_getr (by decide) (by decide) rfl)
theorem mj_151_87 : mc_P 151 87 = some (.iconst 2, 1, 0, 0, 0) := by decide +kernel
theorem s_151_87 {x0 x1 x2 : Option Value} : mw d 151 Q 87 [x0, x1, x2] (st) h = mw d 151 Q 88 [x0, x1, x2] (.int 2 :: st) h := (mw_at mj_151_87).trans (z_iconst (by decide))
theorem mj_151_88 : mc_P 151 88 = some (.iload_n 2, 1, 0, 0, 0) := by decide +kernel
theorem s_151_88 {x0 x1 : Option Value} {w : Value} : mw d 151 Q 88 [x0, x1, some w] (st) h = mv_i w (mw d 151 Q 89 [x0, x1, some w] (w :: st) h) := (mw_at mj_151_88).trans (z_iload_n rfl)
theorem mj_151_89 : mc_P 151 89 = some (.imul, 1, 0, 0, 0) := by decide +kernel
theorem s_151_89 {x0 x1 x2 : Option Value} {x w : Int32} : mw d 151 Q 89 [x0, x1, x2] (.int w :: .int x :: st) h = mw d 151 Q 90 [x0, x1, x2] (.int (x * w) :: st) h := (mw_at mj_151_89).trans (z_imul)
theorem mj_151_90 : mc_P 151 90 = some (.laload, 1, 0, 0, 0) := by decide +kernel
theorem s_151_90 {x0 x1 x2 : Option Value} {o : Nat} {i : Int32} : mw d 151 Q 90 [x0, x1, x2] (.int i :: .ref o :: st) h = (mg h o 101 ∧ mx i (mh_l h o) ∧ mw d 151 Q 91 [x0, x1, x2] (.long (mh_j h o i.toNatClampNeg) :: st) h) := (mw_at mj_151_90).trans (z_lald)
theorem mj_151_91 : mc_P 151 91 = some (.invokestatic 70, 3, 0, 22, 0) := by decide +kernel
theorem s_151_91 {x0 x1 x2 : Option Value} {x w : Int64} : mw d 151 Q 91 [x0, x1, x2] (.long w :: .long x :: st) h = (mca st 8 ∧ mw d 151 Q 94 [x0, x1, x2] (.long (if w < x then w else x) :: st) h) := (mw_at mj_151_91).trans (z_lmin)
theorem mj_151_94 : mc_P 151 94 = some (.lastore, 1, 0, 0, 0) := by decide +kernel
theorem s_151_94 {x0 x1 x2 : Option Value} {o : Nat} {i : Int32} {w : Int64} : mw d 151 Q 94 [x0, x1, x2] (.long w :: .int i :: .ref o :: st) h = (mg h o 101 ∧ mx i (mh_l h o) ∧ mw d 151 Q 95 [x0, x1, x2] (st) (mh_sj h o i.toNatClampNeg w)) := (mw_at mj_151_94).trans (z_last)
theorem mj_151_95 : mc_P 151 95 = some (.aload_n 0, 1, 0, 0, 0) := by decide +kernel
theorem s_151_95 {x1 x2 : Option Value} {w : Value} : mw d 151 Q 95 [some w, x1, x2] (st) h = mv_a w (mw d 151 Q 96 [some w, x1, x2] (w :: st) h) := (mw_at mj_151_95).trans (z_aload_n rfl)
theorem mj_151_96 : mc_P 151 96 = some (.getfield 15, 3, 8, 4, 0) := by decide +kernel
theorem s_151_96 {x0 x1 x2 : Option Value} {o : Nat} : mw d 151 Q 96 [x0, x1, x2] (.ref o :: st) h = (mg h o 8 ∧ mw d 151 Q 99 [x0, x1, x2] (va_rf (mh_r h o 4) :: st) h) := (mw_at mj_151_96).trans (z_getr (by decide) (by decide) rfl)
theorem mj_151_99 : mc_P 151 99 = some (.iconst 2, 1, 0, 0, 0) := by decide +kernel
theorem s_151_99 {x0 x1 x2 : Option Value} : mw d 151 Q 99 [x0, x1, x2] (st) h = mw d 151 Q 100 [x0, x1, x2] (.int 2 :: st) h := (mw_at mj_151_99).trans (z_iconst (by decide))
theorem mj_151_100 : mc_P 151 100 = some (.iload_n 2, 1, 0, 0, 0) := by decide +kernel
theorem s_151_100 {x0 x1 : Option Value} {w : Value} : mw d 151 Q 100 [x0, x1, some w] (st) h = mv_i w (mw d 151 Q 101 [x0, x1, some w] (w :: st) h) := (mw_at mj_151_100).trans (z_iload_n rfl)
theorem mj_151_101 : mc_P 151 101 = some (.imul, 1, 0, 0, 0) := by decide +kernel
theorem s_151_101 {x0 x1 x2 : Option Value} {x w : Int32} : mw d 151 Q 101 [x0, x1, x2] (.int w :: .int x :: st) h = mw d 151 Q 102 [x0, x1, x2] (.int (x * w) :: st) h := (mw_at mj_151_101).trans (z_imul)
theorem mj_151_102 : mc_P 151 102 = some (.iconst 1, 1, 0, 0, 0) := by decide +kernel
theorem s_151_102 {x0 x1 x2 : Option Value} : mw d 151 Q 102 [x0, x1, x2] (st) h = mw d 151 Q 103 [x0, x1, x2] (.int 1 :: st) h := (mw_at mj_151_102).trans (z_iconst (by decide))
theorem mj_151_103 : mc_P 151 103 = some (.iadd, 1, 0, 0, 0) := by decide +kernel
theorem s_151_103 {x0 x1 x2 : Option Value} {x w : Int32} : mw d 151 Q 103 [x0, x1, x2] (.int w :: .int x :: st) h = mw d 151 Q 104 [x0, x1, x2] (.int (x + w) :: st) h := (mw_at mj_151_103).trans (z_iadd)
theorem mj_151_104 : mc_P 151 104 = some (.aload_n 0, 1, 0, 0, 0) := by decide +kernel
theorem s_151_104 {x1 x2 : Option Value} {w : Value} : mw d 151 Q 104 [some w, x1, x2] (st) h = mv_a w (mw d 151 Q 105 [some w, x1, x2] (w :: st) h) := (mw_at mj_151_104).trans (z_aload_n rfl)
theorem mj_151_105 : mc_P 151 105 = some (.getfield 15, 3, 8, 4, 0) := by decide +kernel
theorem s_151_105 {x0 x1 x2 : Option Value} {o : Nat} : mw d 151 Q 105 [x0, x1, x2] (.ref o :: st) h = (mg h o 8 ∧ mw d 151 Q 108 [x0, x1, x2] (va_rf (mh_r h o 4) :: st) h) := (mw_at mj_151_105).trans (z_getr (by decide) (by decide) rfl)
theorem mj_151_108 : mc_P 151 108 = some (.iconst 2, 1, 0, 0, 0) := by decide +kernel
theorem s_151_108 {x0 x1 x2 : Option Value} : mw d 151 Q 108 [x0, x1, x2] (st) h = mw d 151 Q 109 [x0, x1, x2] (.int 2 :: st) h := (mw_at mj_151_108).trans (z_iconst (by decide))
theorem mj_151_109 : mc_P 151 109 = some (.iload_n 2, 1, 0, 0, 0) := by decide +kernel
theorem s_151_109 {x0 x1 : Option Value} {w : Value} : mw d 151 Q 109 [x0, x1, some w] (st) h = mv_i w (mw d 151 Q 110 [x0, x1, some w] (w :: st) h) := (mw_at mj_151_109).trans (z_iload_n rfl)
theorem mj_151_110 : mc_P 151 110 = some (.imul, 1, 0, 0, 0) := by decide +kernel
theorem s_151_110 {x0 x1 x2 : Option Value} {x w : Int32} : mw d 151 Q 110 [x0, x1, x2] (.int w :: .int x :: st) h = mw d 151 Q 111 [x0, x1, x2] (.int (x * w) :: st) h := (mw_at mj_151_110).trans (z_imul)
theorem mj_151_111 : mc_P 151 111 = some (.iconst 1, 1, 0, 0, 0) := by decide +kernel
theorem s_151_111 {x0 x1 x2 : Option Value} : mw d 151 Q 111 [x0, x1, x2] (st) h = mw d 151 Q 112 [x0, x1, x2] (.int 1 :: st) h := (mw_at mj_151_111).trans (z_iconst (by decide))
theorem mj_151_112 : mc_P 151 112 = some (.iadd, 1, 0, 0, 0) := by decide +kernel
theorem s_151_112 {x0 x1 x2 : Option Value} {x w : Int32} : mw d 151 Q 112 [x0, x1, x2] (.int w :: .int x :: st) h = mw d 151 Q 113 [x0, x1, x2] (.int (x + w) :: st) h := (mw_at mj_151_112).trans (z_iadd)
theorem mj_151_113 : mc_P 151 113 = some (.laload, 1, 0, 0, 0) := by decide +kernel
theorem s_151_113 {x0 x1 x2 : Option Value} {o : Nat} {i : Int32} : mw d 151 Q 113 [x0, x1, x2] (.int i :: .ref o :: st) h = (mg h o 101 ∧ mx i (mh_l h o) ∧ mw d 151 Q 114 [x0, x1, x2] (.long (mh_j h o i.toNatClampNeg) :: st) h) := (mw_at mj_151_113).trans (z_lald)
theorem mj_151_114 : mc_P 151 114 = some (.aload_n 1, 1, 0, 0, 0) := by decide +kernel
theorem s_151_114 {x0 x2 : Option Value} {w : Value} : mw d 151 Q 114 [x0, some w, x2] (st) h = mv_a w (mw d 151 Q 115 [x0, some w, x2] (w :: st) h) := (mw_at mj_151_114).trans (z_aload_n rfl)
theorem mj_151_115 : mc_P 151 115 = some (.getfield 15, 3, 8, 4, 0) := by decide +kernel
theorem s_151_115 {x0 x1 x2 : Option Value} {o : Nat} : mw d 151 Q 115 [x0, x1, x2] (.ref o :: st) h = (mg h o 8 ∧ mw d 151 Q 118 [x0, x1, x2] (va_rf (mh_r h o 4) :: st) h) := (mw_at mj_151_115).trans (z_getr (by decide) (by decide) rfl)
theorem mj_151_118 : mc_P 151 118 = some (.iconst 2, 1, 0, 0, 0) := by decide +kernel
theorem s_151_118 {x0 x1 x2 : Option Value} : mw d 151 Q 118 [x0, x1, x2] (st) h = mw d 151 Q 119 [x0, x1, x2] (.int 2 :: st) h := (mw_at mj_151_118).trans (z_iconst (by decide))
theorem mj_151_119 : mc_P 151 119 = some (.iload_n 2, 1, 0, 0, 0) := by decide +kernel
theorem s_151_119 {x0 x1 : Option Value} {w : Value} : mw d 151 Q 119 [x0, x1, some w] (st) h = mv_i w (mw d 151 Q 120 [x0, x1, some w] (w :: st) h) := (mw_at mj_151_119).trans (z_iload_n rfl)
theorem mj_151_120 : mc_P 151 120 = some (.imul, 1, 0, 0, 0) := by decide +kernel
theorem s_151_120 {x0 x1 x2 : Option Value} {x w : Int32} : mw d 151 Q 120 [x0, x1, x2] (.int w :: .int x :: st) h = mw d 151 Q 121 [x0, x1, x2] (.int (x * w) :: st) h := (mw_at mj_151_120).trans (z_imul)
theorem mj_151_121 : mc_P 151 121 = some (.iconst 1, 1, 0, 0, 0) := by decide +kernel
theorem s_151_121 {x0 x1 x2 : Option Value} : mw d 151 Q 121 [x0, x1, x2] (st) h = mw d 151 Q 122 [x0, x1, x2] (.int 1 :: st) h := (mw_at mj_151_121).trans (z_iconst (by decide))
theorem mj_151_122 : mc_P 151 122 = some (.iadd, 1, 0, 0, 0) := by decide +kernel
theorem s_151_122 {x0 x1 x2 : Option Value} {x w : Int32} : mw d 151 Q 122 [x0, x1, x2] (.int w :: .int x :: st) h = mw d 151 Q 123 [x0, x1, x2] (.int (x + w) :: st) h := (mw_at mj_151_122).trans (z_iadd)
theorem mj_151_123 : mc_P 151 123 = some (.laload, 1, 0, 0, 0) := by decide +kernel
theorem s_151_123 {x0 x1 x2 : Option Value} {o : Nat} {i : Int32} : mw d 151 Q 123 [x0, x1, x2] (.int i :: .ref o :: st) h = (mg h o 101 ∧ mx i (mh_l h o) ∧ mw d 151 Q 124 [x0, x1, x2] (.long (mh_j h o i.toNatClampNeg) :: st) h) := (mw_at mj_151_123).trans (z_lald)
theorem mj_151_124 : mc_P 151 124 = some (.invokestatic 64, 3, 0, 23, 0) := by decide +kernel
theorem s_151_124 {x0 x1 x2 : Option Value} {x w : Int64} : mw d 151 Q 124 [x0, x1, x2] (.long w :: .long x :: st) h = (mca st 8 ∧ mw d 151 Q 127 [x0, x1, x2] (.long (if w < x then x else w) :: st) h) := (mw_at mj_151_124).trans (z_lmax)
theorem mj_151_127 : mc_P 151 127 = some (.lastore, 1, 0, 0, 0) := by decide +kernel
theorem s_151_127 {x0 x1 x2 : Option Value} {o : Nat} {i : Int32} {w : Int64} : mw d 151 Q 127 [x0, x1, x2] (.long w :: .int i :: .ref o :: st) h = (mg h o 101 ∧ mx i (mh_l h o) ∧ mw d 151 Q 128 [x0, x1, x2] (st) (mh_sj h o i.toNatClampNeg w)) := (mw_at mj_151_127).trans (z_last)
theorem mj_151_128 : mc_P 151 128 = some (.iinc 2 1, 3, 0, 0, 0) := by decide +kernel
theorem s_151_128 {x0 x1 : Option Value} {w : Int32} : mw d 151 Q 128 [x0, x1, some (.int w)] (st) h = mw d 151 Q 131 [x0, mk2 x1, some (.int (w + 1))] (st) h := (mw_at mj_151_128).trans (z_iinc rfl (Nat.le_of_ble_eq_true rfl) (by decide) (me_s1_mk (j := 1) (w := x1) rfl))
theorem mj_151_131 : mc_P 151 131 = some (.goto (-71), 3, 0, 0, 0) := by decide +kernel
theorem s_151_131 {x0 x1 x2 : Option Value} : mw d 151 Q 131 [x0, x1, x2] (st) h = mw d 151 Q 60 [x0, x1, x2] (st) h := (mw_at mj_151_131).trans (z_goto (by decide))
theorem mj_151_134 : mc_P 151 134 = some (.return_, 1, 0, 0, 0) := by decide +kernel
theorem s_151_134 {x0 x1 x2 : Option Value} : mw d 151 Q 134 [x0, x1, x2] ([]) h = Q none h := (mw_at mj_151_134).trans (z_vret)
theorem e_151 {a0 : Nat} {a1 : Nat} : mcall d 151 [.ref a0, .ref a1] h Q = mw d 151 Q 0 [some (.ref a0), some (.ref a1), none] [] h := by
  show mw d 151 Q 0 (me_en (mc_nl 151) _) [] h = _
  rw [nl_151]; rfl

/-! InvariantDesk$State.widen(LInvariantDesk$State;)V -/
theorem mj_152_0 : mc_P 152 0 = some (.iconst 0, 1, 0, 0, 0) := by decide +kernel
theorem s_152_0 {x0 x1 x2 x3 x4 : Option Value} : mw d 152 Q 0 [x0, x1, x2, x3, x4] (st) h = mw d 152 Q 1 [x0, x1, x2, x3, x4] (.int 0 :: st) h := (mw_at mj_152_0).trans (z_iconst (by decide))
theorem mj_152_1 : mc_P 152 1 = some (.istore_n 2, 1, 0, 0, 0) := by decide +kernel
theorem s_152_1 {x0 x1 x2 x3 x4 : Option Value} {w : Int32} : mw d 152 Q 1 [x0, x1, x2, x3, x4] (.int w :: st) h = mw d 152 Q 2 [x0, mk2 x1, some (.int w), x3, x4] (st) h := (mw_at mj_152_1).trans (z_istore_n (Nat.le_of_ble_eq_true rfl) (me_s1_mk (j := 1) (w := x1) rfl))
theorem mj_152_2 : mc_P 152 2 = some (.iload_n 2, 1, 0, 0, 0) := by decide +kernel
theorem s_152_2 {x0 x1 x3 x4 : Option Value} {w : Value} : mw d 152 Q 2 [x0, x1, some w, x3, x4] (st) h = mv_i w (mw d 152 Q 3 [x0, x1, some w, x3, x4] (w :: st) h) := (mw_at mj_152_2).trans (z_iload_n rfl)
theorem mj_152_3 : mc_P 152 3 = some (.iconst 2, 1, 0, 0, 0) := by decide +kernel
theorem s_152_3 {x0 x1 x2 x3 x4 : Option Value} : mw d 152 Q 3 [x0, x1, x2, x3, x4] (st) h = mw d 152 Q 4 [x0, x1, x2, x3, x4] (.int 2 :: st) h := (mw_at mj_152_3).trans (z_iconst (by decide))
theorem mj_152_4 : mc_P 152 4 = some (.aload_n 0, 1, 0, 0, 0) := by decide +kernel
theorem s_152_4 {x1 x2 x3 x4 : Option Value} {w : Value} : mw d 152 Q 4 [some w, x1, x2, x3, x4] (st) h = mv_a w (mw d 152 Q 5 [some w, x1, x2, x3, x4] (w :: st) h) := (mw_at mj_152_4).trans (z_aload_n rfl)
theorem mj_152_5 : mc_P 152 5 = some (.getfield 26, 3, 8, 1, 0) := by decide +kernel
theorem s_152_5 {x0 x1 x2 x3 x4 : Option Value} {o : Nat} : mw d 152 Q 5 [x0, x1, x2, x3, x4] (.ref o :: st) h = (mg h o 8 ∧ mw d 152 Q 8 [x0, x1, x2, x3, x4] (.int (mh_i h o 1) :: st) h) := (mw_at mj_152_5).trans (z_geti (by decide) (by decide) (Or.inl rfl))
theorem mj_152_8 : mc_P 152 8 = some (.imul, 1, 0, 0, 0) := by decide +kernel
theorem s_152_8 {x0 x1 x2 x3 x4 : Option Value} {x w : Int32} : mw d 152 Q 8 [x0, x1, x2, x3, x4] (.int w :: .int x :: st) h = mw d 152 Q 9 [x0, x1, x2, x3, x4] (.int (x * w) :: st) h := (mw_at mj_152_8).trans (z_imul)
theorem mj_152_9 : mc_P 152 9 = some (.if_icmp .ge 69, 3, 0, 0, 0) := by decide +kernel
theorem s_152_9 {x0 x1 x2 x3 x4 : Option Value} {x w : Int32} : mw d 152 Q 9 [x0, x1, x2, x3, x4] (.int w :: .int x :: st) h = mB (w ≤ x) (mw d 152 Q) 78 12 [x0, x1, x2, x3, x4] st h := (mw_at mj_152_9).trans (z_icmp_ge (by decide) rfl)
theorem mj_152_12 : mc_P 152 12 = some (.iconst 0, 1, 0, 0, 0) := by decide +kernel
theorem s_152_12 {x0 x1 x2 x3 x4 : Option Value} : mw d 152 Q 12 [x0, x1, x2, x3, x4] (st) h = mw d 152 Q 13 [x0, x1, x2, x3, x4] (.int 0 :: st) h := (mw_at mj_152_12).trans (z_iconst (by decide))
theorem mj_152_13 : mc_P 152 13 = some (.istore_n 3, 1, 0, 0, 0) := by decide +kernel
theorem s_152_13 {x0 x1 x2 x3 x4 : Option Value} {w : Int32} : mw d 152 Q 13 [x0, x1, x2, x3, x4] (.int w :: st) h = mw d 152 Q 14 [x0, x1, mk2 x2, some (.int w), x4] (st) h := (mw_at mj_152_13).trans (z_istore_n (Nat.le_of_ble_eq_true rfl) (me_s1_mk (j := 2) (w := x2) rfl))
theorem mj_152_14 : mc_P 152 14 = some (.iload_n 3, 1, 0, 0, 0) := by decide +kernel
theorem s_152_14 {x0 x1 x2 x4 : Option Value} {w : Value} : mw d 152 Q 14 [x0, x1, x2, some w, x4] (st) h = mv_i w (mw d 152 Q 15 [x0, x1, x2, some w, x4] (w :: st) h) := (mw_at mj_152_14).trans (z_iload_n rfl)
theorem mj_152_15 : mc_P 152 15 = some (.iload_n 2, 1, 0, 0, 0) := by decide +kernel
theorem s_152_15 {x0 x1 x3 x4 : Option Value} {w : Value} : mw d 152 Q 15 [x0, x1, some w, x3, x4] (st) h = mv_i w (mw d 152 Q 16 [x0, x1, some w, x3, x4] (w :: st) h) := (mw_at mj_152_15).trans (z_iload_n rfl)
theorem mj_152_16 : mc_P 152 16 = some (.iconst 1, 1, 0, 0, 0) := by decide +kernel
theorem s_152_16 {x0 x1 x2 x3 x4 : Option Value} : mw d 152 Q 16 [x0, x1, x2, x3, x4] (st) h = mw d 152 Q 17 [x0, x1, x2, x3, x4] (.int 1 :: st) h := (mw_at mj_152_16).trans (z_iconst (by decide))
theorem mj_152_17 : mc_P 152 17 = some (.ior, 1, 0, 0, 0) := by decide +kernel
theorem s_152_17 {x0 x1 x2 x3 x4 : Option Value} {x w : Int32} : mw d 152 Q 17 [x0, x1, x2, x3, x4] (.int w :: .int x :: st) h = mw d 152 Q 18 [x0, x1, x2, x3, x4] (.int (x ||| w) :: st) h := (mw_at mj_152_17).trans (z_ior)
theorem mj_152_18 : mc_P 152 18 = some (.if_icmp .gt 54, 3, 0, 0, 0) := by decide +kernel
theorem s_152_18 {x0 x1 x2 x3 x4 : Option Value} {x w : Int32} : mw d 152 Q 18 [x0, x1, x2, x3, x4] (.int w :: .int x :: st) h = mB (w < x) (mw d 152 Q) 72 21 [x0, x1, x2, x3, x4] st h := (mw_at mj_152_18).trans (z_icmp_gt (by decide) rfl)
theorem mj_152_21 : mc_P 152 21 = some (.getstatic 18, 3, 2, 0, 0) := by decide +kernel
theorem s_152_21 {x0 x1 x2 x3 x4 : Option Value} : mw d 152 Q 21 [x0, x1, x2, x3, x4] (st) h = mw d 152 Q 24 [x0, x1, x2, x3, x4] (.retAddr 2 :: st) h := (mw_at mj_152_21).trans (z_gets0)
theorem mj_152_24 : mc_P 152 24 = some (.iload_n 2, 1, 0, 0, 0) := by decide +kernel
theorem s_152_24 {x0 x1 x3 x4 : Option Value} {w : Value} : mw d 152 Q 24 [x0, x1, some w, x3, x4] (st) h = mv_i w (mw d 152 Q 25 [x0, x1, some w, x3, x4] (w :: st) h) := (mw_at mj_152_24).trans (z_iload_n rfl)
theorem mj_152_25 : mc_P 152 25 = some (.iaload, 1, 0, 0, 0) := by decide +kernel
theorem s_152_25 {x0 x1 x2 x3 x4 : Option Value} {o : Nat} {i : Int32} : mw d 152 Q 25 [x0, x1, x2, x3, x4] (.int i :: .ref o :: st) h = (mg h o 100 ∧ mx i (mh_l h o) ∧ mw d 152 Q 26 [x0, x1, x2, x3, x4] (.int (mh_i h o i.toNatClampNeg) :: st) h) := (mw_at mj_152_25).trans (z_iald)
theorem s_152_25x {x0 x1 x2 x3 x4 : Option Value} {i : Int32} : mw d 152 Q 25 [x0, x1, x2, x3, x4] (.int i :: .retAddr 2 :: st) h = (mx i 24 ∧ mw d 152 Q 26 [x0, x1, x2, x3, x4] (.int (mx_row.getD i.toNatClampNeg 0) :: st) h) := (mw_at mj_152_25).trans (z_iaX)
theorem mj_152_26 : mc_P 152 26 = some (.iload_n 3, 1, 0, 0, 0) := by decide +kernel
theorem s_152_26 {x0 x1 x2 x4 : Option Value} {w : Value} : mw d 152 Q 26 [x0, x1, x2, some w, x4] (st) h = mv_i w (mw d 152 Q 27 [x0, x1, x2, some w, x4] (w :: st) h) := (mw_at mj_152_26).trans (z_iload_n rfl)
theorem mj_152_27 : mc_P 152 27 = some (.iadd, 1, 0, 0, 0) := by decide +kernel
theorem s_152_27 {x0 x1 x2 x3 x4 : Option Value} {x w : Int32} : mw d 152 Q 27 [x0, x1, x2, x3, x4] (.int w :: .int x :: st) h = mw d 152 Q 28 [x0, x1, x2, x3, x4] (.int (x + w) :: st) h := (mw_at mj_152_27).trans (z_iadd)
theorem mj_152_28 : mc_P 152 28 = some (.istore 4, 2, 0, 0, 0) := by decide +kernel
theorem s_152_28 {x0 x1 x2 x3 x4 : Option Value} {w : Int32} : mw d 152 Q 28 [x0, x1, x2, x3, x4] (.int w :: st) h = mw d 152 Q 30 [x0, x1, x2, mk2 x3, some (.int w)] (st) h := (mw_at mj_152_28).trans (z_istore (Nat.le_of_ble_eq_true rfl) (me_s1_mk (j := 3) (w := x3) rfl))
theorem mj_152_30 : mc_P 152 30 = some (.aload_n 0, 1, 0, 0, 0) := by decide +kernel
theorem s_152_30 {x1 x2 x3 x4 : Option Value} {w : Value} : mw d 152 Q 30 [some w, x1, x2, x3, x4] (st) h = mv_a w (mw d 152 Q 31 [some w, x1, x2, x3, x4] (w :: st) h) := (mw_at mj_152_30).trans (z_aload_n rfl)
theorem mj_152_31 : mc_P 152 31 = some (.getfield 11, 3, 8, 3, 0) := by decide +kernel
theorem s_152_31 {x0 x1 x2 x3 x4 : Option Value} {o : Nat} : mw d 152 Q 31 [x0, x1, x2, x3, x4] (.ref o :: st) h = (mg h o 8 ∧ mw d 152 Q 34 [x0, x1, x2, x3, x4] (va_rf (mh_r h o 3) :: st) h) := (mw_at mj_152_31).trans (z_getr (by decide) (by decide) rfl)
theorem mj_152_34 : mc_P 152 34 = some (.iload 4, 2, 0, 0, 0) := by decide +kernel
theorem s_152_34 {x0 x1 x2 x3 : Option Value} {w : Value} : mw d 152 Q 34 [x0, x1, x2, x3, some w] (st) h = mv_i w (mw d 152 Q 36 [x0, x1, x2, x3, some w] (w :: st) h) := (mw_at mj_152_34).trans (z_iload rfl)
theorem mj_152_36 : mc_P 152 36 = some (.laload, 1, 0, 0, 0) := by decide +kernel
theorem s_152_36 {x0 x1 x2 x3 x4 : Option Value} {o : Nat} {i : Int32} : mw d 152 Q 36 [x0, x1, x2, x3, x4] (.int i :: .ref o :: st) h = (mg h o 101 ∧ mx i (mh_l h o) ∧ mw d 152 Q 37 [x0, x1, x2, x3, x4] (.long (mh_j h o i.toNatClampNeg) :: st) h) := (mw_at mj_152_36).trans (z_lald)
theorem mj_152_37 : mc_P 152 37 = some (.aload_n 1, 1, 0, 0, 0) := by decide +kernel
theorem s_152_37 {x0 x2 x3 x4 : Option Value} {w : Value} : mw d 152 Q 37 [x0, some w, x2, x3, x4] (st) h = mv_a w (mw d 152 Q 38 [x0, some w, x2, x3, x4] (w :: st) h) := (mw_at mj_152_37).trans (z_aload_n rfl)
theorem mj_152_38 : mc_P 152 38 = some (.getfield 11, 3, 8, 3, 0) := by decide +kernel
theorem s_152_38 {x0 x1 x2 x3 x4 : Option Value} {o : Nat} : mw d 152 Q 38 [x0, x1, x2, x3, x4] (.ref o :: st) h = (mg h o 8 ∧ mw d 152 Q 41 [x0, x1, x2, x3, x4] (va_rf (mh_r h o 3) :: st) h) := (mw_at mj_152_38).trans (z_getr (by decide) (by decide) rfl)
theorem mj_152_41 : mc_P 152 41 = some (.iload 4, 2, 0, 0, 0) := by decide +kernel
theorem s_152_41 {x0 x1 x2 x3 : Option Value} {w : Value} : mw d 152 Q 41 [x0, x1, x2, x3, some w] (st) h = mv_i w (mw d 152 Q 43 [x0, x1, x2, x3, some w] (w :: st) h) := (mw_at mj_152_41).trans (z_iload rfl)
theorem mj_152_43 : mc_P 152 43 = some (.laload, 1, 0, 0, 0) := by decide +kernel
theorem s_152_43 {x0 x1 x2 x3 x4 : Option Value} {o : Nat} {i : Int32} : mw d 152 Q 43 [x0, x1, x2, x3, x4] (.int i :: .ref o :: st) h = (mg h o 101 ∧ mx i (mh_l h o) ∧ mw d 152 Q 44 [x0, x1, x2, x3, x4] (.long (mh_j h o i.toNatClampNeg) :: st) h) := (mw_at mj_152_43).trans (z_lald)
theorem mj_152_44 : mc_P 152 44 = some (.lcmp, 1, 0, 0, 0) := by decide +kernel
theorem s_152_44 {x0 x1 x2 x3 x4 : Option Value} {x w : Int64} : mw d 152 Q 44 [x0, x1, x2, x3, x4] (.long w :: .long x :: st) h = mw d 152 Q 45 [x0, x1, x2, x3, x4] (.int (lg_cmp x w) :: st) h := (mw_at mj_152_44).trans (z_lcmp)
theorem mj_152_45 : mc_P 152 45 = some (.ifCond .ge 21, 3, 0, 0, 0) := by decide +kernel
theorem s_152_45 {x0 x1 x2 x3 x4 : Option Value} {x : Int32} : mw d 152 Q 45 [x0, x1, x2, x3, x4] (.int x :: st) h = mB (0 ≤ x) (mw d 152 Q) 66 48 [x0, x1, x2, x3, x4] st h := (mw_at mj_152_45).trans (z_if_ge (by decide) rfl)
theorem mj_152_48 : mc_P 152 48 = some (.aload_n 0, 1, 0, 0, 0) := by decide +kernel
theorem s_152_48 {x1 x2 x3 x4 : Option Value} {w : Value} : mw d 152 Q 48 [some w, x1, x2, x3, x4] (st) h = mv_a w (mw d 152 Q 49 [some w, x1, x2, x3, x4] (w :: st) h) := (mw_at mj_152_48).trans (z_aload_n rfl)
theorem mj_152_49 : mc_P 152 49 = some (.getfield 11, 3, 8, 3, 0) := by decide +kernel
theorem s_152_49 {x0 x1 x2 x3 x4 : Option Value} {o : Nat} : mw d 152 Q 49 [x0, x1, x2, x3, x4] (.ref o :: st) h = (mg h o 8 ∧ mw d 152 Q 52 [x0, x1, x2, x3, x4] (va_rf (mh_r h o 3) :: st) h) := (mw_at mj_152_49).trans (z_getr (by decide) (by decide) rfl)
theorem mj_152_52 : mc_P 152 52 = some (.iload 4, 2, 0, 0, 0) := by decide +kernel
theorem s_152_52 {x0 x1 x2 x3 : Option Value} {w : Value} : mw d 152 Q 52 [x0, x1, x2, x3, some w] (st) h = mv_i w (mw d 152 Q 54 [x0, x1, x2, x3, some w] (w :: st) h) := (mw_at mj_152_52).trans (z_iload rfl)
theorem mj_152_54 : mc_P 152 54 = some (.iload_n 3, 1, 0, 0, 0) := by decide +kernel
theorem s_152_54 {x0 x1 x2 x4 : Option Value} {w : Value} : mw d 152 Q 54 [x0, x1, x2, some w, x4] (st) h = mv_i w (mw d 152 Q 55 [x0, x1, x2, some w, x4] (w :: st) h) := (mw_at mj_152_54).trans (z_iload_n rfl)
theorem mj_152_55 : mc_P 152 55 = some (.invokestatic 73, 3, 141, 0, 1) := by decide +kernel
theorem s_152_55 {x0 x1 x2 x3 x4 : Option Value} {a0 : Value} : mw (d + 1) 152 Q 55 [x0, x1, x2, x3, x4] (a0 :: st) h = (mca st 8 ∧ mca [a0] 1 ∧ mcall d 141 [a0] h (mK (d + 1) 152 Q 58 [x0, x1, x2, x3, x4] st)) := (mw_at mj_152_55).trans ((z_invs (As := [a0]) rfl rfl).trans (congrArg (And _) (mC_nl nl_141)))
theorem mj_152_58 : mc_P 152 58 = some (.iload_n 2, 1, 0, 0, 0) := by decide +kernel
theorem s_152_58 {x0 x1 x3 x4 : Option Value} {w : Value} : mw d 152 Q 58 [x0, x1, some w, x3, x4] (st) h = mv_i w (mw d 152 Q 59 [x0, x1, some w, x3, x4] (w :: st) h) := (mw_at mj_152_58).trans (z_iload_n rfl)
theorem mj_152_59 : mc_P 152 59 = some (.iconst 1, 1, 0, 0, 0) := by decide +kernel
theorem s_152_59 {x0 x1 x2 x3 x4 : Option Value} : mw d 152 Q 59 [x0, x1, x2, x3, x4] (st) h = mw d 152 Q 60 [x0, x1, x2, x3, x4] (.int 1 :: st) h := (mw_at mj_152_59).trans (z_iconst (by decide))
theorem mj_152_60 : mc_P 152 60 = some (.ixor, 1, 0, 0, 0) := by decide +kernel
theorem s_152_60 {x0 x1 x2 x3 x4 : Option Value} {x w : Int32} : mw d 152 Q 60 [x0, x1, x2, x3, x4] (.int w :: .int x :: st) h = mw d 152 Q 61 [x0, x1, x2, x3, x4] (.int (x ^^^ w) :: st) h := (mw_at mj_152_60).trans (z_ixor)
theorem mj_152_61 : mc_P 152 61 = some (.invokestatic 73, 3, 141, 0, 1) := by decide +kernel
theorem s_152_61 {x0 x1 x2 x3 x4 : Option Value} {a0 : Value} : mw (d + 1) 152 Q 61 [x0, x1, x2, x3, x4] (a0 :: st) h = (mca st 8 ∧ mca [a0] 1 ∧ mcall d 141 [a0] h (mK (d + 1) 152 Q 64 [x0, x1, x2, x3, x4] st)) := (mw_at mj_152_61).trans ((z_invs (As := [a0]) rfl rfl).trans (congrArg (And _) (mC_nl nl_141)))
theorem mj_152_64 : mc_P 152 64 = some (.ladd, 1, 0, 0, 0) := by decide +kernel
theorem s_152_64 {x0 x1 x2 x3 x4 : Option Value} {x w : Int64} : mw d 152 Q 64 [x0, x1, x2, x3, x4] (.long w :: .long x :: st) h = mw d 152 Q 65 [x0, x1, x2, x3, x4] (.long (x + w) :: st) h := (mw_at mj_152_64).trans (z_ladd)
theorem mj_152_65 : mc_P 152 65 = some (.lastore, 1, 0, 0, 0) := by decide +kernel
theorem s_152_65 {x0 x1 x2 x3 x4 : Option Value} {o : Nat} {i : Int32} {w : Int64} : mw d 152 Q 65 [x0, x1, x2, x3, x4] (.long w :: .int i :: .ref o :: st) h = (mg h o 101 ∧ mx i (mh_l h o) ∧ mw d 152 Q 66 [x0, x1, x2, x3, x4] (st) (mh_sj h o i.toNatClampNeg w)) := (mw_at mj_152_65).trans (z_last)
theorem mj_152_66 : mc_P 152 66 = some (.iinc 3 1, 3, 0, 0, 0) := by decide +kernel
theorem s_152_66 {x0 x1 x2 x4 : Option Value} {w : Int32} : mw d 152 Q 66 [x0, x1, x2, some (.int w), x4] (st) h = mw d 152 Q 69 [x0, x1, mk2 x2, some (.int (w + 1)), x4] (st) h := (mw_at mj_152_66).trans (z_iinc rfl (Nat.le_of_ble_eq_true rfl) (by decide) (me_s1_mk (j := 2) (w := x2) rfl))
theorem mj_152_69 : mc_P 152 69 = some (.goto (-55), 3, 0, 0, 0) := by decide +kernel
theorem s_152_69 {x0 x1 x2 x3 x4 : Option Value} : mw d 152 Q 69 [x0, x1, x2, x3, x4] (st) h = mw d 152 Q 14 [x0, x1, x2, x3, x4] (st) h := (mw_at mj_152_69).trans (z_goto (by decide))
theorem mj_152_72 : mc_P 152 72 = some (.iinc 2 1, 3, 0, 0, 0) := by decide +kernel
theorem s_152_72 {x0 x1 x3 x4 : Option Value} {w : Int32} : mw d 152 Q 72 [x0, x1, some (.int w), x3, x4] (st) h = mw d 152 Q 75 [x0, mk2 x1, some (.int (w + 1)), x3, x4] (st) h := (mw_at mj_152_72).trans (z_iinc rfl (Nat.le_of_ble_eq_true rfl) (by decide) (me_s1_mk (j := 1) (w := x1) rfl))
theorem mj_152_75 : mc_P 152 75 = some (.goto (-73), 3, 0, 0, 0) := by decide +kernel
theorem s_152_75 {x0 x1 x2 x3 x4 : Option Value} : mw d 152 Q 75 [x0, x1, x2, x3, x4] (st) h = mw d 152 Q 2 [x0, x1, x2, x3, x4] (st) h := (mw_at mj_152_75).trans (z_goto (by decide))
theorem mj_152_78 : mc_P 152 78 = some (.iconst 0, 1, 0, 0, 0) := by decide +kernel
theorem s_152_78 {x0 x1 x2 x3 x4 : Option Value} : mw d 152 Q 78 [x0, x1, x2, x3, x4] (st) h = mw d 152 Q 79 [x0, x1, x2, x3, x4] (.int 0 :: st) h := (mw_at mj_152_78).trans (z_iconst (by decide))
theorem mj_152_79 : mc_P 152 79 = some (.istore_n 2, 1, 0, 0, 0) := by decide +kernel
theorem s_152_79 {x0 x1 x2 x3 x4 : Option Value} {w : Int32} : mw d 152 Q 79 [x0, x1, x2, x3, x4] (.int w :: st) h = mw d 152 Q 80 [x0, mk2 x1, some (.int w), x3, x4] (st) h := (mw_at mj_152_79).trans (z_istore_n (Nat.le_of_ble_eq_true rfl) (me_s1_mk (j := 1) (w := x1) rfl))
theorem mj_152_80 : mc_P 152 80 = some (.iload_n 2, 1, 0, 0, 0) := by decide +kernel
theorem s_152_80 {x0 x1 x3 x4 : Option Value} {w : Value} : mw d 152 Q 80 [x0, x1, some w, x3, x4] (st) h = mv_i w (mw d 152 Q 81 [x0, x1, some w, x3, x4] (w :: st) h) := (mw_at mj_152_80).trans (z_iload_n rfl)
theorem mj_152_81 : mc_P 152 81 = some (.aload_n 0, 1, 0, 0, 0) := by decide +kernel
theorem s_152_81 {x1 x2 x3 x4 : Option Value} {w : Value} : mw d 152 Q 81 [some w, x1, x2, x3, x4] (st) h = mv_a w (mw d 152 Q 82 [some w, x1, x2, x3, x4] (w :: st) h) := (mw_at mj_152_81).trans (z_aload_n rfl)
theorem mj_152_82 : mc_P 152 82 = some (.getfield 34, 3, 8, 2, 0) := by decide +kernel
theorem s_152_82 {x0 x1 x2 x3 x4 : Option Value} {o : Nat} : mw d 152 Q 82 [x0, x1, x2, x3, x4] (.ref o :: st) h = (mg h o 8 ∧ mw d 152 Q 85 [x0, x1, x2, x3, x4] (.int (mh_i h o 2) :: st) h) := (mw_at mj_152_82).trans (z_geti (by decide) (by decide) (Or.inl rfl))
theorem mj_152_85 : mc_P 152 85 = some (.if_icmp .ge 77, 3, 0, 0, 0) := by decide +kernel
theorem s_152_85 {x0 x1 x2 x3 x4 : Option Value} {x w : Int32} : mw d 152 Q 85 [x0, x1, x2, x3, x4] (.int w :: .int x :: st) h = mB (w ≤ x) (mw d 152 Q) 162 88 [x0, x1, x2, x3, x4] st h := (mw_at mj_152_85).trans (z_icmp_ge (by decide) rfl)
theorem mj_152_88 : mc_P 152 88 = some (.aload_n 0, 1, 0, 0, 0) := by decide +kernel
theorem s_152_88 {x1 x2 x3 x4 : Option Value} {w : Value} : mw d 152 Q 88 [some w, x1, x2, x3, x4] (st) h = mv_a w (mw d 152 Q 89 [some w, x1, x2, x3, x4] (w :: st) h) := (mw_at mj_152_88).trans (z_aload_n rfl)
theorem mj_152_89 : mc_P 152 89 = some (.getfield 15, 3, 8, 4, 0) := by decide +kernel
theorem s_152_89 {x0 x1 x2 x3 x4 : Option Value} {o : Nat} : mw d 152 Q 89 [x0, x1, x2, x3, x4] (.ref o :: st) h = (mg h o 8 ∧ mw d 152 Q 92 [x0, x1, x2, x3, x4] (va_rf (mh_r h o 4) :: st) h) := (mw_at mj_152_89).trans (z_getr (by decide) (by decide) rfl)
theorem mj_152_92 : mc_P 152 92 = some (.iconst 2, 1, 0, 0, 0) := by decide +kernel
theorem s_152_92 {x0 x1 x2 x3 x4 : Option Value} : mw d 152 Q 92 [x0, x1, x2, x3, x4] (st) h = mw d 152 Q 93 [x0, x1, x2, x3, x4] (.int 2 :: st) h := (mw_at mj_152_92).trans (z_iconst (by decide))
theorem mj_152_93 : mc_P 152 93 = some (.iload_n 2, 1, 0, 0, 0) := by decide +kernel
theorem s_152_93 {x0 x1 x3 x4 : Option Value} {w : Value} : mw d 152 Q 93 [x0, x1, some w, x3, x4] (st) h = mv_i w (mw d 152 Q 94 [x0, x1, some w, x3, x4] (w :: st) h) := (mw_at mj_152_93).trans (z_iload_n rfl)
theorem mj_152_94 : mc_P 152 94 = some (.imul, 1, 0, 0, 0) := by decide +kernel
theorem s_152_94 {x0 x1 x2 x3 x4 : Option Value} {x w : Int32} : mw d 152 Q 94 [x0, x1, x2, x3, x4] (.int w :: .int x :: st) h = mw d 152 Q 95 [x0, x1, x2, x3, x4] (.int (x * w) :: st) h := (mw_at mj_152_94).trans (z_imul)
theorem mj_152_95 : mc_P 152 95 = some (.laload, 1, 0, 0, 0) := by decide +kernel
theorem s_152_95 {x0 x1 x2 x3 x4 : Option Value} {o : Nat} {i : Int32} : mw d 152 Q 95 [x0, x1, x2, x3, x4] (.int i :: .ref o :: st) h = (mg h o 101 ∧ mx i (mh_l h o) ∧ mw d 152 Q 96 [x0, x1, x2, x3, x4] (.long (mh_j h o i.toNatClampNeg) :: st) h) := (mw_at mj_152_95).trans (z_lald)
theorem mj_152_96 : mc_P 152 96 = some (.aload_n 1, 1, 0, 0, 0) := by decide +kernel
theorem s_152_96 {x0 x2 x3 x4 : Option Value} {w : Value} : mw d 152 Q 96 [x0, some w, x2, x3, x4] (st) h = mv_a w (mw d 152 Q 97 [x0, some w, x2, x3, x4] (w :: st) h) := (mw_at mj_152_96).trans (z_aload_n rfl)
theorem mj_152_97 : mc_P 152 97 = some (.getfield 15, 3, 8, 4, 0) := by decide +kernel
theorem s_152_97 {x0 x1 x2 x3 x4 : Option Value} {o : Nat} : mw d 152 Q 97 [x0, x1, x2, x3, x4] (.ref o :: st) h = (mg h o 8 ∧ mw d 152 Q 100 [x0, x1, x2, x3, x4] (va_rf (mh_r h o 4) :: st) h) := (mw_at mj_152_97).trans (z_getr (by decide) (by decide) rfl)
theorem mj_152_100 : mc_P 152 100 = some (.iconst 2, 1, 0, 0, 0) := by decide +kernel
theorem s_152_100 {x0 x1 x2 x3 x4 : Option Value} : mw d 152 Q 100 [x0, x1, x2, x3, x4] (st) h = mw d 152 Q 101 [x0, x1, x2, x3, x4] (.int 2 :: st) h := (mw_at mj_152_100).trans (z_iconst (by decide))
theorem mj_152_101 : mc_P 152 101 = some (.iload_n 2, 1, 0, 0, 0) := by decide +kernel
theorem s_152_101 {x0 x1 x3 x4 : Option Value} {w : Value} : mw d 152 Q 101 [x0, x1, some w, x3, x4] (st) h = mv_i w (mw d 152 Q 102 [x0, x1, some w, x3, x4] (w :: st) h) := (mw_at mj_152_101).trans (z_iload_n rfl)
theorem mj_152_102 : mc_P 152 102 = some (.imul, 1, 0, 0, 0) := by decide +kernel
theorem s_152_102 {x0 x1 x2 x3 x4 : Option Value} {x w : Int32} : mw d 152 Q 102 [x0, x1, x2, x3, x4] (.int w :: .int x :: st) h = mw d 152 Q 103 [x0, x1, x2, x3, x4] (.int (x * w) :: st) h := (mw_at mj_152_102).trans (z_imul)
theorem mj_152_103 : mc_P 152 103 = some (.laload, 1, 0, 0, 0) := by decide +kernel
theorem s_152_103 {x0 x1 x2 x3 x4 : Option Value} {o : Nat} {i : Int32} : mw d 152 Q 103 [x0, x1, x2, x3, x4] (.int i :: .ref o :: st) h = (mg h o 101 ∧ mx i (mh_l h o) ∧ mw d 152 Q 104 [x0, x1, x2, x3, x4] (.long (mh_j h o i.toNatClampNeg) :: st) h) := (mw_at mj_152_103).trans (z_lald)
theorem mj_152_104 : mc_P 152 104 = some (.lcmp, 1, 0, 0, 0) := by decide +kernel
theorem s_152_104 {x0 x1 x2 x3 x4 : Option Value} {x w : Int64} : mw d 152 Q 104 [x0, x1, x2, x3, x4] (.long w :: .long x :: st) h = mw d 152 Q 105 [x0, x1, x2, x3, x4] (.int (lg_cmp x w) :: st) h := (mw_at mj_152_104).trans (z_lcmp)
theorem mj_152_105 : mc_P 152 105 = some (.ifCond .le 14, 3, 0, 0, 0) := by decide +kernel
theorem s_152_105 {x0 x1 x2 x3 x4 : Option Value} {x : Int32} : mw d 152 Q 105 [x0, x1, x2, x3, x4] (.int x :: st) h = mB (x ≤ 0) (mw d 152 Q) 119 108 [x0, x1, x2, x3, x4] st h := (mw_at mj_152_105).trans (z_if_le (by decide) rfl)
theorem mj_152_108 : mc_P 152 108 = some (.aload_n 0, 1, 0, 0, 0) := by decide +kernel
theorem s_152_108 {x1 x2 x3 x4 : Option Value} {w : Value} : mw d 152 Q 108 [some w, x1, x2, x3, x4] (st) h = mv_a w (mw d 152 Q 109 [some w, x1, x2, x3, x4] (w :: st) h) := (mw_at mj_152_108).trans (z_aload_n rfl)
theorem mj_152_109 : mc_P 152 109 = some (.getfield 15, 3, 8, 4, 0) := by decide +kernel
theorem s_152_109 {x0 x1 x2 x3 x4 : Option Value} {o : Nat} : mw d 152 Q 109 [x0, x1, x2, x3, x4] (.ref o :: st) h = (mg h o 8 ∧ mw d 152 Q 112 [x0, x1, x2, x3, x4] (va_rf (mh_r h o 4) :: st) h) := (mw_at mj_152_109).trans (z_getr (by decide) (by decide) rfl)
theorem mj_152_112 : mc_P 152 112 = some (.iconst 2, 1, 0, 0, 0) := by decide +kernel
theorem s_152_112 {x0 x1 x2 x3 x4 : Option Value} : mw d 152 Q 112 [x0, x1, x2, x3, x4] (st) h = mw d 152 Q 113 [x0, x1, x2, x3, x4] (.int 2 :: st) h := (mw_at mj_152_112).trans (z_iconst (by decide))
theorem mj_152_113 : mc_P 152 113 = some (.iload_n 2, 1, 0, 0, 0) := by decide +kernel
theorem s_152_113 {x0 x1 x3 x4 : Option Value} {w : Value} : mw d 152 Q 113 [x0, x1, some w, x3, x4] (st) h = mv_i w (mw d 152 Q 114 [x0, x1, some w, x3, x4] (w :: st) h) := (mw_at mj_152_113).trans (z_iload_n rfl)
theorem mj_152_114 : mc_P 152 114 = some (.imul, 1, 0, 0, 0) := by decide +kernel
theorem s_152_114 {x0 x1 x2 x3 x4 : Option Value} {x w : Int32} : mw d 152 Q 114 [x0, x1, x2, x3, x4] (.int w :: .int x :: st) h = mw d 152 Q 115 [x0, x1, x2, x3, x4] (.int (x * w) :: st) h := (mw_at mj_152_114).trans (z_imul)
theorem mj_152_115 : mc_P 152 115 = some (.ldc2_w 77, 3, 0, 0, (-2147483648)) := by decide +kernel
theorem s_152_115 {x0 x1 x2 x3 x4 : Option Value} : mw d 152 Q 115 [x0, x1, x2, x3, x4] (st) h = mw d 152 Q 118 [x0, x1, x2, x3, x4] (.long (-2147483648) :: st) h := (mw_at mj_152_115).trans (z_ldc2 (by decide))
theorem mj_152_118 : mc_P 152 118 = some (.lastore, 1, 0, 0, 0) := by decide +kernel
theorem s_152_118 {x0 x1 x2 x3 x4 : Option Value} {o : Nat} {i : Int32} {w : Int64} : mw d 152 Q 118 [x0, x1, x2, x3, x4] (.long w :: .int i :: .ref o :: st) h = (mg h o 101 ∧ mx i (mh_l h o) ∧ mw d 152 Q 119 [x0, x1, x2, x3, x4] (st) (mh_sj h o i.toNatClampNeg w)) := (mw_at mj_152_118).trans (z_last)
theorem mj_152_119 : mc_P 152 119 = some (.aload_n 0, 1, 0, 0, 0) := by decide +kernel
theorem s_152_119 {x1 x2 x3 x4 : Option Value} {w : Value} : mw d 152 Q 119 [some w, x1, x2, x3, x4] (st) h = mv_a w (mw d 152 Q 120 [some w, x1, x2, x3, x4] (w :: st) h) := (mw_at mj_152_119).trans (z_aload_n rfl)
theorem mj_152_120 : mc_P 152 120 = some (.getfield 15, 3, 8, 4, 0) := by decide +kernel
theorem s_152_120 {x0 x1 x2 x3 x4 : Option Value} {o : Nat} : mw d 152 Q 120 [x0, x1, x2, x3, x4] (.ref o :: st) h = (mg h o 8 ∧ mw d 152 Q 123 [x0, x1, x2, x3, x4] (va_rf (mh_r h o 4) :: st) h) := (mw_at mj_152_120).trans (z_getr (by decide) (by decide) rfl)
theorem mj_152_123 : mc_P 152 123 = some (.iconst 2, 1, 0, 0, 0) := by decide +kernel
theorem s_152_123 {x0 x1 x2 x3 x4 : Option Value} : mw d 152 Q 123 [x0, x1, x2, x3, x4] (st) h = mw d 152 Q 124 [x0, x1, x2, x3, x4] (.int 2 :: st) h := (mw_at mj_152_123).trans (z_iconst (by decide))
theorem mj_152_124 : mc_P 152 124 = some (.iload_n 2, 1, 0, 0, 0) := by decide +kernel
theorem s_152_124 {x0 x1 x3 x4 : Option Value} {w : Value} : mw d 152 Q 124 [x0, x1, some w, x3, x4] (st) h = mv_i w (mw d 152 Q 125 [x0, x1, some w, x3, x4] (w :: st) h) := (mw_at mj_152_124).trans (z_iload_n rfl)
theorem mj_152_125 : mc_P 152 125 = some (.imul, 1, 0, 0, 0) := by decide +kernel
theorem s_152_125 {x0 x1 x2 x3 x4 : Option Value} {x w : Int32} : mw d 152 Q 125 [x0, x1, x2, x3, x4] (.int w :: .int x :: st) h = mw d 152 Q 126 [x0, x1, x2, x3, x4] (.int (x * w) :: st) h := (mw_at mj_152_125).trans (z_imul)
theorem mj_152_126 : mc_P 152 126 = some (.iconst 1, 1, 0, 0, 0) := by decide +kernel
theorem s_152_126 {x0 x1 x2 x3 x4 : Option Value} : mw d 152 Q 126 [x0, x1, x2, x3, x4] (st) h = mw d 152 Q 127 [x0, x1, x2, x3, x4] (.int 1 :: st) h := (mw_at mj_152_126).trans (z_iconst (by decide))
theorem mj_152_127 : mc_P 152 127 = some (.iadd, 1, 0, 0, 0) := by decide +kernel
theorem s_152_127 {x0 x1 x2 x3 x4 : Option Value} {x w : Int32} : mw d 152 Q 127 [x0, x1, x2, x3, x4] (.int w :: .int x :: st) h = mw d 152 Q 128 [x0, x1, x2, x3, x4] (.int (x + w) :: st) h := (mw_at mj_152_127).trans (z_iadd)
theorem mj_152_128 : mc_P 152 128 = some (.laload, 1, 0, 0, 0) := by decide +kernel
theorem s_152_128 {x0 x1 x2 x3 x4 : Option Value} {o : Nat} {i : Int32} : mw d 152 Q 128 [x0, x1, x2, x3, x4] (.int i :: .ref o :: st) h = (mg h o 101 ∧ mx i (mh_l h o) ∧ mw d 152 Q 129 [x0, x1, x2, x3, x4] (.long (mh_j h o i.toNatClampNeg) :: st) h) := (mw_at mj_152_128).trans (z_lald)
theorem mj_152_129 : mc_P 152 129 = some (.aload_n 1, 1, 0, 0, 0) := by decide +kernel
theorem s_152_129 {x0 x2 x3 x4 : Option Value} {w : Value} : mw d 152 Q 129 [x0, some w, x2, x3, x4] (st) h = mv_a w (mw d 152 Q 130 [x0, some w, x2, x3, x4] (w :: st) h) := (mw_at mj_152_129).trans (z_aload_n rfl)
theorem mj_152_130 : mc_P 152 130 = some (.getfield 15, 3, 8, 4, 0) := by decide +kernel
theorem s_152_130 {x0 x1 x2 x3 x4 : Option Value} {o : Nat} : mw d 152 Q 130 [x0, x1, x2, x3, x4] (.ref o :: st) h = (mg h o 8 ∧ mw d 152 Q 133 [x0, x1, x2, x3, x4] (va_rf (mh_r h o 4) :: st) h) := (mw_at mj_152_130).trans (z_getr (by decide) (by decide) rfl)
theorem mj_152_133 : mc_P 152 133 = some (.iconst 2, 1, 0, 0, 0) := by decide +kernel
theorem s_152_133 {x0 x1 x2 x3 x4 : Option Value} : mw d 152 Q 133 [x0, x1, x2, x3, x4] (st) h = mw d 152 Q 134 [x0, x1, x2, x3, x4] (.int 2 :: st) h := (mw_at mj_152_133).trans (z_iconst (by decide))
theorem mj_152_134 : mc_P 152 134 = some (.iload_n 2, 1, 0, 0, 0) := by decide +kernel
theorem s_152_134 {x0 x1 x3 x4 : Option Value} {w : Value} : mw d 152 Q 134 [x0, x1, some w, x3, x4] (st) h = mv_i w (mw d 152 Q 135 [x0, x1, some w, x3, x4] (w :: st) h) := (mw_at mj_152_134).trans (z_iload_n rfl)
theorem mj_152_135 : mc_P 152 135 = some (.imul, 1, 0, 0, 0) := by decide +kernel
theorem s_152_135 {x0 x1 x2 x3 x4 : Option Value} {x w : Int32} : mw d 152 Q 135 [x0, x1, x2, x3, x4] (.int w :: .int x :: st) h = mw d 152 Q 136 [x0, x1, x2, x3, x4] (.int (x * w) :: st) h := (mw_at mj_152_135).trans (z_imul)
theorem mj_152_136 : mc_P 152 136 = some (.iconst 1, 1, 0, 0, 0) := by decide +kernel
theorem s_152_136 {x0 x1 x2 x3 x4 : Option Value} : mw d 152 Q 136 [x0, x1, x2, x3, x4] (st) h = mw d 152 Q 137 [x0, x1, x2, x3, x4] (.int 1 :: st) h := (mw_at mj_152_136).trans (z_iconst (by decide))
theorem mj_152_137 : mc_P 152 137 = some (.iadd, 1, 0, 0, 0) := by decide +kernel
theorem s_152_137 {x0 x1 x2 x3 x4 : Option Value} {x w : Int32} : mw d 152 Q 137 [x0, x1, x2, x3, x4] (.int w :: .int x :: st) h = mw d 152 Q 138 [x0, x1, x2, x3, x4] (.int (x + w) :: st) h := (mw_at mj_152_137).trans (z_iadd)
theorem mj_152_138 : mc_P 152 138 = some (.laload, 1, 0, 0, 0) := by decide +kernel
theorem s_152_138 {x0 x1 x2 x3 x4 : Option Value} {o : Nat} {i : Int32} : mw d 152 Q 138 [x0, x1, x2, x3, x4] (.int i :: .ref o :: st) h = (mg h o 101 ∧ mx i (mh_l h o) ∧ mw d 152 Q 139 [x0, x1, x2, x3, x4] (.long (mh_j h o i.toNatClampNeg) :: st) h) := (mw_at mj_152_138).trans (z_lald)
theorem mj_152_139 : mc_P 152 139 = some (.lcmp, 1, 0, 0, 0) := by decide +kernel
theorem s_152_139 {x0 x1 x2 x3 x4 : Option Value} {x w : Int64} : mw d 152 Q 139 [x0, x1, x2, x3, x4] (.long w :: .long x :: st) h = mw d 152 Q 140 [x0, x1, x2, x3, x4] (.int (lg_cmp x w) :: st) h := (mw_at mj_152_139).trans (z_lcmp)
theorem mj_152_140 : mc_P 152 140 = some (.ifCond .ge 16, 3, 0, 0, 0) := by decide +kernel
theorem s_152_140 {x0 x1 x2 x3 x4 : Option Value} {x : Int32} : mw d 152 Q 140 [x0, x1, x2, x3, x4] (.int x :: st) h = mB (0 ≤ x) (mw d 152 Q) 156 143 [x0, x1, x2, x3, x4] st h := (mw_at mj_152_140).trans (z_if_ge (by decide) rfl)
theorem mj_152_143 : mc_P 152 143 = some (.aload_n 0, 1, 0, 0, 0) := by decide +kernel
theorem s_152_143 {x1 x2 x3 x4 : Option Value} {w : Value} : mw d 152 Q 143 [some w, x1, x2, x3, x4] (st) h = mv_a w (mw d 152 Q 144 [some w, x1, x2, x3, x4] (w :: st) h) := (mw_at mj_152_143).trans (z_aload_n rfl)
theorem mj_152_144 : mc_P 152 144 = some (.getfield 15, 3, 8, 4, 0) := by decide +kernel
theorem s_152_144 {x0 x1 x2 x3 x4 : Option Value} {o : Nat} : mw d 152 Q 144 [x0, x1, x2, x3, x4] (.ref o :: st) h = (mg h o 8 ∧ mw d 152 Q 147 [x0, x1, x2, x3, x4] (va_rf (mh_r h o 4) :: st) h) := (mw_at mj_152_144).trans (z_getr (by decide) (by decide) rfl)
theorem mj_152_147 : mc_P 152 147 = some (.iconst 2, 1, 0, 0, 0) := by decide +kernel
theorem s_152_147 {x0 x1 x2 x3 x4 : Option Value} : mw d 152 Q 147 [x0, x1, x2, x3, x4] (st) h = mw d 152 Q 148 [x0, x1, x2, x3, x4] (.int 2 :: st) h := (mw_at mj_152_147).trans (z_iconst (by decide))
theorem mj_152_148 : mc_P 152 148 = some (.iload_n 2, 1, 0, 0, 0) := by decide +kernel
theorem s_152_148 {x0 x1 x3 x4 : Option Value} {w : Value} : mw d 152 Q 148 [x0, x1, some w, x3, x4] (st) h = mv_i w (mw d 152 Q 149 [x0, x1, some w, x3, x4] (w :: st) h) := (mw_at mj_152_148).trans (z_iload_n rfl)
theorem mj_152_149 : mc_P 152 149 = some (.imul, 1, 0, 0, 0) := by decide +kernel
theorem s_152_149 {x0 x1 x2 x3 x4 : Option Value} {x w : Int32} : mw d 152 Q 149 [x0, x1, x2, x3, x4] (.int w :: .int x :: st) h = mw d 152 Q 150 [x0, x1, x2, x3, x4] (.int (x * w) :: st) h := (mw_at mj_152_149).trans (z_imul)
theorem mj_152_150 : mc_P 152 150 = some (.iconst 1, 1, 0, 0, 0) := by decide +kernel
theorem s_152_150 {x0 x1 x2 x3 x4 : Option Value} : mw d 152 Q 150 [x0, x1, x2, x3, x4] (st) h = mw d 152 Q 151 [x0, x1, x2, x3, x4] (.int 1 :: st) h := (mw_at mj_152_150).trans (z_iconst (by decide))
theorem mj_152_151 : mc_P 152 151 = some (.iadd, 1, 0, 0, 0) := by decide +kernel
theorem s_152_151 {x0 x1 x2 x3 x4 : Option Value} {x w : Int32} : mw d 152 Q 151 [x0, x1, x2, x3, x4] (.int w :: .int x :: st) h = mw d 152 Q 152 [x0, x1, x2, x3, x4] (.int (x + w) :: st) h := (mw_at mj_152_151).trans (z_iadd)
theorem mj_152_152 : mc_P 152 152 = some (.ldc2_w 22, 3, 0, 0, 2147483647) := by decide +kernel
theorem s_152_152 {x0 x1 x2 x3 x4 : Option Value} : mw d 152 Q 152 [x0, x1, x2, x3, x4] (st) h = mw d 152 Q 155 [x0, x1, x2, x3, x4] (.long 2147483647 :: st) h := (mw_at mj_152_152).trans (z_ldc2 (by decide))
theorem mj_152_155 : mc_P 152 155 = some (.lastore, 1, 0, 0, 0) := by decide +kernel
theorem s_152_155 {x0 x1 x2 x3 x4 : Option Value} {o : Nat} {i : Int32} {w : Int64} : mw d 152 Q 155 [x0, x1, x2, x3, x4] (.long w :: .int i :: .ref o :: st) h = (mg h o 101 ∧ mx i (mh_l h o) ∧ mw d 152 Q 156 [x0, x1, x2, x3, x4] (st) (mh_sj h o i.toNatClampNeg w)) := (mw_at mj_152_155).trans (z_last)
theorem mj_152_156 : mc_P 152 156 = some (.iinc 2 1, 3, 0, 0, 0) := by decide +kernel
theorem s_152_156 {x0 x1 x3 x4 : Option Value} {w : Int32} : mw d 152 Q 156 [x0, x1, some (.int w), x3, x4] (st) h = mw d 152 Q 159 [x0, mk2 x1, some (.int (w + 1)), x3, x4] (st) h := (mw_at mj_152_156).trans (z_iinc rfl (Nat.le_of_ble_eq_true rfl) (by decide) (me_s1_mk (j := 1) (w := x1) rfl))
theorem mj_152_159 : mc_P 152 159 = some (.goto (-79), 3, 0, 0, 0) := by decide +kernel
theorem s_152_159 {x0 x1 x2 x3 x4 : Option Value} : mw d 152 Q 159 [x0, x1, x2, x3, x4] (st) h = mw d 152 Q 80 [x0, x1, x2, x3, x4] (st) h := (mw_at mj_152_159).trans (z_goto (by decide))
theorem mj_152_162 : mc_P 152 162 = some (.return_, 1, 0, 0, 0) := by decide +kernel
theorem s_152_162 {x0 x1 x2 x3 x4 : Option Value} : mw d 152 Q 162 [x0, x1, x2, x3, x4] ([]) h = Q none h := (mw_at mj_152_162).trans (z_vret)
theorem e_152 {a0 : Nat} {a1 : Nat} : mcall d 152 [.ref a0, .ref a1] h Q = mw d 152 Q 0 [some (.ref a0), some (.ref a1), none, none, none] [] h := by
  show mw d 152 Q 0 (me_en (mc_nl 152) _) [] h = _
  rw [nl_152]; rfl

/-! InvariantDesk$State.addNumber()V -/
theorem mj_153_0 : mc_P 153 0 = some (.aload_n 0, 1, 0, 0, 0) := by decide +kernel
theorem s_153_0 {w : Value} : mw d 153 Q 0 [some w] (st) h = mv_a w (mw d 153 Q 1 [some w] (w :: st) h) := (mw_at mj_153_0).trans (z_aload_n rfl)
theorem mj_153_1 : mc_P 153 1 = some (.dup, 1, 0, 0, 0) := by decide +kernel
theorem s_153_1 {x0 : Option Value} {w : Value} : mw d 153 Q 1 [x0] (w :: st) h = (w.category = 1 ∧ mw d 153 Q 2 [x0] (w :: w :: st) h) := (mw_at mj_153_1).trans (z_dup)
theorem mj_153_2 : mc_P 153 2 = some (.getfield 26, 3, 8, 1, 0) := by decide +kernel
theorem s_153_2 {x0 : Option Value} {o : Nat} : mw d 153 Q 2 [x0] (.ref o :: st) h = (mg h o 8 ∧ mw d 153 Q 5 [x0] (.int (mh_i h o 1) :: st) h) := (mw_at mj_153_2).trans (z_geti (by decide) (by decide) (Or.inl rfl))
theorem mj_153_5 : mc_P 153 5 = some (.iconst 1, 1, 0, 0, 0) := by decide +kernel
theorem s_153_5 {x0 : Option Value} : mw d 153 Q 5 [x0] (st) h = mw d 153 Q 6 [x0] (.int 1 :: st) h := (mw_at mj_153_5).trans (z_iconst (by decide))
theorem mj_153_6 : mc_P 153 6 = some (.iadd, 1, 0, 0, 0) := by decide +kernel
theorem s_153_6 {x0 : Option Value} {x w : Int32} : mw d 153 Q 6 [x0] (.int w :: .int x :: st) h = mw d 153 Q 7 [x0] (.int (x + w) :: st) h := (mw_at mj_153_6).trans (z_iadd)
theorem mj_153_7 : mc_P 153 7 = some (.putfield 26, 3, 8, 1, 0) := by decide +kernel
theorem s_153_7 {x0 : Option Value} {o : Nat} {w : Int32} : mw d 153 Q 7 [x0] (.int w :: .ref o :: st) h = (mg h o 8 ∧ mw d 153 Q 10 [x0] (st) (mh_si h o 1 w)) := (mw_at mj_153_7).trans (z_puti (by decide) (by decide) rfl)
theorem mj_153_10 : mc_P 153 10 = some (.aload_n 0, 1, 0, 0, 0) := by decide +kernel
theorem s_153_10 {w : Value} : mw d 153 Q 10 [some w] (st) h = mv_a w (mw d 153 Q 11 [some w] (w :: st) h) := (mw_at mj_153_10).trans (z_aload_n rfl)
theorem mj_153_11 : mc_P 153 11 = some (.aload_n 0, 1, 0, 0, 0) := by decide +kernel
theorem s_153_11 {w : Value} : mw d 153 Q 11 [some w] (st) h = mv_a w (mw d 153 Q 12 [some w] (w :: st) h) := (mw_at mj_153_11).trans (z_aload_n rfl)
theorem mj_153_12 : mc_P 153 12 = some (.getfield 26, 3, 8, 1, 0) := by decide +kernel
theorem s_153_12 {x0 : Option Value} {o : Nat} : mw d 153 Q 12 [x0] (.ref o :: st) h = (mg h o 8 ∧ mw d 153 Q 15 [x0] (.int (mh_i h o 1) :: st) h) := (mw_at mj_153_12).trans (z_geti (by decide) (by decide) (Or.inl rfl))
theorem mj_153_15 : mc_P 153 15 = some (.iconst 1, 1, 0, 0, 0) := by decide +kernel
theorem s_153_15 {x0 : Option Value} : mw d 153 Q 15 [x0] (st) h = mw d 153 Q 16 [x0] (.int 1 :: st) h := (mw_at mj_153_15).trans (z_iconst (by decide))
theorem mj_153_16 : mc_P 153 16 = some (.isub, 1, 0, 0, 0) := by decide +kernel
theorem s_153_16 {x0 : Option Value} {x w : Int32} : mw d 153 Q 16 [x0] (.int w :: .int x :: st) h = mw d 153 Q 17 [x0] (.int (x - w) :: st) h := (mw_at mj_153_16).trans (z_isub)
theorem mj_153_17 : mc_P 153 17 = some (.invokevirtual 79, 3, 155, 8, 2) := by decide +kernel
theorem s_153_17 {x0 : Option Value} {o : Nat} {a1 : Value} : mw (d + 1) 153 Q 17 [x0] (a1 :: .ref o :: st) h = (mg h o 8 ∧ mca st 8 ∧ mca [.ref o, a1] 4 ∧ mcall d 155 [.ref o, a1] h (mK (d + 1) 153 Q 20 [x0] st)) := (mw_at mj_153_17).trans ((z_invv (As := [a1]) (by decide) rfl rfl).trans (congrArg (And _) (congrArg (And _) (mC_nl nl_155))))
theorem mj_153_20 : mc_P 153 20 = some (.return_, 1, 0, 0, 0) := by decide +kernel
theorem s_153_20 {x0 : Option Value} : mw d 153 Q 20 [x0] ([]) h = Q none h := (mw_at mj_153_20).trans (z_vret)
theorem e_153 {a0 : Nat} : mcall d 153 [.ref a0] h Q = mw d 153 Q 0 [some (.ref a0)] [] h := by
  show mw d 153 Q 0 (me_en (mc_nl 153) _) [] h = _
  rw [nl_153]; rfl

/-! InvariantDesk$State.addArray()V -/
theorem mj_154_0 : mc_P 154 0 = some (.aload_n 0, 1, 0, 0, 0) := by decide +kernel
theorem s_154_0 {w : Value} : mw d 154 Q 0 [some w] (st) h = mv_a w (mw d 154 Q 1 [some w] (w :: st) h) := (mw_at mj_154_0).trans (z_aload_n rfl)
theorem mj_154_1 : mc_P 154 1 = some (.getfield 15, 3, 8, 4, 0) := by decide +kernel
theorem s_154_1 {x0 : Option Value} {o : Nat} : mw d 154 Q 1 [x0] (.ref o :: st) h = (mg h o 8 ∧ mw d 154 Q 4 [x0] (va_rf (mh_r h o 4) :: st) h) := (mw_at mj_154_1).trans (z_getr (by decide) (by decide) rfl)
theorem mj_154_4 : mc_P 154 4 = some (.iconst 2, 1, 0, 0, 0) := by decide +kernel
theorem s_154_4 {x0 : Option Value} : mw d 154 Q 4 [x0] (st) h = mw d 154 Q 5 [x0] (.int 2 :: st) h := (mw_at mj_154_4).trans (z_iconst (by decide))
theorem mj_154_5 : mc_P 154 5 = some (.aload_n 0, 1, 0, 0, 0) := by decide +kernel
theorem s_154_5 {w : Value} : mw d 154 Q 5 [some w] (st) h = mv_a w (mw d 154 Q 6 [some w] (w :: st) h) := (mw_at mj_154_5).trans (z_aload_n rfl)
theorem mj_154_6 : mc_P 154 6 = some (.getfield 34, 3, 8, 2, 0) := by decide +kernel
theorem s_154_6 {x0 : Option Value} {o : Nat} : mw d 154 Q 6 [x0] (.ref o :: st) h = (mg h o 8 ∧ mw d 154 Q 9 [x0] (.int (mh_i h o 2) :: st) h) := (mw_at mj_154_6).trans (z_geti (by decide) (by decide) (Or.inl rfl))
theorem mj_154_9 : mc_P 154 9 = some (.imul, 1, 0, 0, 0) := by decide +kernel
theorem s_154_9 {x0 : Option Value} {x w : Int32} : mw d 154 Q 9 [x0] (.int w :: .int x :: st) h = mw d 154 Q 10 [x0] (.int (x * w) :: st) h := (mw_at mj_154_9).trans (z_imul)
theorem mj_154_10 : mc_P 154 10 = some (.lconst 0, 1, 0, 0, 0) := by decide +kernel
theorem s_154_10 {x0 : Option Value} : mw d 154 Q 10 [x0] (st) h = mw d 154 Q 11 [x0] (.long 0 :: st) h := (mw_at mj_154_10).trans (z_lconst (by decide))
theorem mj_154_11 : mc_P 154 11 = some (.lastore, 1, 0, 0, 0) := by decide +kernel
theorem s_154_11 {x0 : Option Value} {o : Nat} {i : Int32} {w : Int64} : mw d 154 Q 11 [x0] (.long w :: .int i :: .ref o :: st) h = (mg h o 101 ∧ mx i (mh_l h o) ∧ mw d 154 Q 12 [x0] (st) (mh_sj h o i.toNatClampNeg w)) := (mw_at mj_154_11).trans (z_last)
theorem mj_154_12 : mc_P 154 12 = some (.aload_n 0, 1, 0, 0, 0) := by decide +kernel
theorem s_154_12 {w : Value} : mw d 154 Q 12 [some w] (st) h = mv_a w (mw d 154 Q 13 [some w] (w :: st) h) := (mw_at mj_154_12).trans (z_aload_n rfl)
theorem mj_154_13 : mc_P 154 13 = some (.getfield 15, 3, 8, 4, 0) := by decide +kernel
theorem s_154_13 {x0 : Option Value} {o : Nat} : mw d 154 Q 13 [x0] (.ref o :: st) h = (mg h o 8 ∧ mw d 154 Q 16 [x0] (va_rf (mh_r h o 4) :: st) h) := (mw_at mj_154_13).trans (z_getr (by decide) (by decide) rfl)
theorem mj_154_16 : mc_P 154 16 = some (.iconst 2, 1, 0, 0, 0) := by decide +kernel
theorem s_154_16 {x0 : Option Value} : mw d 154 Q 16 [x0] (st) h = mw d 154 Q 17 [x0] (.int 2 :: st) h := (mw_at mj_154_16).trans (z_iconst (by decide))
theorem mj_154_17 : mc_P 154 17 = some (.aload_n 0, 1, 0, 0, 0) := by decide +kernel
theorem s_154_17 {w : Value} : mw d 154 Q 17 [some w] (st) h = mv_a w (mw d 154 Q 18 [some w] (w :: st) h) := (mw_at mj_154_17).trans (z_aload_n rfl)
theorem mj_154_18 : mc_P 154 18 = some (.getfield 34, 3, 8, 2, 0) := by decide +kernel
theorem s_154_18 {x0 : Option Value} {o : Nat} : mw d 154 Q 18 [x0] (.ref o :: st) h = (mg h o 8 ∧ mw d 154 Q 21 [x0] (.int (mh_i h o 2) :: st) h) := (mw_at mj_154_18).trans (z_geti (by decide) (by decide) (Or.inl rfl))
theorem mj_154_21 : mc_P 154 21 = some (.imul, 1, 0, 0, 0) := by decide +kernel
theorem s_154_21 {x0 : Option Value} {x w : Int32} : mw d 154 Q 21 [x0] (.int w :: .int x :: st) h = mw d 154 Q 22 [x0] (.int (x * w) :: st) h := (mw_at mj_154_21).trans (z_imul)
theorem mj_154_22 : mc_P 154 22 = some (.iconst 1, 1, 0, 0, 0) := by decide +kernel
theorem s_154_22 {x0 : Option Value} : mw d 154 Q 22 [x0] (st) h = mw d 154 Q 23 [x0] (.int 1 :: st) h := (mw_at mj_154_22).trans (z_iconst (by decide))
theorem mj_154_23 : mc_P 154 23 = some (.iadd, 1, 0, 0, 0) := by decide +kernel
theorem s_154_23 {x0 : Option Value} {x w : Int32} : mw d 154 Q 23 [x0] (.int w :: .int x :: st) h = mw d 154 Q 24 [x0] (.int (x + w) :: st) h := (mw_at mj_154_23).trans (z_iadd)
theorem mj_154_24 : mc_P 154 24 = some (.lconst 0, 1, 0, 0, 0) := by decide +kernel
theorem s_154_24 {x0 : Option Value} : mw d 154 Q 24 [x0] (st) h = mw d 154 Q 25 [x0] (.long 0 :: st) h := (mw_at mj_154_24).trans (z_lconst (by decide))
theorem mj_154_25 : mc_P 154 25 = some (.lastore, 1, 0, 0, 0) := by decide +kernel
theorem s_154_25 {x0 : Option Value} {o : Nat} {i : Int32} {w : Int64} : mw d 154 Q 25 [x0] (.long w :: .int i :: .ref o :: st) h = (mg h o 101 ∧ mx i (mh_l h o) ∧ mw d 154 Q 26 [x0] (st) (mh_sj h o i.toNatClampNeg w)) := (mw_at mj_154_25).trans (z_last)
theorem mj_154_26 : mc_P 154 26 = some (.aload_n 0, 1, 0, 0, 0) := by decide +kernel
theorem s_154_26 {w : Value} : mw d 154 Q 26 [some w] (st) h = mv_a w (mw d 154 Q 27 [some w] (w :: st) h) := (mw_at mj_154_26).trans (z_aload_n rfl)
theorem mj_154_27 : mc_P 154 27 = some (.dup, 1, 0, 0, 0) := by decide +kernel
theorem s_154_27 {x0 : Option Value} {w : Value} : mw d 154 Q 27 [x0] (w :: st) h = (w.category = 1 ∧ mw d 154 Q 28 [x0] (w :: w :: st) h) := (mw_at mj_154_27).trans (z_dup)
theorem mj_154_28 : mc_P 154 28 = some (.getfield 34, 3, 8, 2, 0) := by decide +kernel
theorem s_154_28 {x0 : Option Value} {o : Nat} : mw d 154 Q 28 [x0] (.ref o :: st) h = (mg h o 8 ∧ mw d 154 Q 31 [x0] (.int (mh_i h o 2) :: st) h) := (mw_at mj_154_28).trans (z_geti (by decide) (by decide) (Or.inl rfl))
theorem mj_154_31 : mc_P 154 31 = some (.iconst 1, 1, 0, 0, 0) := by decide +kernel
theorem s_154_31 {x0 : Option Value} : mw d 154 Q 31 [x0] (st) h = mw d 154 Q 32 [x0] (.int 1 :: st) h := (mw_at mj_154_31).trans (z_iconst (by decide))
theorem mj_154_32 : mc_P 154 32 = some (.iadd, 1, 0, 0, 0) := by decide +kernel
theorem s_154_32 {x0 : Option Value} {x w : Int32} : mw d 154 Q 32 [x0] (.int w :: .int x :: st) h = mw d 154 Q 33 [x0] (.int (x + w) :: st) h := (mw_at mj_154_32).trans (z_iadd)
theorem mj_154_33 : mc_P 154 33 = some (.putfield 34, 3, 8, 2, 0) := by decide +kernel
theorem s_154_33 {x0 : Option Value} {o : Nat} {w : Int32} : mw d 154 Q 33 [x0] (.int w :: .ref o :: st) h = (mg h o 8 ∧ mw d 154 Q 36 [x0] (st) (mh_si h o 2 w)) := (mw_at mj_154_33).trans (z_puti (by decide) (by decide) rfl)
theorem mj_154_36 : mc_P 154 36 = some (.return_, 1, 0, 0, 0) := by decide +kernel
theorem s_154_36 {x0 : Option Value} : mw d 154 Q 36 [x0] ([]) h = Q none h := (mw_at mj_154_36).trans (z_vret)
theorem e_154 {a0 : Nat} : mcall d 154 [.ref a0] h Q = mw d 154 Q 0 [some (.ref a0)] [] h := by
  show mw d 154 Q 0 (me_en (mc_nl 154) _) [] h = _
  rw [nl_154]; rfl

/-! InvariantDesk$State.unbind(I)V -/
theorem mj_155_0 : mc_P 155 0 = some (.iconst 2, 1, 0, 0, 0) := by decide +kernel
theorem s_155_0 {x0 x1 x2 x3 : Option Value} : mw d 155 Q 0 [x0, x1, x2, x3] (st) h = mw d 155 Q 1 [x0, x1, x2, x3] (.int 2 :: st) h := (mw_at mj_155_0).trans (z_iconst (by decide))
theorem mj_155_1 : mc_P 155 1 = some (.iload_n 1, 1, 0, 0, 0) := by decide +kernel
theorem s_155_1 {x0 x2 x3 : Option Value} {w : Value} : mw d 155 Q 1 [x0, some w, x2, x3] (st) h = mv_i w (mw d 155 Q 2 [x0, some w, x2, x3] (w :: st) h) := (mw_at mj_155_1).trans (z_iload_n rfl)
theorem mj_155_2 : mc_P 155 2 = some (.imul, 1, 0, 0, 0) := by decide +kernel
theorem s_155_2 {x0 x1 x2 x3 : Option Value} {x w : Int32} : mw d 155 Q 2 [x0, x1, x2, x3] (.int w :: .int x :: st) h = mw d 155 Q 3 [x0, x1, x2, x3] (.int (x * w) :: st) h := (mw_at mj_155_2).trans (z_imul)
theorem mj_155_3 : mc_P 155 3 = some (.istore_n 2, 1, 0, 0, 0) := by decide +kernel
theorem s_155_3 {x0 x1 x2 x3 : Option Value} {w : Int32} : mw d 155 Q 3 [x0, x1, x2, x3] (.int w :: st) h = mw d 155 Q 4 [x0, mk2 x1, some (.int w), x3] (st) h := (mw_at mj_155_3).trans (z_istore_n (Nat.le_of_ble_eq_true rfl) (me_s1_mk (j := 1) (w := x1) rfl))
theorem mj_155_4 : mc_P 155 4 = some (.iload_n 2, 1, 0, 0, 0) := by decide +kernel
theorem s_155_4 {x0 x1 x3 : Option Value} {w : Value} : mw d 155 Q 4 [x0, x1, some w, x3] (st) h = mv_i w (mw d 155 Q 5 [x0, x1, some w, x3] (w :: st) h) := (mw_at mj_155_4).trans (z_iload_n rfl)
theorem mj_155_5 : mc_P 155 5 = some (.iconst 2, 1, 0, 0, 0) := by decide +kernel
theorem s_155_5 {x0 x1 x2 x3 : Option Value} : mw d 155 Q 5 [x0, x1, x2, x3] (st) h = mw d 155 Q 6 [x0, x1, x2, x3] (.int 2 :: st) h := (mw_at mj_155_5).trans (z_iconst (by decide))
theorem mj_155_6 : mc_P 155 6 = some (.iload_n 1, 1, 0, 0, 0) := by decide +kernel
theorem s_155_6 {x0 x2 x3 : Option Value} {w : Value} : mw d 155 Q 6 [x0, some w, x2, x3] (st) h = mv_i w (mw d 155 Q 7 [x0, some w, x2, x3] (w :: st) h) := (mw_at mj_155_6).trans (z_iload_n rfl)
theorem mj_155_7 : mc_P 155 7 = some (.imul, 1, 0, 0, 0) := by decide +kernel
theorem s_155_7 {x0 x1 x2 x3 : Option Value} {x w : Int32} : mw d 155 Q 7 [x0, x1, x2, x3] (.int w :: .int x :: st) h = mw d 155 Q 8 [x0, x1, x2, x3] (.int (x * w) :: st) h := (mw_at mj_155_7).trans (z_imul)
theorem mj_155_8 : mc_P 155 8 = some (.iconst 1, 1, 0, 0, 0) := by decide +kernel
theorem s_155_8 {x0 x1 x2 x3 : Option Value} : mw d 155 Q 8 [x0, x1, x2, x3] (st) h = mw d 155 Q 9 [x0, x1, x2, x3] (.int 1 :: st) h := (mw_at mj_155_8).trans (z_iconst (by decide))
theorem mj_155_9 : mc_P 155 9 = some (.iadd, 1, 0, 0, 0) := by decide +kernel
theorem s_155_9 {x0 x1 x2 x3 : Option Value} {x w : Int32} : mw d 155 Q 9 [x0, x1, x2, x3] (.int w :: .int x :: st) h = mw d 155 Q 10 [x0, x1, x2, x3] (.int (x + w) :: st) h := (mw_at mj_155_9).trans (z_iadd)
theorem mj_155_10 : mc_P 155 10 = some (.if_icmp .gt 90, 3, 0, 0, 0) := by decide +kernel
theorem s_155_10 {x0 x1 x2 x3 : Option Value} {x w : Int32} : mw d 155 Q 10 [x0, x1, x2, x3] (.int w :: .int x :: st) h = mB (w < x) (mw d 155 Q) 100 13 [x0, x1, x2, x3] st h := (mw_at mj_155_10).trans (z_icmp_gt (by decide) rfl)
theorem mj_155_13 : mc_P 155 13 = some (.aload_n 0, 1, 0, 0, 0) := by decide +kernel
theorem s_155_13 {x1 x2 x3 : Option Value} {w : Value} : mw d 155 Q 13 [some w, x1, x2, x3] (st) h = mv_a w (mw d 155 Q 14 [some w, x1, x2, x3] (w :: st) h) := (mw_at mj_155_13).trans (z_aload_n rfl)
theorem mj_155_14 : mc_P 155 14 = some (.getfield 11, 3, 8, 3, 0) := by decide +kernel
theorem s_155_14 {x0 x1 x2 x3 : Option Value} {o : Nat} : mw d 155 Q 14 [x0, x1, x2, x3] (.ref o :: st) h = (mg h o 8 ∧ mw d 155 Q 17 [x0, x1, x2, x3] (va_rf (mh_r h o 3) :: st) h) := (mw_at mj_155_14).trans (z_getr (by decide) (by decide) rfl)
theorem mj_155_17 : mc_P 155 17 = some (.iload_n 2, 1, 0, 0, 0) := by decide +kernel
theorem s_155_17 {x0 x1 x3 : Option Value} {w : Value} : mw d 155 Q 17 [x0, x1, some w, x3] (st) h = mv_i w (mw d 155 Q 18 [x0, x1, some w, x3] (w :: st) h) := (mw_at mj_155_17).trans (z_iload_n rfl)
theorem mj_155_18 : mc_P 155 18 = some (.iload_n 2, 1, 0, 0, 0) := by decide +kernel
theorem s_155_18 {x0 x1 x3 : Option Value} {w : Value} : mw d 155 Q 18 [x0, x1, some w, x3] (st) h = mv_i w (mw d 155 Q 19 [x0, x1, some w, x3] (w :: st) h) := (mw_at mj_155_18).trans (z_iload_n rfl)
theorem mj_155_19 : mc_P 155 19 = some (.invokestatic 52, 3, 140, 0, 2) := by decide +kernel
theorem s_155_19 {x0 x1 x2 x3 : Option Value} {a0 a1 : Value} : mw (d + 1) 155 Q 19 [x0, x1, x2, x3] (a1 :: a0 :: st) h = (mca st 8 ∧ mca [a0, a1] 2 ∧ mcall d 140 [a0, a1] h (mK (d + 1) 155 Q 22 [x0, x1, x2, x3] st)) := (mw_at mj_155_19).trans ((z_invs (As := [a0, a1]) rfl rfl).trans (congrArg (And _) (mC_nl nl_140)))
theorem mj_155_22 : mc_P 155 22 = some (.lconst 0, 1, 0, 0, 0) := by decide +kernel
theorem s_155_22 {x0 x1 x2 x3 : Option Value} : mw d 155 Q 22 [x0, x1, x2, x3] (st) h = mw d 155 Q 23 [x0, x1, x2, x3] (.long 0 :: st) h := (mw_at mj_155_22).trans (z_lconst (by decide))
theorem mj_155_23 : mc_P 155 23 = some (.lastore, 1, 0, 0, 0) := by decide +kernel
theorem s_155_23 {x0 x1 x2 x3 : Option Value} {o : Nat} {i : Int32} {w : Int64} : mw d 155 Q 23 [x0, x1, x2, x3] (.long w :: .int i :: .ref o :: st) h = (mg h o 101 ∧ mx i (mh_l h o) ∧ mw d 155 Q 24 [x0, x1, x2, x3] (st) (mh_sj h o i.toNatClampNeg w)) := (mw_at mj_155_23).trans (z_last)
theorem mj_155_24 : mc_P 155 24 = some (.aload_n 0, 1, 0, 0, 0) := by decide +kernel
theorem s_155_24 {x1 x2 x3 : Option Value} {w : Value} : mw d 155 Q 24 [some w, x1, x2, x3] (st) h = mv_a w (mw d 155 Q 25 [some w, x1, x2, x3] (w :: st) h) := (mw_at mj_155_24).trans (z_aload_n rfl)
theorem mj_155_25 : mc_P 155 25 = some (.getfield 11, 3, 8, 3, 0) := by decide +kernel
theorem s_155_25 {x0 x1 x2 x3 : Option Value} {o : Nat} : mw d 155 Q 25 [x0, x1, x2, x3] (.ref o :: st) h = (mg h o 8 ∧ mw d 155 Q 28 [x0, x1, x2, x3] (va_rf (mh_r h o 3) :: st) h) := (mw_at mj_155_25).trans (z_getr (by decide) (by decide) rfl)
theorem mj_155_28 : mc_P 155 28 = some (.iload_n 2, 1, 0, 0, 0) := by decide +kernel
theorem s_155_28 {x0 x1 x3 : Option Value} {w : Value} : mw d 155 Q 28 [x0, x1, some w, x3] (st) h = mv_i w (mw d 155 Q 29 [x0, x1, some w, x3] (w :: st) h) := (mw_at mj_155_28).trans (z_iload_n rfl)
theorem mj_155_29 : mc_P 155 29 = some (.iload_n 2, 1, 0, 0, 0) := by decide +kernel
theorem s_155_29 {x0 x1 x3 : Option Value} {w : Value} : mw d 155 Q 29 [x0, x1, some w, x3] (st) h = mv_i w (mw d 155 Q 30 [x0, x1, some w, x3] (w :: st) h) := (mw_at mj_155_29).trans (z_iload_n rfl)
theorem mj_155_30 : mc_P 155 30 = some (.iconst 1, 1, 0, 0, 0) := by decide +kernel
theorem s_155_30 {x0 x1 x2 x3 : Option Value} : mw d 155 Q 30 [x0, x1, x2, x3] (st) h = mw d 155 Q 31 [x0, x1, x2, x3] (.int 1 :: st) h := (mw_at mj_155_30).trans (z_iconst (by decide))
theorem mj_155_31 : mc_P 155 31 = some (.ixor, 1, 0, 0, 0) := by decide +kernel
theorem s_155_31 {x0 x1 x2 x3 : Option Value} {x w : Int32} : mw d 155 Q 31 [x0, x1, x2, x3] (.int w :: .int x :: st) h = mw d 155 Q 32 [x0, x1, x2, x3] (.int (x ^^^ w) :: st) h := (mw_at mj_155_31).trans (z_ixor)
theorem mj_155_32 : mc_P 155 32 = some (.invokestatic 52, 3, 140, 0, 2) := by decide +kernel
theorem s_155_32 {x0 x1 x2 x3 : Option Value} {a0 a1 : Value} : mw (d + 1) 155 Q 32 [x0, x1, x2, x3] (a1 :: a0 :: st) h = (mca st 8 ∧ mca [a0, a1] 2 ∧ mcall d 140 [a0, a1] h (mK (d + 1) 155 Q 35 [x0, x1, x2, x3] st)) := (mw_at mj_155_32).trans ((z_invs (As := [a0, a1]) rfl rfl).trans (congrArg (And _) (mC_nl nl_140)))
theorem mj_155_35 : mc_P 155 35 = some (.ldc2_w 50, 3, 0, 0, 2) := by decide +kernel
theorem s_155_35 {x0 x1 x2 x3 : Option Value} : mw d 155 Q 35 [x0, x1, x2, x3] (st) h = mw d 155 Q 38 [x0, x1, x2, x3] (.long 2 :: st) h := (mw_at mj_155_35).trans (z_ldc2 (by decide))
theorem mj_155_38 : mc_P 155 38 = some (.iload_n 2, 1, 0, 0, 0) := by decide +kernel
theorem s_155_38 {x0 x1 x3 : Option Value} {w : Value} : mw d 155 Q 38 [x0, x1, some w, x3] (st) h = mv_i w (mw d 155 Q 39 [x0, x1, some w, x3] (w :: st) h) := (mw_at mj_155_38).trans (z_iload_n rfl)
theorem mj_155_39 : mc_P 155 39 = some (.iconst 1, 1, 0, 0, 0) := by decide +kernel
theorem s_155_39 {x0 x1 x2 x3 : Option Value} : mw d 155 Q 39 [x0, x1, x2, x3] (st) h = mw d 155 Q 40 [x0, x1, x2, x3] (.int 1 :: st) h := (mw_at mj_155_39).trans (z_iconst (by decide))
theorem mj_155_40 : mc_P 155 40 = some (.ixor, 1, 0, 0, 0) := by decide +kernel
theorem s_155_40 {x0 x1 x2 x3 : Option Value} {x w : Int32} : mw d 155 Q 40 [x0, x1, x2, x3] (.int w :: .int x :: st) h = mw d 155 Q 41 [x0, x1, x2, x3] (.int (x ^^^ w) :: st) h := (mw_at mj_155_40).trans (z_ixor)
theorem mj_155_41 : mc_P 155 41 = some (.invokestatic 73, 3, 141, 0, 1) := by decide +kernel
theorem s_155_41 {x0 x1 x2 x3 : Option Value} {a0 : Value} : mw (d + 1) 155 Q 41 [x0, x1, x2, x3] (a0 :: st) h = (mca st 8 ∧ mca [a0] 1 ∧ mcall d 141 [a0] h (mK (d + 1) 155 Q 44 [x0, x1, x2, x3] st)) := (mw_at mj_155_41).trans ((z_invs (As := [a0]) rfl rfl).trans (congrArg (And _) (mC_nl nl_141)))
theorem mj_155_44 : mc_P 155 44 = some (.lmul, 1, 0, 0, 0) := by decide +kernel
theorem s_155_44 {x0 x1 x2 x3 : Option Value} {x w : Int64} : mw d 155 Q 44 [x0, x1, x2, x3] (.long w :: .long x :: st) h = mw d 155 Q 45 [x0, x1, x2, x3] (.long (x * w) :: st) h := (mw_at mj_155_44).trans (z_lmul)
theorem mj_155_45 : mc_P 155 45 = some (.lastore, 1, 0, 0, 0) := by decide +kernel
theorem s_155_45 {x0 x1 x2 x3 : Option Value} {o : Nat} {i : Int32} {w : Int64} : mw d 155 Q 45 [x0, x1, x2, x3] (.long w :: .int i :: .ref o :: st) h = (mg h o 101 ∧ mx i (mh_l h o) ∧ mw d 155 Q 46 [x0, x1, x2, x3] (st) (mh_sj h o i.toNatClampNeg w)) := (mw_at mj_155_45).trans (z_last)
theorem mj_155_46 : mc_P 155 46 = some (.iconst 0, 1, 0, 0, 0) := by decide +kernel
theorem s_155_46 {x0 x1 x2 x3 : Option Value} : mw d 155 Q 46 [x0, x1, x2, x3] (st) h = mw d 155 Q 47 [x0, x1, x2, x3] (.int 0 :: st) h := (mw_at mj_155_46).trans (z_iconst (by decide))
theorem mj_155_47 : mc_P 155 47 = some (.istore_n 3, 1, 0, 0, 0) := by decide +kernel
theorem s_155_47 {x0 x1 x2 x3 : Option Value} {w : Int32} : mw d 155 Q 47 [x0, x1, x2, x3] (.int w :: st) h = mw d 155 Q 48 [x0, x1, mk2 x2, some (.int w)] (st) h := (mw_at mj_155_47).trans (z_istore_n (Nat.le_of_ble_eq_true rfl) (me_s1_mk (j := 2) (w := x2) rfl))
theorem mj_155_48 : mc_P 155 48 = some (.iload_n 3, 1, 0, 0, 0) := by decide +kernel
theorem s_155_48 {x0 x1 x2 : Option Value} {w : Value} : mw d 155 Q 48 [x0, x1, x2, some w] (st) h = mv_i w (mw d 155 Q 49 [x0, x1, x2, some w] (w :: st) h) := (mw_at mj_155_48).trans (z_iload_n rfl)
theorem mj_155_49 : mc_P 155 49 = some (.iconst 2, 1, 0, 0, 0) := by decide +kernel
theorem s_155_49 {x0 x1 x2 x3 : Option Value} : mw d 155 Q 49 [x0, x1, x2, x3] (st) h = mw d 155 Q 50 [x0, x1, x2, x3] (.int 2 :: st) h := (mw_at mj_155_49).trans (z_iconst (by decide))
theorem mj_155_50 : mc_P 155 50 = some (.aload_n 0, 1, 0, 0, 0) := by decide +kernel
theorem s_155_50 {x1 x2 x3 : Option Value} {w : Value} : mw d 155 Q 50 [some w, x1, x2, x3] (st) h = mv_a w (mw d 155 Q 51 [some w, x1, x2, x3] (w :: st) h) := (mw_at mj_155_50).trans (z_aload_n rfl)
theorem mj_155_51 : mc_P 155 51 = some (.getfield 26, 3, 8, 1, 0) := by decide +kernel
theorem s_155_51 {x0 x1 x2 x3 : Option Value} {o : Nat} : mw d 155 Q 51 [x0, x1, x2, x3] (.ref o :: st) h = (mg h o 8 ∧ mw d 155 Q 54 [x0, x1, x2, x3] (.int (mh_i h o 1) :: st) h) := (mw_at mj_155_51).trans (z_geti (by decide) (by decide) (Or.inl rfl))
theorem mj_155_54 : mc_P 155 54 = some (.imul, 1, 0, 0, 0) := by decide +kernel
theorem s_155_54 {x0 x1 x2 x3 : Option Value} {x w : Int32} : mw d 155 Q 54 [x0, x1, x2, x3] (.int w :: .int x :: st) h = mw d 155 Q 55 [x0, x1, x2, x3] (.int (x * w) :: st) h := (mw_at mj_155_54).trans (z_imul)
theorem mj_155_55 : mc_P 155 55 = some (.if_icmp .ge 39, 3, 0, 0, 0) := by decide +kernel
theorem s_155_55 {x0 x1 x2 x3 : Option Value} {x w : Int32} : mw d 155 Q 55 [x0, x1, x2, x3] (.int w :: .int x :: st) h = mB (w ≤ x) (mw d 155 Q) 94 58 [x0, x1, x2, x3] st h := (mw_at mj_155_55).trans (z_icmp_ge (by decide) rfl)
theorem mj_155_58 : mc_P 155 58 = some (.iload_n 3, 1, 0, 0, 0) := by decide +kernel
theorem s_155_58 {x0 x1 x2 : Option Value} {w : Value} : mw d 155 Q 58 [x0, x1, x2, some w] (st) h = mv_i w (mw d 155 Q 59 [x0, x1, x2, some w] (w :: st) h) := (mw_at mj_155_58).trans (z_iload_n rfl)
theorem mj_155_59 : mc_P 155 59 = some (.iconst 2, 1, 0, 0, 0) := by decide +kernel
theorem s_155_59 {x0 x1 x2 x3 : Option Value} : mw d 155 Q 59 [x0, x1, x2, x3] (st) h = mw d 155 Q 60 [x0, x1, x2, x3] (.int 2 :: st) h := (mw_at mj_155_59).trans (z_iconst (by decide))
theorem mj_155_60 : mc_P 155 60 = some (.idiv, 1, 0, 0, 0) := by decide +kernel
theorem s_155_60 {x0 x1 x2 x3 : Option Value} {x w : Int32} : mw d 155 Q 60 [x0, x1, x2, x3] (.int w :: .int x :: st) h = (¬ w = 0 ∧ mw d 155 Q 61 [x0, x1, x2, x3] (.int (x / w) :: st) h) := (mw_at mj_155_60).trans (z_idiv)
theorem mj_155_61 : mc_P 155 61 = some (.iload_n 1, 1, 0, 0, 0) := by decide +kernel
theorem s_155_61 {x0 x2 x3 : Option Value} {w : Value} : mw d 155 Q 61 [x0, some w, x2, x3] (st) h = mv_i w (mw d 155 Q 62 [x0, some w, x2, x3] (w :: st) h) := (mw_at mj_155_61).trans (z_iload_n rfl)
theorem mj_155_62 : mc_P 155 62 = some (.if_icmp .eq 26, 3, 0, 0, 0) := by decide +kernel
theorem s_155_62 {x0 x1 x2 x3 : Option Value} {x w : Int32} : mw d 155 Q 62 [x0, x1, x2, x3] (.int w :: .int x :: st) h = mB (x = w) (mw d 155 Q) 88 65 [x0, x1, x2, x3] st h := (mw_at mj_155_62).trans (z_icmp_eq (by decide) rfl)
theorem mj_155_65 : mc_P 155 65 = some (.aload_n 0, 1, 0, 0, 0) := by decide +kernel
theorem s_155_65 {x1 x2 x3 : Option Value} {w : Value} : mw d 155 Q 65 [some w, x1, x2, x3] (st) h = mv_a w (mw d 155 Q 66 [some w, x1, x2, x3] (w :: st) h) := (mw_at mj_155_65).trans (z_aload_n rfl)
theorem mj_155_66 : mc_P 155 66 = some (.getfield 11, 3, 8, 3, 0) := by decide +kernel
theorem s_155_66 {x0 x1 x2 x3 : Option Value} {o : Nat} : mw d 155 Q 66 [x0, x1, x2, x3] (.ref o :: st) h = (mg h o 8 ∧ mw d 155 Q 69 [x0, x1, x2, x3] (va_rf (mh_r h o 3) :: st) h) := (mw_at mj_155_66).trans (z_getr (by decide) (by decide) rfl)
theorem mj_155_69 : mc_P 155 69 = some (.iload_n 2, 1, 0, 0, 0) := by decide +kernel
theorem s_155_69 {x0 x1 x3 : Option Value} {w : Value} : mw d 155 Q 69 [x0, x1, some w, x3] (st) h = mv_i w (mw d 155 Q 70 [x0, x1, some w, x3] (w :: st) h) := (mw_at mj_155_69).trans (z_iload_n rfl)
theorem mj_155_70 : mc_P 155 70 = some (.iload_n 3, 1, 0, 0, 0) := by decide +kernel
theorem s_155_70 {x0 x1 x2 : Option Value} {w : Value} : mw d 155 Q 70 [x0, x1, x2, some w] (st) h = mv_i w (mw d 155 Q 71 [x0, x1, x2, some w] (w :: st) h) := (mw_at mj_155_70).trans (z_iload_n rfl)
theorem mj_155_71 : mc_P 155 71 = some (.invokestatic 52, 3, 140, 0, 2) := by decide +kernel
theorem s_155_71 {x0 x1 x2 x3 : Option Value} {a0 a1 : Value} : mw (d + 1) 155 Q 71 [x0, x1, x2, x3] (a1 :: a0 :: st) h = (mca st 8 ∧ mca [a0, a1] 2 ∧ mcall d 140 [a0, a1] h (mK (d + 1) 155 Q 74 [x0, x1, x2, x3] st)) := (mw_at mj_155_71).trans ((z_invs (As := [a0, a1]) rfl rfl).trans (congrArg (And _) (mC_nl nl_140)))
theorem mj_155_74 : mc_P 155 74 = some (.iload_n 2, 1, 0, 0, 0) := by decide +kernel
theorem s_155_74 {x0 x1 x3 : Option Value} {w : Value} : mw d 155 Q 74 [x0, x1, some w, x3] (st) h = mv_i w (mw d 155 Q 75 [x0, x1, some w, x3] (w :: st) h) := (mw_at mj_155_74).trans (z_iload_n rfl)
theorem mj_155_75 : mc_P 155 75 = some (.iconst 1, 1, 0, 0, 0) := by decide +kernel
theorem s_155_75 {x0 x1 x2 x3 : Option Value} : mw d 155 Q 75 [x0, x1, x2, x3] (st) h = mw d 155 Q 76 [x0, x1, x2, x3] (.int 1 :: st) h := (mw_at mj_155_75).trans (z_iconst (by decide))
theorem mj_155_76 : mc_P 155 76 = some (.ixor, 1, 0, 0, 0) := by decide +kernel
theorem s_155_76 {x0 x1 x2 x3 : Option Value} {x w : Int32} : mw d 155 Q 76 [x0, x1, x2, x3] (.int w :: .int x :: st) h = mw d 155 Q 77 [x0, x1, x2, x3] (.int (x ^^^ w) :: st) h := (mw_at mj_155_76).trans (z_ixor)
theorem mj_155_77 : mc_P 155 77 = some (.invokestatic 73, 3, 141, 0, 1) := by decide +kernel
theorem s_155_77 {x0 x1 x2 x3 : Option Value} {a0 : Value} : mw (d + 1) 155 Q 77 [x0, x1, x2, x3] (a0 :: st) h = (mca st 8 ∧ mca [a0] 1 ∧ mcall d 141 [a0] h (mK (d + 1) 155 Q 80 [x0, x1, x2, x3] st)) := (mw_at mj_155_77).trans ((z_invs (As := [a0]) rfl rfl).trans (congrArg (And _) (mC_nl nl_141)))
theorem mj_155_80 : mc_P 155 80 = some (.aload_n 0, 1, 0, 0, 0) := by decide +kernel
theorem s_155_80 {x1 x2 x3 : Option Value} {w : Value} : mw d 155 Q 80 [some w, x1, x2, x3] (st) h = mv_a w (mw d 155 Q 81 [some w, x1, x2, x3] (w :: st) h) := (mw_at mj_155_80).trans (z_aload_n rfl)
theorem mj_155_81 : mc_P 155 81 = some (.iload_n 3, 1, 0, 0, 0) := by decide +kernel
theorem s_155_81 {x0 x1 x2 : Option Value} {w : Value} : mw d 155 Q 81 [x0, x1, x2, some w] (st) h = mv_i w (mw d 155 Q 82 [x0, x1, x2, some w] (w :: st) h) := (mw_at mj_155_81).trans (z_iload_n rfl)
theorem mj_155_82 : mc_P 155 82 = some (.iload_n 3, 1, 0, 0, 0) := by decide +kernel
theorem s_155_82 {x0 x1 x2 : Option Value} {w : Value} : mw d 155 Q 82 [x0, x1, x2, some w] (st) h = mv_i w (mw d 155 Q 83 [x0, x1, x2, some w] (w :: st) h) := (mw_at mj_155_82).trans (z_iload_n rfl)
theorem mj_155_83 : mc_P 155 83 = some (.invokevirtual 83, 3, 146, 8, 3) := by decide +kernel
theorem s_155_83 {x0 x1 x2 x3 : Option Value} {o : Nat} {a1 a2 : Value} : mw (d + 1) 155 Q 83 [x0, x1, x2, x3] (a2 :: a1 :: .ref o :: st) h = (mg h o 8 ∧ mca st 8 ∧ mca [.ref o, a1, a2] 5 ∧ mcall d 146 [.ref o, a1, a2] h (mK (d + 1) 155 Q 86 [x0, x1, x2, x3] st)) := (mw_at mj_155_83).trans ((z_invv (As := [a1, a2]) (by decide) rfl rfl).trans (congrArg (And _) (congrArg (And _) (mC_nl nl_146))))
theorem mj_155_86 : mc_P 155 86 = some (.ladd, 1, 0, 0, 0) := by decide +kernel
theorem s_155_86 {x0 x1 x2 x3 : Option Value} {x w : Int64} : mw d 155 Q 86 [x0, x1, x2, x3] (.long w :: .long x :: st) h = mw d 155 Q 87 [x0, x1, x2, x3] (.long (x + w) :: st) h := (mw_at mj_155_86).trans (z_ladd)
theorem mj_155_87 : mc_P 155 87 = some (.lastore, 1, 0, 0, 0) := by decide +kernel
theorem s_155_87 {x0 x1 x2 x3 : Option Value} {o : Nat} {i : Int32} {w : Int64} : mw d 155 Q 87 [x0, x1, x2, x3] (.long w :: .int i :: .ref o :: st) h = (mg h o 101 ∧ mx i (mh_l h o) ∧ mw d 155 Q 88 [x0, x1, x2, x3] (st) (mh_sj h o i.toNatClampNeg w)) := (mw_at mj_155_87).trans (z_last)
theorem mj_155_88 : mc_P 155 88 = some (.iinc 3 1, 3, 0, 0, 0) := by decide +kernel
theorem s_155_88 {x0 x1 x2 : Option Value} {w : Int32} : mw d 155 Q 88 [x0, x1, x2, some (.int w)] (st) h = mw d 155 Q 91 [x0, x1, mk2 x2, some (.int (w + 1))] (st) h := (mw_at mj_155_88).trans (z_iinc rfl (Nat.le_of_ble_eq_true rfl) (by decide) (me_s1_mk (j := 2) (w := x2) rfl))
theorem mj_155_91 : mc_P 155 91 = some (.goto (-43), 3, 0, 0, 0) := by decide +kernel
theorem s_155_91 {x0 x1 x2 x3 : Option Value} : mw d 155 Q 91 [x0, x1, x2, x3] (st) h = mw d 155 Q 48 [x0, x1, x2, x3] (st) h := (mw_at mj_155_91).trans (z_goto (by decide))
theorem mj_155_94 : mc_P 155 94 = some (.iinc 2 1, 3, 0, 0, 0) := by decide +kernel
theorem s_155_94 {x0 x1 x3 : Option Value} {w : Int32} : mw d 155 Q 94 [x0, x1, some (.int w), x3] (st) h = mw d 155 Q 97 [x0, mk2 x1, some (.int (w + 1)), x3] (st) h := (mw_at mj_155_94).trans (z_iinc rfl (Nat.le_of_ble_eq_true rfl) (by decide) (me_s1_mk (j := 1) (w := x1) rfl))
theorem mj_155_97 : mc_P 155 97 = some (.goto (-93), 3, 0, 0, 0) := by decide +kernel
theorem s_155_97 {x0 x1 x2 x3 : Option Value} : mw d 155 Q 97 [x0, x1, x2, x3] (st) h = mw d 155 Q 4 [x0, x1, x2, x3] (st) h := (mw_at mj_155_97).trans (z_goto (by decide))
theorem mj_155_100 : mc_P 155 100 = some (.return_, 1, 0, 0, 0) := by decide +kernel
theorem s_155_100 {x0 x1 x2 x3 : Option Value} : mw d 155 Q 100 [x0, x1, x2, x3] ([]) h = Q none h := (mw_at mj_155_100).trans (z_vret)
theorem e_155 {a0 : Nat} {a1 : Int32} : mcall d 155 [.ref a0, .int a1] h Q = mw d 155 Q 0 [some (.ref a0), some (.int a1), none, none] [] h := by
  show mw d 155 Q 0 (me_en (mc_nl 155) _) [] h = _
  rw [nl_155]; rfl

/-! InvariantDesk$State.negate(I)V -/
theorem mj_156_0 : mc_P 156 0 = some (.iconst 2, 1, 0, 0, 0) := by decide +kernel
theorem s_156_0 {x0 x1 x2 x3 : Option Value} : mw d 156 Q 0 [x0, x1, x2, x3] (st) h = mw d 156 Q 1 [x0, x1, x2, x3] (.int 2 :: st) h := (mw_at mj_156_0).trans (z_iconst (by decide))
theorem mj_156_1 : mc_P 156 1 = some (.iload_n 1, 1, 0, 0, 0) := by decide +kernel
theorem s_156_1 {x0 x2 x3 : Option Value} {w : Value} : mw d 156 Q 1 [x0, some w, x2, x3] (st) h = mv_i w (mw d 156 Q 2 [x0, some w, x2, x3] (w :: st) h) := (mw_at mj_156_1).trans (z_iload_n rfl)
theorem mj_156_2 : mc_P 156 2 = some (.imul, 1, 0, 0, 0) := by decide +kernel
theorem s_156_2 {x0 x1 x2 x3 : Option Value} {x w : Int32} : mw d 156 Q 2 [x0, x1, x2, x3] (.int w :: .int x :: st) h = mw d 156 Q 3 [x0, x1, x2, x3] (.int (x * w) :: st) h := (mw_at mj_156_2).trans (z_imul)
theorem mj_156_3 : mc_P 156 3 = some (.istore_n 2, 1, 0, 0, 0) := by decide +kernel
theorem s_156_3 {x0 x1 x2 x3 : Option Value} {w : Int32} : mw d 156 Q 3 [x0, x1, x2, x3] (.int w :: st) h = mw d 156 Q 4 [x0, mk2 x1, some (.int w), x3] (st) h := (mw_at mj_156_3).trans (z_istore_n (Nat.le_of_ble_eq_true rfl) (me_s1_mk (j := 1) (w := x1) rfl))
theorem mj_156_4 : mc_P 156 4 = some (.iconst 0, 1, 0, 0, 0) := by decide +kernel
theorem s_156_4 {x0 x1 x2 x3 : Option Value} : mw d 156 Q 4 [x0, x1, x2, x3] (st) h = mw d 156 Q 5 [x0, x1, x2, x3] (.int 0 :: st) h := (mw_at mj_156_4).trans (z_iconst (by decide))
theorem mj_156_5 : mc_P 156 5 = some (.istore_n 3, 1, 0, 0, 0) := by decide +kernel
theorem s_156_5 {x0 x1 x2 x3 : Option Value} {w : Int32} : mw d 156 Q 5 [x0, x1, x2, x3] (.int w :: st) h = mw d 156 Q 6 [x0, x1, mk2 x2, some (.int w)] (st) h := (mw_at mj_156_5).trans (z_istore_n (Nat.le_of_ble_eq_true rfl) (me_s1_mk (j := 2) (w := x2) rfl))
theorem mj_156_6 : mc_P 156 6 = some (.iload_n 3, 1, 0, 0, 0) := by decide +kernel
theorem s_156_6 {x0 x1 x2 : Option Value} {w : Value} : mw d 156 Q 6 [x0, x1, x2, some w] (st) h = mv_i w (mw d 156 Q 7 [x0, x1, x2, some w] (w :: st) h) := (mw_at mj_156_6).trans (z_iload_n rfl)
theorem mj_156_7 : mc_P 156 7 = some (.iconst 2, 1, 0, 0, 0) := by decide +kernel
theorem s_156_7 {x0 x1 x2 x3 : Option Value} : mw d 156 Q 7 [x0, x1, x2, x3] (st) h = mw d 156 Q 8 [x0, x1, x2, x3] (.int 2 :: st) h := (mw_at mj_156_7).trans (z_iconst (by decide))
theorem mj_156_8 : mc_P 156 8 = some (.aload_n 0, 1, 0, 0, 0) := by decide +kernel
theorem s_156_8 {x1 x2 x3 : Option Value} {w : Value} : mw d 156 Q 8 [some w, x1, x2, x3] (st) h = mv_a w (mw d 156 Q 9 [some w, x1, x2, x3] (w :: st) h) := (mw_at mj_156_8).trans (z_aload_n rfl)
theorem mj_156_9 : mc_P 156 9 = some (.getfield 26, 3, 8, 1, 0) := by decide +kernel
theorem s_156_9 {x0 x1 x2 x3 : Option Value} {o : Nat} : mw d 156 Q 9 [x0, x1, x2, x3] (.ref o :: st) h = (mg h o 8 ∧ mw d 156 Q 12 [x0, x1, x2, x3] (.int (mh_i h o 1) :: st) h) := (mw_at mj_156_9).trans (z_geti (by decide) (by decide) (Or.inl rfl))
theorem mj_156_12 : mc_P 156 12 = some (.imul, 1, 0, 0, 0) := by decide +kernel
theorem s_156_12 {x0 x1 x2 x3 : Option Value} {x w : Int32} : mw d 156 Q 12 [x0, x1, x2, x3] (.int w :: .int x :: st) h = mw d 156 Q 13 [x0, x1, x2, x3] (.int (x * w) :: st) h := (mw_at mj_156_12).trans (z_imul)
theorem mj_156_13 : mc_P 156 13 = some (.if_icmp .ge 32, 3, 0, 0, 0) := by decide +kernel
theorem s_156_13 {x0 x1 x2 x3 : Option Value} {x w : Int32} : mw d 156 Q 13 [x0, x1, x2, x3] (.int w :: .int x :: st) h = mB (w ≤ x) (mw d 156 Q) 45 16 [x0, x1, x2, x3] st h := (mw_at mj_156_13).trans (z_icmp_ge (by decide) rfl)
theorem mj_156_16 : mc_P 156 16 = some (.iload_n 3, 1, 0, 0, 0) := by decide +kernel
theorem s_156_16 {x0 x1 x2 : Option Value} {w : Value} : mw d 156 Q 16 [x0, x1, x2, some w] (st) h = mv_i w (mw d 156 Q 17 [x0, x1, x2, some w] (w :: st) h) := (mw_at mj_156_16).trans (z_iload_n rfl)
theorem mj_156_17 : mc_P 156 17 = some (.iconst 2, 1, 0, 0, 0) := by decide +kernel
theorem s_156_17 {x0 x1 x2 x3 : Option Value} : mw d 156 Q 17 [x0, x1, x2, x3] (st) h = mw d 156 Q 18 [x0, x1, x2, x3] (.int 2 :: st) h := (mw_at mj_156_17).trans (z_iconst (by decide))
theorem mj_156_18 : mc_P 156 18 = some (.idiv, 1, 0, 0, 0) := by decide +kernel
theorem s_156_18 {x0 x1 x2 x3 : Option Value} {x w : Int32} : mw d 156 Q 18 [x0, x1, x2, x3] (.int w :: .int x :: st) h = (¬ w = 0 ∧ mw d 156 Q 19 [x0, x1, x2, x3] (.int (x / w) :: st) h) := (mw_at mj_156_18).trans (z_idiv)
theorem mj_156_19 : mc_P 156 19 = some (.iload_n 1, 1, 0, 0, 0) := by decide +kernel
theorem s_156_19 {x0 x2 x3 : Option Value} {w : Value} : mw d 156 Q 19 [x0, some w, x2, x3] (st) h = mv_i w (mw d 156 Q 20 [x0, some w, x2, x3] (w :: st) h) := (mw_at mj_156_19).trans (z_iload_n rfl)
theorem mj_156_20 : mc_P 156 20 = some (.if_icmp .eq 19, 3, 0, 0, 0) := by decide +kernel
theorem s_156_20 {x0 x1 x2 x3 : Option Value} {x w : Int32} : mw d 156 Q 20 [x0, x1, x2, x3] (.int w :: .int x :: st) h = mB (x = w) (mw d 156 Q) 39 23 [x0, x1, x2, x3] st h := (mw_at mj_156_20).trans (z_icmp_eq (by decide) rfl)
theorem mj_156_23 : mc_P 156 23 = some (.aload_n 0, 1, 0, 0, 0) := by decide +kernel
theorem s_156_23 {x1 x2 x3 : Option Value} {w : Value} : mw d 156 Q 23 [some w, x1, x2, x3] (st) h = mv_a w (mw d 156 Q 24 [some w, x1, x2, x3] (w :: st) h) := (mw_at mj_156_23).trans (z_aload_n rfl)
theorem mj_156_24 : mc_P 156 24 = some (.iload_n 2, 1, 0, 0, 0) := by decide +kernel
theorem s_156_24 {x0 x1 x3 : Option Value} {w : Value} : mw d 156 Q 24 [x0, x1, some w, x3] (st) h = mv_i w (mw d 156 Q 25 [x0, x1, some w, x3] (w :: st) h) := (mw_at mj_156_24).trans (z_iload_n rfl)
theorem mj_156_25 : mc_P 156 25 = some (.iload_n 3, 1, 0, 0, 0) := by decide +kernel
theorem s_156_25 {x0 x1 x2 : Option Value} {w : Value} : mw d 156 Q 25 [x0, x1, x2, some w] (st) h = mv_i w (mw d 156 Q 26 [x0, x1, x2, some w] (w :: st) h) := (mw_at mj_156_25).trans (z_iload_n rfl)
theorem mj_156_26 : mc_P 156 26 = some (.invokestatic 52, 3, 140, 0, 2) := by decide +kernel
theorem s_156_26 {x0 x1 x2 x3 : Option Value} {a0 a1 : Value} : mw (d + 1) 156 Q 26 [x0, x1, x2, x3] (a1 :: a0 :: st) h = (mca st 8 ∧ mca [a0, a1] 2 ∧ mcall d 140 [a0, a1] h (mK (d + 1) 156 Q 29 [x0, x1, x2, x3] st)) := (mw_at mj_156_26).trans ((z_invs (As := [a0, a1]) rfl rfl).trans (congrArg (And _) (mC_nl nl_140)))
theorem mj_156_29 : mc_P 156 29 = some (.iload_n 2, 1, 0, 0, 0) := by decide +kernel
theorem s_156_29 {x0 x1 x3 : Option Value} {w : Value} : mw d 156 Q 29 [x0, x1, some w, x3] (st) h = mv_i w (mw d 156 Q 30 [x0, x1, some w, x3] (w :: st) h) := (mw_at mj_156_29).trans (z_iload_n rfl)
theorem mj_156_30 : mc_P 156 30 = some (.iconst 1, 1, 0, 0, 0) := by decide +kernel
theorem s_156_30 {x0 x1 x2 x3 : Option Value} : mw d 156 Q 30 [x0, x1, x2, x3] (st) h = mw d 156 Q 31 [x0, x1, x2, x3] (.int 1 :: st) h := (mw_at mj_156_30).trans (z_iconst (by decide))
theorem mj_156_31 : mc_P 156 31 = some (.iadd, 1, 0, 0, 0) := by decide +kernel
theorem s_156_31 {x0 x1 x2 x3 : Option Value} {x w : Int32} : mw d 156 Q 31 [x0, x1, x2, x3] (.int w :: .int x :: st) h = mw d 156 Q 32 [x0, x1, x2, x3] (.int (x + w) :: st) h := (mw_at mj_156_31).trans (z_iadd)
theorem mj_156_32 : mc_P 156 32 = some (.iload_n 3, 1, 0, 0, 0) := by decide +kernel
theorem s_156_32 {x0 x1 x2 : Option Value} {w : Value} : mw d 156 Q 32 [x0, x1, x2, some w] (st) h = mv_i w (mw d 156 Q 33 [x0, x1, x2, some w] (w :: st) h) := (mw_at mj_156_32).trans (z_iload_n rfl)
theorem mj_156_33 : mc_P 156 33 = some (.invokestatic 52, 3, 140, 0, 2) := by decide +kernel
theorem s_156_33 {x0 x1 x2 x3 : Option Value} {a0 a1 : Value} : mw (d + 1) 156 Q 33 [x0, x1, x2, x3] (a1 :: a0 :: st) h = (mca st 8 ∧ mca [a0, a1] 2 ∧ mcall d 140 [a0, a1] h (mK (d + 1) 156 Q 36 [x0, x1, x2, x3] st)) := (mw_at mj_156_33).trans ((z_invs (As := [a0, a1]) rfl rfl).trans (congrArg (And _) (mC_nl nl_140)))
theorem mj_156_36 : mc_P 156 36 = some (.invokevirtual 87, 3, 157, 8, 3) := by decide +kernel
theorem s_156_36 {x0 x1 x2 x3 : Option Value} {o : Nat} {a1 a2 : Value} : mw (d + 1) 156 Q 36 [x0, x1, x2, x3] (a2 :: a1 :: .ref o :: st) h = (mg h o 8 ∧ mca st 8 ∧ mca [.ref o, a1, a2] 5 ∧ mcall d 157 [.ref o, a1, a2] h (mK (d + 1) 156 Q 39 [x0, x1, x2, x3] st)) := (mw_at mj_156_36).trans ((z_invv (As := [a1, a2]) (by decide) rfl rfl).trans (congrArg (And _) (congrArg (And _) (mC_nl nl_157))))
theorem mj_156_39 : mc_P 156 39 = some (.iinc 3 1, 3, 0, 0, 0) := by decide +kernel
theorem s_156_39 {x0 x1 x2 : Option Value} {w : Int32} : mw d 156 Q 39 [x0, x1, x2, some (.int w)] (st) h = mw d 156 Q 42 [x0, x1, mk2 x2, some (.int (w + 1))] (st) h := (mw_at mj_156_39).trans (z_iinc rfl (Nat.le_of_ble_eq_true rfl) (by decide) (me_s1_mk (j := 2) (w := x2) rfl))
theorem mj_156_42 : mc_P 156 42 = some (.goto (-36), 3, 0, 0, 0) := by decide +kernel
theorem s_156_42 {x0 x1 x2 x3 : Option Value} : mw d 156 Q 42 [x0, x1, x2, x3] (st) h = mw d 156 Q 6 [x0, x1, x2, x3] (st) h := (mw_at mj_156_42).trans (z_goto (by decide))
theorem mj_156_45 : mc_P 156 45 = some (.aload_n 0, 1, 0, 0, 0) := by decide +kernel
theorem s_156_45 {x1 x2 x3 : Option Value} {w : Value} : mw d 156 Q 45 [some w, x1, x2, x3] (st) h = mv_a w (mw d 156 Q 46 [some w, x1, x2, x3] (w :: st) h) := (mw_at mj_156_45).trans (z_aload_n rfl)
theorem mj_156_46 : mc_P 156 46 = some (.iload_n 2, 1, 0, 0, 0) := by decide +kernel
theorem s_156_46 {x0 x1 x3 : Option Value} {w : Value} : mw d 156 Q 46 [x0, x1, some w, x3] (st) h = mv_i w (mw d 156 Q 47 [x0, x1, some w, x3] (w :: st) h) := (mw_at mj_156_46).trans (z_iload_n rfl)
theorem mj_156_47 : mc_P 156 47 = some (.iload_n 2, 1, 0, 0, 0) := by decide +kernel
theorem s_156_47 {x0 x1 x3 : Option Value} {w : Value} : mw d 156 Q 47 [x0, x1, some w, x3] (st) h = mv_i w (mw d 156 Q 48 [x0, x1, some w, x3] (w :: st) h) := (mw_at mj_156_47).trans (z_iload_n rfl)
theorem mj_156_48 : mc_P 156 48 = some (.iconst 1, 1, 0, 0, 0) := by decide +kernel
theorem s_156_48 {x0 x1 x2 x3 : Option Value} : mw d 156 Q 48 [x0, x1, x2, x3] (st) h = mw d 156 Q 49 [x0, x1, x2, x3] (.int 1 :: st) h := (mw_at mj_156_48).trans (z_iconst (by decide))
theorem mj_156_49 : mc_P 156 49 = some (.iadd, 1, 0, 0, 0) := by decide +kernel
theorem s_156_49 {x0 x1 x2 x3 : Option Value} {x w : Int32} : mw d 156 Q 49 [x0, x1, x2, x3] (.int w :: .int x :: st) h = mw d 156 Q 50 [x0, x1, x2, x3] (.int (x + w) :: st) h := (mw_at mj_156_49).trans (z_iadd)
theorem mj_156_50 : mc_P 156 50 = some (.invokestatic 52, 3, 140, 0, 2) := by decide +kernel
theorem s_156_50 {x0 x1 x2 x3 : Option Value} {a0 a1 : Value} : mw (d + 1) 156 Q 50 [x0, x1, x2, x3] (a1 :: a0 :: st) h = (mca st 8 ∧ mca [a0, a1] 2 ∧ mcall d 140 [a0, a1] h (mK (d + 1) 156 Q 53 [x0, x1, x2, x3] st)) := (mw_at mj_156_50).trans ((z_invs (As := [a0, a1]) rfl rfl).trans (congrArg (And _) (mC_nl nl_140)))
theorem mj_156_53 : mc_P 156 53 = some (.iload_n 2, 1, 0, 0, 0) := by decide +kernel
theorem s_156_53 {x0 x1 x3 : Option Value} {w : Value} : mw d 156 Q 53 [x0, x1, some w, x3] (st) h = mv_i w (mw d 156 Q 54 [x0, x1, some w, x3] (w :: st) h) := (mw_at mj_156_53).trans (z_iload_n rfl)
theorem mj_156_54 : mc_P 156 54 = some (.iconst 1, 1, 0, 0, 0) := by decide +kernel
theorem s_156_54 {x0 x1 x2 x3 : Option Value} : mw d 156 Q 54 [x0, x1, x2, x3] (st) h = mw d 156 Q 55 [x0, x1, x2, x3] (.int 1 :: st) h := (mw_at mj_156_54).trans (z_iconst (by decide))
theorem mj_156_55 : mc_P 156 55 = some (.iadd, 1, 0, 0, 0) := by decide +kernel
theorem s_156_55 {x0 x1 x2 x3 : Option Value} {x w : Int32} : mw d 156 Q 55 [x0, x1, x2, x3] (.int w :: .int x :: st) h = mw d 156 Q 56 [x0, x1, x2, x3] (.int (x + w) :: st) h := (mw_at mj_156_55).trans (z_iadd)
theorem mj_156_56 : mc_P 156 56 = some (.iload_n 2, 1, 0, 0, 0) := by decide +kernel
theorem s_156_56 {x0 x1 x3 : Option Value} {w : Value} : mw d 156 Q 56 [x0, x1, some w, x3] (st) h = mv_i w (mw d 156 Q 57 [x0, x1, some w, x3] (w :: st) h) := (mw_at mj_156_56).trans (z_iload_n rfl)
theorem mj_156_57 : mc_P 156 57 = some (.invokestatic 52, 3, 140, 0, 2) := by decide +kernel
theorem s_156_57 {x0 x1 x2 x3 : Option Value} {a0 a1 : Value} : mw (d + 1) 156 Q 57 [x0, x1, x2, x3] (a1 :: a0 :: st) h = (mca st 8 ∧ mca [a0, a1] 2 ∧ mcall d 140 [a0, a1] h (mK (d + 1) 156 Q 60 [x0, x1, x2, x3] st)) := (mw_at mj_156_57).trans ((z_invs (As := [a0, a1]) rfl rfl).trans (congrArg (And _) (mC_nl nl_140)))
theorem mj_156_60 : mc_P 156 60 = some (.invokevirtual 87, 3, 157, 8, 3) := by decide +kernel
theorem s_156_60 {x0 x1 x2 x3 : Option Value} {o : Nat} {a1 a2 : Value} : mw (d + 1) 156 Q 60 [x0, x1, x2, x3] (a2 :: a1 :: .ref o :: st) h = (mg h o 8 ∧ mca st 8 ∧ mca [.ref o, a1, a2] 5 ∧ mcall d 157 [.ref o, a1, a2] h (mK (d + 1) 156 Q 63 [x0, x1, x2, x3] st)) := (mw_at mj_156_60).trans ((z_invv (As := [a1, a2]) (by decide) rfl rfl).trans (congrArg (And _) (congrArg (And _) (mC_nl nl_157))))
theorem mj_156_63 : mc_P 156 63 = some (.return_, 1, 0, 0, 0) := by decide +kernel
theorem s_156_63 {x0 x1 x2 x3 : Option Value} : mw d 156 Q 63 [x0, x1, x2, x3] ([]) h = Q none h := (mw_at mj_156_63).trans (z_vret)
theorem e_156 {a0 : Nat} {a1 : Int32} : mcall d 156 [.ref a0, .int a1] h Q = mw d 156 Q 0 [some (.ref a0), some (.int a1), none, none] [] h := by
  show mw d 156 Q 0 (me_en (mc_nl 156) _) [] h = _
  rw [nl_156]; rfl

/-! InvariantDesk$State.swap(II)V -/
theorem mj_157_0 : mc_P 157 0 = some (.aload_n 0, 1, 0, 0, 0) := by decide +kernel
theorem s_157_0 {x1 x2 x3 x4 : Option Value} {w : Value} : mw d 157 Q 0 [some w, x1, x2, x3, x4] (st) h = mv_a w (mw d 157 Q 1 [some w, x1, x2, x3, x4] (w :: st) h) := (mw_at mj_157_0).trans (z_aload_n rfl)
theorem mj_157_1 : mc_P 157 1 = some (.getfield 11, 3, 8, 3, 0) := by decide +kernel
theorem s_157_1 {x0 x1 x2 x3 x4 : Option Value} {o : Nat} : mw d 157 Q 1 [x0, x1, x2, x3, x4] (.ref o :: st) h = (mg h o 8 ∧ mw d 157 Q 4 [x0, x1, x2, x3, x4] (va_rf (mh_r h o 3) :: st) h) := (mw_at mj_157_1).trans (z_getr (by decide) (by decide) rfl)
theorem mj_157_4 : mc_P 157 4 = some (.iload_n 1, 1, 0, 0, 0) := by decide +kernel
theorem s_157_4 {x0 x2 x3 x4 : Option Value} {w : Value} : mw d 157 Q 4 [x0, some w, x2, x3, x4] (st) h = mv_i w (mw d 157 Q 5 [x0, some w, x2, x3, x4] (w :: st) h) := (mw_at mj_157_4).trans (z_iload_n rfl)
theorem mj_157_5 : mc_P 157 5 = some (.laload, 1, 0, 0, 0) := by decide +kernel
theorem s_157_5 {x0 x1 x2 x3 x4 : Option Value} {o : Nat} {i : Int32} : mw d 157 Q 5 [x0, x1, x2, x3, x4] (.int i :: .ref o :: st) h = (mg h o 101 ∧ mx i (mh_l h o) ∧ mw d 157 Q 6 [x0, x1, x2, x3, x4] (.long (mh_j h o i.toNatClampNeg) :: st) h) := (mw_at mj_157_5).trans (z_lald)
theorem mj_157_6 : mc_P 157 6 = some (.lstore_n 3, 1, 0, 0, 0) := by decide +kernel
theorem s_157_6 {x0 x1 x2 x3 x4 : Option Value} {w : Int64} : mw d 157 Q 6 [x0, x1, x2, x3, x4] (.long w :: st) h = mw d 157 Q 7 [x0, x1, mk2 x2, some (.long w), none] (st) h := (mw_at mj_157_6).trans (z_lstore_n (Nat.le_of_ble_eq_true rfl) (me_s2_mk (j := 2) (w := x2) rfl))
theorem mj_157_7 : mc_P 157 7 = some (.aload_n 0, 1, 0, 0, 0) := by decide +kernel
theorem s_157_7 {x1 x2 x3 x4 : Option Value} {w : Value} : mw d 157 Q 7 [some w, x1, x2, x3, x4] (st) h = mv_a w (mw d 157 Q 8 [some w, x1, x2, x3, x4] (w :: st) h) := (mw_at mj_157_7).trans (z_aload_n rfl)
theorem mj_157_8 : mc_P 157 8 = some (.getfield 11, 3, 8, 3, 0) := by decide +kernel
theorem s_157_8 {x0 x1 x2 x3 x4 : Option Value} {o : Nat} : mw d 157 Q 8 [x0, x1, x2, x3, x4] (.ref o :: st) h = (mg h o 8 ∧ mw d 157 Q 11 [x0, x1, x2, x3, x4] (va_rf (mh_r h o 3) :: st) h) := (mw_at mj_157_8).trans (z_getr (by decide) (by decide) rfl)
theorem mj_157_11 : mc_P 157 11 = some (.iload_n 1, 1, 0, 0, 0) := by decide +kernel
theorem s_157_11 {x0 x2 x3 x4 : Option Value} {w : Value} : mw d 157 Q 11 [x0, some w, x2, x3, x4] (st) h = mv_i w (mw d 157 Q 12 [x0, some w, x2, x3, x4] (w :: st) h) := (mw_at mj_157_11).trans (z_iload_n rfl)
theorem mj_157_12 : mc_P 157 12 = some (.aload_n 0, 1, 0, 0, 0) := by decide +kernel
theorem s_157_12 {x1 x2 x3 x4 : Option Value} {w : Value} : mw d 157 Q 12 [some w, x1, x2, x3, x4] (st) h = mv_a w (mw d 157 Q 13 [some w, x1, x2, x3, x4] (w :: st) h) := (mw_at mj_157_12).trans (z_aload_n rfl)
theorem mj_157_13 : mc_P 157 13 = some (.getfield 11, 3, 8, 3, 0) := by decide +kernel
theorem s_157_13 {x0 x1 x2 x3 x4 : Option Value} {o : Nat} : mw d 157 Q 13 [x0, x1, x2, x3, x4] (.ref o :: st) h = (mg h o 8 ∧ mw d 157 Q 16 [x0, x1, x2, x3, x4] (va_rf (mh_r h o 3) :: st) h) := (mw_at mj_157_13).trans (z_getr (by decide) (by decide) rfl)
theorem mj_157_16 : mc_P 157 16 = some (.iload_n 2, 1, 0, 0, 0) := by decide +kernel
theorem s_157_16 {x0 x1 x3 x4 : Option Value} {w : Value} : mw d 157 Q 16 [x0, x1, some w, x3, x4] (st) h = mv_i w (mw d 157 Q 17 [x0, x1, some w, x3, x4] (w :: st) h) := (mw_at mj_157_16).trans (z_iload_n rfl)
theorem mj_157_17 : mc_P 157 17 = some (.laload, 1, 0, 0, 0) := by decide +kernel
theorem s_157_17 {x0 x1 x2 x3 x4 : Option Value} {o : Nat} {i : Int32} : mw d 157 Q 17 [x0, x1, x2, x3, x4] (.int i :: .ref o :: st) h = (mg h o 101 ∧ mx i (mh_l h o) ∧ mw d 157 Q 18 [x0, x1, x2, x3, x4] (.long (mh_j h o i.toNatClampNeg) :: st) h) := (mw_at mj_157_17).trans (z_lald)
theorem mj_157_18 : mc_P 157 18 = some (.lastore, 1, 0, 0, 0) := by decide +kernel
theorem s_157_18 {x0 x1 x2 x3 x4 : Option Value} {o : Nat} {i : Int32} {w : Int64} : mw d 157 Q 18 [x0, x1, x2, x3, x4] (.long w :: .int i :: .ref o :: st) h = (mg h o 101 ∧ mx i (mh_l h o) ∧ mw d 157 Q 19 [x0, x1, x2, x3, x4] (st) (mh_sj h o i.toNatClampNeg w)) := (mw_at mj_157_18).trans (z_last)
theorem mj_157_19 : mc_P 157 19 = some (.aload_n 0, 1, 0, 0, 0) := by decide +kernel
theorem s_157_19 {x1 x2 x3 x4 : Option Value} {w : Value} : mw d 157 Q 19 [some w, x1, x2, x3, x4] (st) h = mv_a w (mw d 157 Q 20 [some w, x1, x2, x3, x4] (w :: st) h) := (mw_at mj_157_19).trans (z_aload_n rfl)
theorem mj_157_20 : mc_P 157 20 = some (.getfield 11, 3, 8, 3, 0) := by decide +kernel
theorem s_157_20 {x0 x1 x2 x3 x4 : Option Value} {o : Nat} : mw d 157 Q 20 [x0, x1, x2, x3, x4] (.ref o :: st) h = (mg h o 8 ∧ mw d 157 Q 23 [x0, x1, x2, x3, x4] (va_rf (mh_r h o 3) :: st) h) := (mw_at mj_157_20).trans (z_getr (by decide) (by decide) rfl)
theorem mj_157_23 : mc_P 157 23 = some (.iload_n 2, 1, 0, 0, 0) := by decide +kernel
theorem s_157_23 {x0 x1 x3 x4 : Option Value} {w : Value} : mw d 157 Q 23 [x0, x1, some w, x3, x4] (st) h = mv_i w (mw d 157 Q 24 [x0, x1, some w, x3, x4] (w :: st) h) := (mw_at mj_157_23).trans (z_iload_n rfl)
theorem mj_157_24 : mc_P 157 24 = some (.lload_n 3, 1, 0, 0, 0) := by decide +kernel
theorem s_157_24 {x0 x1 x2 x4 : Option Value} {w : Value} : mw d 157 Q 24 [x0, x1, x2, some w, x4] (st) h = mv_l w (mw d 157 Q 25 [x0, x1, x2, some w, x4] (w :: st) h) := (mw_at mj_157_24).trans (z_lload_n rfl)
theorem mj_157_25 : mc_P 157 25 = some (.lastore, 1, 0, 0, 0) := by decide +kernel
theorem s_157_25 {x0 x1 x2 x3 x4 : Option Value} {o : Nat} {i : Int32} {w : Int64} : mw d 157 Q 25 [x0, x1, x2, x3, x4] (.long w :: .int i :: .ref o :: st) h = (mg h o 101 ∧ mx i (mh_l h o) ∧ mw d 157 Q 26 [x0, x1, x2, x3, x4] (st) (mh_sj h o i.toNatClampNeg w)) := (mw_at mj_157_25).trans (z_last)
theorem mj_157_26 : mc_P 157 26 = some (.return_, 1, 0, 0, 0) := by decide +kernel
theorem s_157_26 {x0 x1 x2 x3 x4 : Option Value} : mw d 157 Q 26 [x0, x1, x2, x3, x4] ([]) h = Q none h := (mw_at mj_157_26).trans (z_vret)
theorem e_157 {a0 : Nat} {a1 : Int32} {a2 : Int32} : mcall d 157 [.ref a0, .int a1, .int a2] h Q = mw d 157 Q 0 [some (.ref a0), some (.int a1), some (.int a2), none, none] [] h := by
  show mw d 157 Q 0 (me_en (mc_nl 157) _) [] h = _
  rw [nl_157]; rfl

/-! InvariantDesk$State.shift(IJJ)V -/
theorem mj_158_0 : mc_P 158 0 = some (.iconst 2, 1, 0, 0, 0) := by decide +kernel
theorem s_158_0 {x0 x1 x2 x3 x4 x5 x6 x7 : Option Value} : mw d 158 Q 0 [x0, x1, x2, x3, x4, x5, x6, x7] (st) h = mw d 158 Q 1 [x0, x1, x2, x3, x4, x5, x6, x7] (.int 2 :: st) h := (mw_at mj_158_0).trans (z_iconst (by decide))
theorem mj_158_1 : mc_P 158 1 = some (.iload_n 1, 1, 0, 0, 0) := by decide +kernel
theorem s_158_1 {x0 x2 x3 x4 x5 x6 x7 : Option Value} {w : Value} : mw d 158 Q 1 [x0, some w, x2, x3, x4, x5, x6, x7] (st) h = mv_i w (mw d 158 Q 2 [x0, some w, x2, x3, x4, x5, x6, x7] (w :: st) h) := (mw_at mj_158_1).trans (z_iload_n rfl)
theorem mj_158_2 : mc_P 158 2 = some (.imul, 1, 0, 0, 0) := by decide +kernel
theorem s_158_2 {x0 x1 x2 x3 x4 x5 x6 x7 : Option Value} {x w : Int32} : mw d 158 Q 2 [x0, x1, x2, x3, x4, x5, x6, x7] (.int w :: .int x :: st) h = mw d 158 Q 3 [x0, x1, x2, x3, x4, x5, x6, x7] (.int (x * w) :: st) h := (mw_at mj_158_2).trans (z_imul)
theorem mj_158_3 : mc_P 158 3 = some (.istore 6, 2, 0, 0, 0) := by decide +kernel
theorem s_158_3 {x0 x1 x2 x3 x4 x5 x6 x7 : Option Value} {w : Int32} : mw d 158 Q 3 [x0, x1, x2, x3, x4, x5, x6, x7] (.int w :: st) h = mw d 158 Q 5 [x0, x1, x2, x3, x4, mk2 x5, some (.int w), x7] (st) h := (mw_at mj_158_3).trans (z_istore (Nat.le_of_ble_eq_true rfl) (me_s1_mk (j := 5) (w := x5) rfl))
theorem mj_158_5 : mc_P 158 5 = some (.iconst 0, 1, 0, 0, 0) := by decide +kernel
theorem s_158_5 {x0 x1 x2 x3 x4 x5 x6 x7 : Option Value} : mw d 158 Q 5 [x0, x1, x2, x3, x4, x5, x6, x7] (st) h = mw d 158 Q 6 [x0, x1, x2, x3, x4, x5, x6, x7] (.int 0 :: st) h := (mw_at mj_158_5).trans (z_iconst (by decide))
theorem mj_158_6 : mc_P 158 6 = some (.istore 7, 2, 0, 0, 0) := by decide +kernel
theorem s_158_6 {x0 x1 x2 x3 x4 x5 x6 x7 : Option Value} {w : Int32} : mw d 158 Q 6 [x0, x1, x2, x3, x4, x5, x6, x7] (.int w :: st) h = mw d 158 Q 8 [x0, x1, x2, x3, x4, x5, mk2 x6, some (.int w)] (st) h := (mw_at mj_158_6).trans (z_istore (Nat.le_of_ble_eq_true rfl) (me_s1_mk (j := 6) (w := x6) rfl))
theorem mj_158_8 : mc_P 158 8 = some (.iload 7, 2, 0, 0, 0) := by decide +kernel
theorem s_158_8 {x0 x1 x2 x3 x4 x5 x6 : Option Value} {w : Value} : mw d 158 Q 8 [x0, x1, x2, x3, x4, x5, x6, some w] (st) h = mv_i w (mw d 158 Q 10 [x0, x1, x2, x3, x4, x5, x6, some w] (w :: st) h) := (mw_at mj_158_8).trans (z_iload rfl)
theorem mj_158_10 : mc_P 158 10 = some (.iconst 2, 1, 0, 0, 0) := by decide +kernel
theorem s_158_10 {x0 x1 x2 x3 x4 x5 x6 x7 : Option Value} : mw d 158 Q 10 [x0, x1, x2, x3, x4, x5, x6, x7] (st) h = mw d 158 Q 11 [x0, x1, x2, x3, x4, x5, x6, x7] (.int 2 :: st) h := (mw_at mj_158_10).trans (z_iconst (by decide))
theorem mj_158_11 : mc_P 158 11 = some (.aload_n 0, 1, 0, 0, 0) := by decide +kernel
theorem s_158_11 {x1 x2 x3 x4 x5 x6 x7 : Option Value} {w : Value} : mw d 158 Q 11 [some w, x1, x2, x3, x4, x5, x6, x7] (st) h = mv_a w (mw d 158 Q 12 [some w, x1, x2, x3, x4, x5, x6, x7] (w :: st) h) := (mw_at mj_158_11).trans (z_aload_n rfl)
theorem mj_158_12 : mc_P 158 12 = some (.getfield 26, 3, 8, 1, 0) := by decide +kernel
theorem s_158_12 {x0 x1 x2 x3 x4 x5 x6 x7 : Option Value} {o : Nat} : mw d 158 Q 12 [x0, x1, x2, x3, x4, x5, x6, x7] (.ref o :: st) h = (mg h o 8 ∧ mw d 158 Q 15 [x0, x1, x2, x3, x4, x5, x6, x7] (.int (mh_i h o 1) :: st) h) := (mw_at mj_158_12).trans (z_geti (by decide) (by decide) (Or.inl rfl))
theorem mj_158_15 : mc_P 158 15 = some (.imul, 1, 0, 0, 0) := by decide +kernel
theorem s_158_15 {x0 x1 x2 x3 x4 x5 x6 x7 : Option Value} {x w : Int32} : mw d 158 Q 15 [x0, x1, x2, x3, x4, x5, x6, x7] (.int w :: .int x :: st) h = mw d 158 Q 16 [x0, x1, x2, x3, x4, x5, x6, x7] (.int (x * w) :: st) h := (mw_at mj_158_15).trans (z_imul)
theorem mj_158_16 : mc_P 158 16 = some (.if_icmp .ge 52, 3, 0, 0, 0) := by decide +kernel
theorem s_158_16 {x0 x1 x2 x3 x4 x5 x6 x7 : Option Value} {x w : Int32} : mw d 158 Q 16 [x0, x1, x2, x3, x4, x5, x6, x7] (.int w :: .int x :: st) h = mB (w ≤ x) (mw d 158 Q) 68 19 [x0, x1, x2, x3, x4, x5, x6, x7] st h := (mw_at mj_158_16).trans (z_icmp_ge (by decide) rfl)
theorem mj_158_19 : mc_P 158 19 = some (.iload 7, 2, 0, 0, 0) := by decide +kernel
theorem s_158_19 {x0 x1 x2 x3 x4 x5 x6 : Option Value} {w : Value} : mw d 158 Q 19 [x0, x1, x2, x3, x4, x5, x6, some w] (st) h = mv_i w (mw d 158 Q 21 [x0, x1, x2, x3, x4, x5, x6, some w] (w :: st) h) := (mw_at mj_158_19).trans (z_iload rfl)
theorem mj_158_21 : mc_P 158 21 = some (.iconst 2, 1, 0, 0, 0) := by decide +kernel
theorem s_158_21 {x0 x1 x2 x3 x4 x5 x6 x7 : Option Value} : mw d 158 Q 21 [x0, x1, x2, x3, x4, x5, x6, x7] (st) h = mw d 158 Q 22 [x0, x1, x2, x3, x4, x5, x6, x7] (.int 2 :: st) h := (mw_at mj_158_21).trans (z_iconst (by decide))
theorem mj_158_22 : mc_P 158 22 = some (.idiv, 1, 0, 0, 0) := by decide +kernel
theorem s_158_22 {x0 x1 x2 x3 x4 x5 x6 x7 : Option Value} {x w : Int32} : mw d 158 Q 22 [x0, x1, x2, x3, x4, x5, x6, x7] (.int w :: .int x :: st) h = (¬ w = 0 ∧ mw d 158 Q 23 [x0, x1, x2, x3, x4, x5, x6, x7] (.int (x / w) :: st) h) := (mw_at mj_158_22).trans (z_idiv)
theorem mj_158_23 : mc_P 158 23 = some (.iload_n 1, 1, 0, 0, 0) := by decide +kernel
theorem s_158_23 {x0 x2 x3 x4 x5 x6 x7 : Option Value} {w : Value} : mw d 158 Q 23 [x0, some w, x2, x3, x4, x5, x6, x7] (st) h = mv_i w (mw d 158 Q 24 [x0, some w, x2, x3, x4, x5, x6, x7] (w :: st) h) := (mw_at mj_158_23).trans (z_iload_n rfl)
theorem mj_158_24 : mc_P 158 24 = some (.if_icmp .eq 38, 3, 0, 0, 0) := by decide +kernel
theorem s_158_24 {x0 x1 x2 x3 x4 x5 x6 x7 : Option Value} {x w : Int32} : mw d 158 Q 24 [x0, x1, x2, x3, x4, x5, x6, x7] (.int w :: .int x :: st) h = mB (x = w) (mw d 158 Q) 62 27 [x0, x1, x2, x3, x4, x5, x6, x7] st h := (mw_at mj_158_24).trans (z_icmp_eq (by decide) rfl)
theorem mj_158_27 : mc_P 158 27 = some (.aload_n 0, 1, 0, 0, 0) := by decide +kernel
theorem s_158_27 {x1 x2 x3 x4 x5 x6 x7 : Option Value} {w : Value} : mw d 158 Q 27 [some w, x1, x2, x3, x4, x5, x6, x7] (st) h = mv_a w (mw d 158 Q 28 [some w, x1, x2, x3, x4, x5, x6, x7] (w :: st) h) := (mw_at mj_158_27).trans (z_aload_n rfl)
theorem mj_158_28 : mc_P 158 28 = some (.getfield 11, 3, 8, 3, 0) := by decide +kernel
theorem s_158_28 {x0 x1 x2 x3 x4 x5 x6 x7 : Option Value} {o : Nat} : mw d 158 Q 28 [x0, x1, x2, x3, x4, x5, x6, x7] (.ref o :: st) h = (mg h o 8 ∧ mw d 158 Q 31 [x0, x1, x2, x3, x4, x5, x6, x7] (va_rf (mh_r h o 3) :: st) h) := (mw_at mj_158_28).trans (z_getr (by decide) (by decide) rfl)
theorem mj_158_31 : mc_P 158 31 = some (.iload 6, 2, 0, 0, 0) := by decide +kernel
theorem s_158_31 {x0 x1 x2 x3 x4 x5 x7 : Option Value} {w : Value} : mw d 158 Q 31 [x0, x1, x2, x3, x4, x5, some w, x7] (st) h = mv_i w (mw d 158 Q 33 [x0, x1, x2, x3, x4, x5, some w, x7] (w :: st) h) := (mw_at mj_158_31).trans (z_iload rfl)
theorem mj_158_33 : mc_P 158 33 = some (.iload 7, 2, 0, 0, 0) := by decide +kernel
theorem s_158_33 {x0 x1 x2 x3 x4 x5 x6 : Option Value} {w : Value} : mw d 158 Q 33 [x0, x1, x2, x3, x4, x5, x6, some w] (st) h = mv_i w (mw d 158 Q 35 [x0, x1, x2, x3, x4, x5, x6, some w] (w :: st) h) := (mw_at mj_158_33).trans (z_iload rfl)
theorem mj_158_35 : mc_P 158 35 = some (.invokestatic 52, 3, 140, 0, 2) := by decide +kernel
theorem s_158_35 {x0 x1 x2 x3 x4 x5 x6 x7 : Option Value} {a0 a1 : Value} : mw (d + 1) 158 Q 35 [x0, x1, x2, x3, x4, x5, x6, x7] (a1 :: a0 :: st) h = (mca st 8 ∧ mca [a0, a1] 2 ∧ mcall d 140 [a0, a1] h (mK (d + 1) 158 Q 38 [x0, x1, x2, x3, x4, x5, x6, x7] st)) := (mw_at mj_158_35).trans ((z_invs (As := [a0, a1]) rfl rfl).trans (congrArg (And _) (mC_nl nl_140)))
theorem mj_158_38 : mc_P 158 38 = some (.dup2, 1, 0, 0, 0) := by decide +kernel
theorem s_158_38 {x0 x1 x2 x3 x4 x5 x6 x7 : Option Value} {x : Int32} {w : Value} : mw d 158 Q 38 [x0, x1, x2, x3, x4, x5, x6, x7] (.int x :: w :: st) h = (w.category = 1 ∧ mw d 158 Q 39 [x0, x1, x2, x3, x4, x5, x6, x7] (.int x :: w :: .int x :: w :: st) h) := (mw_at mj_158_38).trans (z_dup2)
theorem s_158_38l {x0 x1 x2 x3 x4 x5 x6 x7 : Option Value} {x : Int64} {w : Value} : mw d 158 Q 38 [x0, x1, x2, x3, x4, x5, x6, x7] (.long x :: w :: st) h = mw d 158 Q 39 [x0, x1, x2, x3, x4, x5, x6, x7] (.long x :: .long x :: w :: st) h := (mw_at mj_158_38).trans (z_dup2l)
theorem mj_158_39 : mc_P 158 39 = some (.laload, 1, 0, 0, 0) := by decide +kernel
theorem s_158_39 {x0 x1 x2 x3 x4 x5 x6 x7 : Option Value} {o : Nat} {i : Int32} : mw d 158 Q 39 [x0, x1, x2, x3, x4, x5, x6, x7] (.int i :: .ref o :: st) h = (mg h o 101 ∧ mx i (mh_l h o) ∧ mw d 158 Q 40 [x0, x1, x2, x3, x4, x5, x6, x7] (.long (mh_j h o i.toNatClampNeg) :: st) h) := (mw_at mj_158_39).trans (z_lald)
theorem mj_158_40 : mc_P 158 40 = some (.lload_n 2, 1, 0, 0, 0) := by decide +kernel
theorem s_158_40 {x0 x1 x3 x4 x5 x6 x7 : Option Value} {w : Value} : mw d 158 Q 40 [x0, x1, some w, x3, x4, x5, x6, x7] (st) h = mv_l w (mw d 158 Q 41 [x0, x1, some w, x3, x4, x5, x6, x7] (w :: st) h) := (mw_at mj_158_40).trans (z_lload_n rfl)
theorem mj_158_41 : mc_P 158 41 = some (.lsub, 1, 0, 0, 0) := by decide +kernel
theorem s_158_41 {x0 x1 x2 x3 x4 x5 x6 x7 : Option Value} {x w : Int64} : mw d 158 Q 41 [x0, x1, x2, x3, x4, x5, x6, x7] (.long w :: .long x :: st) h = mw d 158 Q 42 [x0, x1, x2, x3, x4, x5, x6, x7] (.long (x - w) :: st) h := (mw_at mj_158_41).trans (z_lsub)
theorem mj_158_42 : mc_P 158 42 = some (.lastore, 1, 0, 0, 0) := by decide +kernel
theorem s_158_42 {x0 x1 x2 x3 x4 x5 x6 x7 : Option Value} {o : Nat} {i : Int32} {w : Int64} : mw d 158 Q 42 [x0, x1, x2, x3, x4, x5, x6, x7] (.long w :: .int i :: .ref o :: st) h = (mg h o 101 ∧ mx i (mh_l h o) ∧ mw d 158 Q 43 [x0, x1, x2, x3, x4, x5, x6, x7] (st) (mh_sj h o i.toNatClampNeg w)) := (mw_at mj_158_42).trans (z_last)
theorem mj_158_43 : mc_P 158 43 = some (.aload_n 0, 1, 0, 0, 0) := by decide +kernel
theorem s_158_43 {x1 x2 x3 x4 x5 x6 x7 : Option Value} {w : Value} : mw d 158 Q 43 [some w, x1, x2, x3, x4, x5, x6, x7] (st) h = mv_a w (mw d 158 Q 44 [some w, x1, x2, x3, x4, x5, x6, x7] (w :: st) h) := (mw_at mj_158_43).trans (z_aload_n rfl)
theorem mj_158_44 : mc_P 158 44 = some (.getfield 11, 3, 8, 3, 0) := by decide +kernel
theorem s_158_44 {x0 x1 x2 x3 x4 x5 x6 x7 : Option Value} {o : Nat} : mw d 158 Q 44 [x0, x1, x2, x3, x4, x5, x6, x7] (.ref o :: st) h = (mg h o 8 ∧ mw d 158 Q 47 [x0, x1, x2, x3, x4, x5, x6, x7] (va_rf (mh_r h o 3) :: st) h) := (mw_at mj_158_44).trans (z_getr (by decide) (by decide) rfl)
theorem mj_158_47 : mc_P 158 47 = some (.iload 6, 2, 0, 0, 0) := by decide +kernel
theorem s_158_47 {x0 x1 x2 x3 x4 x5 x7 : Option Value} {w : Value} : mw d 158 Q 47 [x0, x1, x2, x3, x4, x5, some w, x7] (st) h = mv_i w (mw d 158 Q 49 [x0, x1, x2, x3, x4, x5, some w, x7] (w :: st) h) := (mw_at mj_158_47).trans (z_iload rfl)
theorem mj_158_49 : mc_P 158 49 = some (.iconst 1, 1, 0, 0, 0) := by decide +kernel
theorem s_158_49 {x0 x1 x2 x3 x4 x5 x6 x7 : Option Value} : mw d 158 Q 49 [x0, x1, x2, x3, x4, x5, x6, x7] (st) h = mw d 158 Q 50 [x0, x1, x2, x3, x4, x5, x6, x7] (.int 1 :: st) h := (mw_at mj_158_49).trans (z_iconst (by decide))
theorem mj_158_50 : mc_P 158 50 = some (.iadd, 1, 0, 0, 0) := by decide +kernel
theorem s_158_50 {x0 x1 x2 x3 x4 x5 x6 x7 : Option Value} {x w : Int32} : mw d 158 Q 50 [x0, x1, x2, x3, x4, x5, x6, x7] (.int w :: .int x :: st) h = mw d 158 Q 51 [x0, x1, x2, x3, x4, x5, x6, x7] (.int (x + w) :: st) h := (mw_at mj_158_50).trans (z_iadd)
theorem mj_158_51 : mc_P 158 51 = some (.iload 7, 2, 0, 0, 0) := by decide +kernel
theorem s_158_51 {x0 x1 x2 x3 x4 x5 x6 : Option Value} {w : Value} : mw d 158 Q 51 [x0, x1, x2, x3, x4, x5, x6, some w] (st) h = mv_i w (mw d 158 Q 53 [x0, x1, x2, x3, x4, x5, x6, some w] (w :: st) h) := (mw_at mj_158_51).trans (z_iload rfl)
theorem mj_158_53 : mc_P 158 53 = some (.invokestatic 52, 3, 140, 0, 2) := by decide +kernel
theorem s_158_53 {x0 x1 x2 x3 x4 x5 x6 x7 : Option Value} {a0 a1 : Value} : mw (d + 1) 158 Q 53 [x0, x1, x2, x3, x4, x5, x6, x7] (a1 :: a0 :: st) h = (mca st 8 ∧ mca [a0, a1] 2 ∧ mcall d 140 [a0, a1] h (mK (d + 1) 158 Q 56 [x0, x1, x2, x3, x4, x5, x6, x7] st)) := (mw_at mj_158_53).trans ((z_invs (As := [a0, a1]) rfl rfl).trans (congrArg (And _) (mC_nl nl_140)))
theorem mj_158_56 : mc_P 158 56 = some (.dup2, 1, 0, 0, 0) := by decide +kernel
theorem s_158_56 {x0 x1 x2 x3 x4 x5 x6 x7 : Option Value} {x : Int32} {w : Value} : mw d 158 Q 56 [x0, x1, x2, x3, x4, x5, x6, x7] (.int x :: w :: st) h = (w.category = 1 ∧ mw d 158 Q 57 [x0, x1, x2, x3, x4, x5, x6, x7] (.int x :: w :: .int x :: w :: st) h) := (mw_at mj_158_56).trans (z_dup2)
theorem s_158_56l {x0 x1 x2 x3 x4 x5 x6 x7 : Option Value} {x : Int64} {w : Value} : mw d 158 Q 56 [x0, x1, x2, x3, x4, x5, x6, x7] (.long x :: w :: st) h = mw d 158 Q 57 [x0, x1, x2, x3, x4, x5, x6, x7] (.long x :: .long x :: w :: st) h := (mw_at mj_158_56).trans (z_dup2l)
theorem mj_158_57 : mc_P 158 57 = some (.laload, 1, 0, 0, 0) := by decide +kernel
theorem s_158_57 {x0 x1 x2 x3 x4 x5 x6 x7 : Option Value} {o : Nat} {i : Int32} : mw d 158 Q 57 [x0, x1, x2, x3, x4, x5, x6, x7] (.int i :: .ref o :: st) h = (mg h o 101 ∧ mx i (mh_l h o) ∧ mw d 158 Q 58 [x0, x1, x2, x3, x4, x5, x6, x7] (.long (mh_j h o i.toNatClampNeg) :: st) h) := (mw_at mj_158_57).trans (z_lald)
theorem mj_158_58 : mc_P 158 58 = some (.lload 4, 2, 0, 0, 0) := by decide +kernel
theorem s_158_58 {x0 x1 x2 x3 x5 x6 x7 : Option Value} {w : Value} : mw d 158 Q 58 [x0, x1, x2, x3, some w, x5, x6, x7] (st) h = mv_l w (mw d 158 Q 60 [x0, x1, x2, x3, some w, x5, x6, x7] (w :: st) h) := (mw_at mj_158_58).trans (z_lload rfl)
theorem mj_158_60 : mc_P 158 60 = some (.ladd, 1, 0, 0, 0) := by decide +kernel
theorem s_158_60 {x0 x1 x2 x3 x4 x5 x6 x7 : Option Value} {x w : Int64} : mw d 158 Q 60 [x0, x1, x2, x3, x4, x5, x6, x7] (.long w :: .long x :: st) h = mw d 158 Q 61 [x0, x1, x2, x3, x4, x5, x6, x7] (.long (x + w) :: st) h := (mw_at mj_158_60).trans (z_ladd)
theorem mj_158_61 : mc_P 158 61 = some (.lastore, 1, 0, 0, 0) := by decide +kernel
theorem s_158_61 {x0 x1 x2 x3 x4 x5 x6 x7 : Option Value} {o : Nat} {i : Int32} {w : Int64} : mw d 158 Q 61 [x0, x1, x2, x3, x4, x5, x6, x7] (.long w :: .int i :: .ref o :: st) h = (mg h o 101 ∧ mx i (mh_l h o) ∧ mw d 158 Q 62 [x0, x1, x2, x3, x4, x5, x6, x7] (st) (mh_sj h o i.toNatClampNeg w)) := (mw_at mj_158_61).trans (z_last)
theorem mj_158_62 : mc_P 158 62 = some (.iinc 7 1, 3, 0, 0, 0) := by decide +kernel
theorem s_158_62 {x0 x1 x2 x3 x4 x5 x6 : Option Value} {w : Int32} : mw d 158 Q 62 [x0, x1, x2, x3, x4, x5, x6, some (.int w)] (st) h = mw d 158 Q 65 [x0, x1, x2, x3, x4, x5, mk2 x6, some (.int (w + 1))] (st) h := (mw_at mj_158_62).trans (z_iinc rfl (Nat.le_of_ble_eq_true rfl) (by decide) (me_s1_mk (j := 6) (w := x6) rfl))
theorem mj_158_65 : mc_P 158 65 = some (.goto (-57), 3, 0, 0, 0) := by decide +kernel
theorem s_158_65 {x0 x1 x2 x3 x4 x5 x6 x7 : Option Value} : mw d 158 Q 65 [x0, x1, x2, x3, x4, x5, x6, x7] (st) h = mw d 158 Q 8 [x0, x1, x2, x3, x4, x5, x6, x7] (st) h := (mw_at mj_158_65).trans (z_goto (by decide))
theorem mj_158_68 : mc_P 158 68 = some (.aload_n 0, 1, 0, 0, 0) := by decide +kernel
theorem s_158_68 {x1 x2 x3 x4 x5 x6 x7 : Option Value} {w : Value} : mw d 158 Q 68 [some w, x1, x2, x3, x4, x5, x6, x7] (st) h = mv_a w (mw d 158 Q 69 [some w, x1, x2, x3, x4, x5, x6, x7] (w :: st) h) := (mw_at mj_158_68).trans (z_aload_n rfl)
theorem mj_158_69 : mc_P 158 69 = some (.getfield 11, 3, 8, 3, 0) := by decide +kernel
theorem s_158_69 {x0 x1 x2 x3 x4 x5 x6 x7 : Option Value} {o : Nat} : mw d 158 Q 69 [x0, x1, x2, x3, x4, x5, x6, x7] (.ref o :: st) h = (mg h o 8 ∧ mw d 158 Q 72 [x0, x1, x2, x3, x4, x5, x6, x7] (va_rf (mh_r h o 3) :: st) h) := (mw_at mj_158_69).trans (z_getr (by decide) (by decide) rfl)
theorem mj_158_72 : mc_P 158 72 = some (.iload 6, 2, 0, 0, 0) := by decide +kernel
theorem s_158_72 {x0 x1 x2 x3 x4 x5 x7 : Option Value} {w : Value} : mw d 158 Q 72 [x0, x1, x2, x3, x4, x5, some w, x7] (st) h = mv_i w (mw d 158 Q 74 [x0, x1, x2, x3, x4, x5, some w, x7] (w :: st) h) := (mw_at mj_158_72).trans (z_iload rfl)
theorem mj_158_74 : mc_P 158 74 = some (.iload 6, 2, 0, 0, 0) := by decide +kernel
theorem s_158_74 {x0 x1 x2 x3 x4 x5 x7 : Option Value} {w : Value} : mw d 158 Q 74 [x0, x1, x2, x3, x4, x5, some w, x7] (st) h = mv_i w (mw d 158 Q 76 [x0, x1, x2, x3, x4, x5, some w, x7] (w :: st) h) := (mw_at mj_158_74).trans (z_iload rfl)
theorem mj_158_76 : mc_P 158 76 = some (.iconst 1, 1, 0, 0, 0) := by decide +kernel
theorem s_158_76 {x0 x1 x2 x3 x4 x5 x6 x7 : Option Value} : mw d 158 Q 76 [x0, x1, x2, x3, x4, x5, x6, x7] (st) h = mw d 158 Q 77 [x0, x1, x2, x3, x4, x5, x6, x7] (.int 1 :: st) h := (mw_at mj_158_76).trans (z_iconst (by decide))
theorem mj_158_77 : mc_P 158 77 = some (.iadd, 1, 0, 0, 0) := by decide +kernel
theorem s_158_77 {x0 x1 x2 x3 x4 x5 x6 x7 : Option Value} {x w : Int32} : mw d 158 Q 77 [x0, x1, x2, x3, x4, x5, x6, x7] (.int w :: .int x :: st) h = mw d 158 Q 78 [x0, x1, x2, x3, x4, x5, x6, x7] (.int (x + w) :: st) h := (mw_at mj_158_77).trans (z_iadd)
theorem mj_158_78 : mc_P 158 78 = some (.invokestatic 52, 3, 140, 0, 2) := by decide +kernel
theorem s_158_78 {x0 x1 x2 x3 x4 x5 x6 x7 : Option Value} {a0 a1 : Value} : mw (d + 1) 158 Q 78 [x0, x1, x2, x3, x4, x5, x6, x7] (a1 :: a0 :: st) h = (mca st 8 ∧ mca [a0, a1] 2 ∧ mcall d 140 [a0, a1] h (mK (d + 1) 158 Q 81 [x0, x1, x2, x3, x4, x5, x6, x7] st)) := (mw_at mj_158_78).trans ((z_invs (As := [a0, a1]) rfl rfl).trans (congrArg (And _) (mC_nl nl_140)))
theorem mj_158_81 : mc_P 158 81 = some (.dup2, 1, 0, 0, 0) := by decide +kernel
theorem s_158_81 {x0 x1 x2 x3 x4 x5 x6 x7 : Option Value} {x : Int32} {w : Value} : mw d 158 Q 81 [x0, x1, x2, x3, x4, x5, x6, x7] (.int x :: w :: st) h = (w.category = 1 ∧ mw d 158 Q 82 [x0, x1, x2, x3, x4, x5, x6, x7] (.int x :: w :: .int x :: w :: st) h) := (mw_at mj_158_81).trans (z_dup2)
theorem s_158_81l {x0 x1 x2 x3 x4 x5 x6 x7 : Option Value} {x : Int64} {w : Value} : mw d 158 Q 81 [x0, x1, x2, x3, x4, x5, x6, x7] (.long x :: w :: st) h = mw d 158 Q 82 [x0, x1, x2, x3, x4, x5, x6, x7] (.long x :: .long x :: w :: st) h := (mw_at mj_158_81).trans (z_dup2l)
theorem mj_158_82 : mc_P 158 82 = some (.laload, 1, 0, 0, 0) := by decide +kernel
theorem s_158_82 {x0 x1 x2 x3 x4 x5 x6 x7 : Option Value} {o : Nat} {i : Int32} : mw d 158 Q 82 [x0, x1, x2, x3, x4, x5, x6, x7] (.int i :: .ref o :: st) h = (mg h o 101 ∧ mx i (mh_l h o) ∧ mw d 158 Q 83 [x0, x1, x2, x3, x4, x5, x6, x7] (.long (mh_j h o i.toNatClampNeg) :: st) h) := (mw_at mj_158_82).trans (z_lald)
theorem mj_158_83 : mc_P 158 83 = some (.ldc2_w 50, 3, 0, 0, 2) := by decide +kernel
theorem s_158_83 {x0 x1 x2 x3 x4 x5 x6 x7 : Option Value} : mw d 158 Q 83 [x0, x1, x2, x3, x4, x5, x6, x7] (st) h = mw d 158 Q 86 [x0, x1, x2, x3, x4, x5, x6, x7] (.long 2 :: st) h := (mw_at mj_158_83).trans (z_ldc2 (by decide))
theorem mj_158_86 : mc_P 158 86 = some (.lload_n 2, 1, 0, 0, 0) := by decide +kernel
theorem s_158_86 {x0 x1 x3 x4 x5 x6 x7 : Option Value} {w : Value} : mw d 158 Q 86 [x0, x1, some w, x3, x4, x5, x6, x7] (st) h = mv_l w (mw d 158 Q 87 [x0, x1, some w, x3, x4, x5, x6, x7] (w :: st) h) := (mw_at mj_158_86).trans (z_lload_n rfl)
theorem mj_158_87 : mc_P 158 87 = some (.lmul, 1, 0, 0, 0) := by decide +kernel
theorem s_158_87 {x0 x1 x2 x3 x4 x5 x6 x7 : Option Value} {x w : Int64} : mw d 158 Q 87 [x0, x1, x2, x3, x4, x5, x6, x7] (.long w :: .long x :: st) h = mw d 158 Q 88 [x0, x1, x2, x3, x4, x5, x6, x7] (.long (x * w) :: st) h := (mw_at mj_158_87).trans (z_lmul)
theorem mj_158_88 : mc_P 158 88 = some (.lsub, 1, 0, 0, 0) := by decide +kernel
theorem s_158_88 {x0 x1 x2 x3 x4 x5 x6 x7 : Option Value} {x w : Int64} : mw d 158 Q 88 [x0, x1, x2, x3, x4, x5, x6, x7] (.long w :: .long x :: st) h = mw d 158 Q 89 [x0, x1, x2, x3, x4, x5, x6, x7] (.long (x - w) :: st) h := (mw_at mj_158_88).trans (z_lsub)
theorem mj_158_89 : mc_P 158 89 = some (.lastore, 1, 0, 0, 0) := by decide +kernel
theorem s_158_89 {x0 x1 x2 x3 x4 x5 x6 x7 : Option Value} {o : Nat} {i : Int32} {w : Int64} : mw d 158 Q 89 [x0, x1, x2, x3, x4, x5, x6, x7] (.long w :: .int i :: .ref o :: st) h = (mg h o 101 ∧ mx i (mh_l h o) ∧ mw d 158 Q 90 [x0, x1, x2, x3, x4, x5, x6, x7] (st) (mh_sj h o i.toNatClampNeg w)) := (mw_at mj_158_89).trans (z_last)
theorem mj_158_90 : mc_P 158 90 = some (.aload_n 0, 1, 0, 0, 0) := by decide +kernel
theorem s_158_90 {x1 x2 x3 x4 x5 x6 x7 : Option Value} {w : Value} : mw d 158 Q 90 [some w, x1, x2, x3, x4, x5, x6, x7] (st) h = mv_a w (mw d 158 Q 91 [some w, x1, x2, x3, x4, x5, x6, x7] (w :: st) h) := (mw_at mj_158_90).trans (z_aload_n rfl)
theorem mj_158_91 : mc_P 158 91 = some (.getfield 11, 3, 8, 3, 0) := by decide +kernel
theorem s_158_91 {x0 x1 x2 x3 x4 x5 x6 x7 : Option Value} {o : Nat} : mw d 158 Q 91 [x0, x1, x2, x3, x4, x5, x6, x7] (.ref o :: st) h = (mg h o 8 ∧ mw d 158 Q 94 [x0, x1, x2, x3, x4, x5, x6, x7] (va_rf (mh_r h o 3) :: st) h) := (mw_at mj_158_91).trans (z_getr (by decide) (by decide) rfl)
theorem mj_158_94 : mc_P 158 94 = some (.iload 6, 2, 0, 0, 0) := by decide +kernel
theorem s_158_94 {x0 x1 x2 x3 x4 x5 x7 : Option Value} {w : Value} : mw d 158 Q 94 [x0, x1, x2, x3, x4, x5, some w, x7] (st) h = mv_i w (mw d 158 Q 96 [x0, x1, x2, x3, x4, x5, some w, x7] (w :: st) h) := (mw_at mj_158_94).trans (z_iload rfl)
theorem mj_158_96 : mc_P 158 96 = some (.iconst 1, 1, 0, 0, 0) := by decide +kernel
theorem s_158_96 {x0 x1 x2 x3 x4 x5 x6 x7 : Option Value} : mw d 158 Q 96 [x0, x1, x2, x3, x4, x5, x6, x7] (st) h = mw d 158 Q 97 [x0, x1, x2, x3, x4, x5, x6, x7] (.int 1 :: st) h := (mw_at mj_158_96).trans (z_iconst (by decide))
theorem mj_158_97 : mc_P 158 97 = some (.iadd, 1, 0, 0, 0) := by decide +kernel
theorem s_158_97 {x0 x1 x2 x3 x4 x5 x6 x7 : Option Value} {x w : Int32} : mw d 158 Q 97 [x0, x1, x2, x3, x4, x5, x6, x7] (.int w :: .int x :: st) h = mw d 158 Q 98 [x0, x1, x2, x3, x4, x5, x6, x7] (.int (x + w) :: st) h := (mw_at mj_158_97).trans (z_iadd)
theorem mj_158_98 : mc_P 158 98 = some (.iload 6, 2, 0, 0, 0) := by decide +kernel
theorem s_158_98 {x0 x1 x2 x3 x4 x5 x7 : Option Value} {w : Value} : mw d 158 Q 98 [x0, x1, x2, x3, x4, x5, some w, x7] (st) h = mv_i w (mw d 158 Q 100 [x0, x1, x2, x3, x4, x5, some w, x7] (w :: st) h) := (mw_at mj_158_98).trans (z_iload rfl)
theorem mj_158_100 : mc_P 158 100 = some (.invokestatic 52, 3, 140, 0, 2) := by decide +kernel
theorem s_158_100 {x0 x1 x2 x3 x4 x5 x6 x7 : Option Value} {a0 a1 : Value} : mw (d + 1) 158 Q 100 [x0, x1, x2, x3, x4, x5, x6, x7] (a1 :: a0 :: st) h = (mca st 8 ∧ mca [a0, a1] 2 ∧ mcall d 140 [a0, a1] h (mK (d + 1) 158 Q 103 [x0, x1, x2, x3, x4, x5, x6, x7] st)) := (mw_at mj_158_100).trans ((z_invs (As := [a0, a1]) rfl rfl).trans (congrArg (And _) (mC_nl nl_140)))
theorem mj_158_103 : mc_P 158 103 = some (.dup2, 1, 0, 0, 0) := by decide +kernel
theorem s_158_103 {x0 x1 x2 x3 x4 x5 x6 x7 : Option Value} {x : Int32} {w : Value} : mw d 158 Q 103 [x0, x1, x2, x3, x4, x5, x6, x7] (.int x :: w :: st) h = (w.category = 1 ∧ mw d 158 Q 104 [x0, x1, x2, x3, x4, x5, x6, x7] (.int x :: w :: .int x :: w :: st) h) := (mw_at mj_158_103).trans (z_dup2)
theorem s_158_103l {x0 x1 x2 x3 x4 x5 x6 x7 : Option Value} {x : Int64} {w : Value} : mw d 158 Q 103 [x0, x1, x2, x3, x4, x5, x6, x7] (.long x :: w :: st) h = mw d 158 Q 104 [x0, x1, x2, x3, x4, x5, x6, x7] (.long x :: .long x :: w :: st) h := (mw_at mj_158_103).trans (z_dup2l)
theorem mj_158_104 : mc_P 158 104 = some (.laload, 1, 0, 0, 0) := by decide +kernel
theorem s_158_104 {x0 x1 x2 x3 x4 x5 x6 x7 : Option Value} {o : Nat} {i : Int32} : mw d 158 Q 104 [x0, x1, x2, x3, x4, x5, x6, x7] (.int i :: .ref o :: st) h = (mg h o 101 ∧ mx i (mh_l h o) ∧ mw d 158 Q 105 [x0, x1, x2, x3, x4, x5, x6, x7] (.long (mh_j h o i.toNatClampNeg) :: st) h) := (mw_at mj_158_104).trans (z_lald)
theorem mj_158_105 : mc_P 158 105 = some (.ldc2_w 50, 3, 0, 0, 2) := by decide +kernel
theorem s_158_105 {x0 x1 x2 x3 x4 x5 x6 x7 : Option Value} : mw d 158 Q 105 [x0, x1, x2, x3, x4, x5, x6, x7] (st) h = mw d 158 Q 108 [x0, x1, x2, x3, x4, x5, x6, x7] (.long 2 :: st) h := (mw_at mj_158_105).trans (z_ldc2 (by decide))
theorem mj_158_108 : mc_P 158 108 = some (.lload 4, 2, 0, 0, 0) := by decide +kernel
theorem s_158_108 {x0 x1 x2 x3 x5 x6 x7 : Option Value} {w : Value} : mw d 158 Q 108 [x0, x1, x2, x3, some w, x5, x6, x7] (st) h = mv_l w (mw d 158 Q 110 [x0, x1, x2, x3, some w, x5, x6, x7] (w :: st) h) := (mw_at mj_158_108).trans (z_lload rfl)
theorem mj_158_110 : mc_P 158 110 = some (.lmul, 1, 0, 0, 0) := by decide +kernel
theorem s_158_110 {x0 x1 x2 x3 x4 x5 x6 x7 : Option Value} {x w : Int64} : mw d 158 Q 110 [x0, x1, x2, x3, x4, x5, x6, x7] (.long w :: .long x :: st) h = mw d 158 Q 111 [x0, x1, x2, x3, x4, x5, x6, x7] (.long (x * w) :: st) h := (mw_at mj_158_110).trans (z_lmul)
theorem mj_158_111 : mc_P 158 111 = some (.ladd, 1, 0, 0, 0) := by decide +kernel
theorem s_158_111 {x0 x1 x2 x3 x4 x5 x6 x7 : Option Value} {x w : Int64} : mw d 158 Q 111 [x0, x1, x2, x3, x4, x5, x6, x7] (.long w :: .long x :: st) h = mw d 158 Q 112 [x0, x1, x2, x3, x4, x5, x6, x7] (.long (x + w) :: st) h := (mw_at mj_158_111).trans (z_ladd)
theorem mj_158_112 : mc_P 158 112 = some (.lastore, 1, 0, 0, 0) := by decide +kernel
theorem s_158_112 {x0 x1 x2 x3 x4 x5 x6 x7 : Option Value} {o : Nat} {i : Int32} {w : Int64} : mw d 158 Q 112 [x0, x1, x2, x3, x4, x5, x6, x7] (.long w :: .int i :: .ref o :: st) h = (mg h o 101 ∧ mx i (mh_l h o) ∧ mw d 158 Q 113 [x0, x1, x2, x3, x4, x5, x6, x7] (st) (mh_sj h o i.toNatClampNeg w)) := (mw_at mj_158_112).trans (z_last)
theorem mj_158_113 : mc_P 158 113 = some (.return_, 1, 0, 0, 0) := by decide +kernel
theorem s_158_113 {x0 x1 x2 x3 x4 x5 x6 x7 : Option Value} : mw d 158 Q 113 [x0, x1, x2, x3, x4, x5, x6, x7] ([]) h = Q none h := (mw_at mj_158_113).trans (z_vret)
theorem e_158 {a0 : Nat} {a1 : Int32} {a2 : Int64} {a3 : Int64} : mcall d 158 [.ref a0, .int a1, .long a2, .long a3] h Q = mw d 158 Q 0 [some (.ref a0), some (.int a1), some (.long a2), none, some (.long a3), none, none, none] [] h := by
  show mw d 158 Q 0 (me_en (mc_nl 158) _) [] h = _
  rw [nl_158]; rfl

/-! InvariantDesk$State.tighten([J)V -/
theorem mj_159_0 : mc_P 159 0 = some (.iconst 0, 1, 0, 0, 0) := by decide +kernel
theorem s_159_0 {x0 x1 x2 : Option Value} : mw d 159 Q 0 [x0, x1, x2] (st) h = mw d 159 Q 1 [x0, x1, x2] (.int 0 :: st) h := (mw_at mj_159_0).trans (z_iconst (by decide))
theorem mj_159_1 : mc_P 159 1 = some (.istore_n 2, 1, 0, 0, 0) := by decide +kernel
theorem s_159_1 {x0 x1 x2 : Option Value} {w : Int32} : mw d 159 Q 1 [x0, x1, x2] (.int w :: st) h = mw d 159 Q 2 [x0, mk2 x1, some (.int w)] (st) h := (mw_at mj_159_1).trans (z_istore_n (Nat.le_of_ble_eq_true rfl) (me_s1_mk (j := 1) (w := x1) rfl))
theorem mj_159_2 : mc_P 159 2 = some (.iload_n 2, 1, 0, 0, 0) := by decide +kernel
theorem s_159_2 {x0 x1 : Option Value} {w : Value} : mw d 159 Q 2 [x0, x1, some w] (st) h = mv_i w (mw d 159 Q 3 [x0, x1, some w] (w :: st) h) := (mw_at mj_159_2).trans (z_iload_n rfl)
theorem mj_159_3 : mc_P 159 3 = some (.aload_n 0, 1, 0, 0, 0) := by decide +kernel
theorem s_159_3 {x1 x2 : Option Value} {w : Value} : mw d 159 Q 3 [some w, x1, x2] (st) h = mv_a w (mw d 159 Q 4 [some w, x1, x2] (w :: st) h) := (mw_at mj_159_3).trans (z_aload_n rfl)
theorem mj_159_4 : mc_P 159 4 = some (.getfield 26, 3, 8, 1, 0) := by decide +kernel
theorem s_159_4 {x0 x1 x2 : Option Value} {o : Nat} : mw d 159 Q 4 [x0, x1, x2] (.ref o :: st) h = (mg h o 8 ∧ mw d 159 Q 7 [x0, x1, x2] (.int (mh_i h o 1) :: st) h) := (mw_at mj_159_4).trans (z_geti (by decide) (by decide) (Or.inl rfl))
theorem mj_159_7 : mc_P 159 7 = some (.if_icmp .ge 34, 3, 0, 0, 0) := by decide +kernel
theorem s_159_7 {x0 x1 x2 : Option Value} {x w : Int32} : mw d 159 Q 7 [x0, x1, x2] (.int w :: .int x :: st) h = mB (w ≤ x) (mw d 159 Q) 41 10 [x0, x1, x2] st h := (mw_at mj_159_7).trans (z_icmp_ge (by decide) rfl)
theorem mj_159_10 : mc_P 159 10 = some (.aload_n 0, 1, 0, 0, 0) := by decide +kernel
theorem s_159_10 {x1 x2 : Option Value} {w : Value} : mw d 159 Q 10 [some w, x1, x2] (st) h = mv_a w (mw d 159 Q 11 [some w, x1, x2] (w :: st) h) := (mw_at mj_159_10).trans (z_aload_n rfl)
theorem mj_159_11 : mc_P 159 11 = some (.getfield 30, 3, 8, 0, 0) := by decide +kernel
theorem s_159_11 {x0 x1 x2 : Option Value} {o : Nat} : mw d 159 Q 11 [x0, x1, x2] (.ref o :: st) h = (mg h o 8 ∧ mw d 159 Q 14 [x0, x1, x2] (.int (mh_i h o 0) :: st) h) := (mw_at mj_159_11).trans (z_geti (by decide) (by decide) (Or.inr rfl))
theorem mj_159_14 : mc_P 159 14 = some (.ifCond .ne 27, 3, 0, 0, 0) := by decide +kernel
theorem s_159_14 {x0 x1 x2 : Option Value} {x : Int32} : mw d 159 Q 14 [x0, x1, x2] (.int x :: st) h = mB (¬ x = 0) (mw d 159 Q) 41 17 [x0, x1, x2] st h := (mw_at mj_159_14).trans (z_if_ne (by decide) rfl)
theorem mj_159_17 : mc_P 159 17 = some (.aload_n 0, 1, 0, 0, 0) := by decide +kernel
theorem s_159_17 {x1 x2 : Option Value} {w : Value} : mw d 159 Q 17 [some w, x1, x2] (st) h = mv_a w (mw d 159 Q 18 [some w, x1, x2] (w :: st) h) := (mw_at mj_159_17).trans (z_aload_n rfl)
theorem mj_159_18 : mc_P 159 18 = some (.getfield 37, 3, 8, 5, 0) := by decide +kernel
theorem s_159_18 {x0 x1 x2 : Option Value} {o : Nat} : mw d 159 Q 18 [x0, x1, x2] (.ref o :: st) h = (mg h o 8 ∧ mw d 159 Q 21 [x0, x1, x2] (.int (mh_i h o 5) :: st) h) := (mw_at mj_159_18).trans (z_geti (by decide) (by decide) (Or.inl rfl))
theorem mj_159_21 : mc_P 159 21 = some (.iload_n 2, 1, 0, 0, 0) := by decide +kernel
theorem s_159_21 {x0 x1 : Option Value} {w : Value} : mw d 159 Q 21 [x0, x1, some w] (st) h = mv_i w (mw d 159 Q 22 [x0, x1, some w] (w :: st) h) := (mw_at mj_159_21).trans (z_iload_n rfl)
theorem mj_159_22 : mc_P 159 22 = some (.ishr, 1, 0, 0, 0) := by decide +kernel
theorem s_159_22 {x0 x1 x2 : Option Value} {x w : Int32} : mw d 159 Q 22 [x0, x1, x2] (.int w :: .int x :: st) h = mw d 159 Q 23 [x0, x1, x2] (.int (x >>> (w &&& 31)) :: st) h := (mw_at mj_159_22).trans (z_ishr)
theorem mj_159_23 : mc_P 159 23 = some (.iconst 1, 1, 0, 0, 0) := by decide +kernel
theorem s_159_23 {x0 x1 x2 : Option Value} : mw d 159 Q 23 [x0, x1, x2] (st) h = mw d 159 Q 24 [x0, x1, x2] (.int 1 :: st) h := (mw_at mj_159_23).trans (z_iconst (by decide))
theorem mj_159_24 : mc_P 159 24 = some (.iand, 1, 0, 0, 0) := by decide +kernel
theorem s_159_24 {x0 x1 x2 : Option Value} {x w : Int32} : mw d 159 Q 24 [x0, x1, x2] (.int w :: .int x :: st) h = mw d 159 Q 25 [x0, x1, x2] (.int (x &&& w) :: st) h := (mw_at mj_159_24).trans (z_iand)
theorem mj_159_25 : mc_P 159 25 = some (.iconst 1, 1, 0, 0, 0) := by decide +kernel
theorem s_159_25 {x0 x1 x2 : Option Value} : mw d 159 Q 25 [x0, x1, x2] (st) h = mw d 159 Q 26 [x0, x1, x2] (.int 1 :: st) h := (mw_at mj_159_25).trans (z_iconst (by decide))
theorem mj_159_26 : mc_P 159 26 = some (.if_icmp .ne 9, 3, 0, 0, 0) := by decide +kernel
theorem s_159_26 {x0 x1 x2 : Option Value} {x w : Int32} : mw d 159 Q 26 [x0, x1, x2] (.int w :: .int x :: st) h = mB (¬ x = w) (mw d 159 Q) 35 29 [x0, x1, x2] st h := (mw_at mj_159_26).trans (z_icmp_ne (by decide) rfl)
theorem mj_159_29 : mc_P 159 29 = some (.aload_n 0, 1, 0, 0, 0) := by decide +kernel
theorem s_159_29 {x1 x2 : Option Value} {w : Value} : mw d 159 Q 29 [some w, x1, x2] (st) h = mv_a w (mw d 159 Q 30 [some w, x1, x2] (w :: st) h) := (mw_at mj_159_29).trans (z_aload_n rfl)
theorem mj_159_30 : mc_P 159 30 = some (.iload_n 2, 1, 0, 0, 0) := by decide +kernel
theorem s_159_30 {x0 x1 : Option Value} {w : Value} : mw d 159 Q 30 [x0, x1, some w] (st) h = mv_i w (mw d 159 Q 31 [x0, x1, some w] (w :: st) h) := (mw_at mj_159_30).trans (z_iload_n rfl)
theorem mj_159_31 : mc_P 159 31 = some (.aload_n 1, 1, 0, 0, 0) := by decide +kernel
theorem s_159_31 {x0 x2 : Option Value} {w : Value} : mw d 159 Q 31 [x0, some w, x2] (st) h = mv_a w (mw d 159 Q 32 [x0, some w, x2] (w :: st) h) := (mw_at mj_159_31).trans (z_aload_n rfl)
theorem mj_159_32 : mc_P 159 32 = some (.invokevirtual 91, 3, 160, 8, 3) := by decide +kernel
theorem s_159_32 {x0 x1 x2 : Option Value} {o : Nat} {a1 a2 : Value} : mw (d + 1) 159 Q 32 [x0, x1, x2] (a2 :: a1 :: .ref o :: st) h = (mg h o 8 ∧ mca st 8 ∧ mca [.ref o, a1, a2] 18 ∧ mcall d 160 [.ref o, a1, a2] h (mK (d + 1) 159 Q 35 [x0, x1, x2] st)) := (mw_at mj_159_32).trans ((z_invv (As := [a1, a2]) (by decide) rfl rfl).trans (congrArg (And _) (congrArg (And _) (mC_nl nl_160))))
theorem mj_159_35 : mc_P 159 35 = some (.iinc 2 1, 3, 0, 0, 0) := by decide +kernel
theorem s_159_35 {x0 x1 : Option Value} {w : Int32} : mw d 159 Q 35 [x0, x1, some (.int w)] (st) h = mw d 159 Q 38 [x0, mk2 x1, some (.int (w + 1))] (st) h := (mw_at mj_159_35).trans (z_iinc rfl (Nat.le_of_ble_eq_true rfl) (by decide) (me_s1_mk (j := 1) (w := x1) rfl))
theorem mj_159_38 : mc_P 159 38 = some (.goto (-36), 3, 0, 0, 0) := by decide +kernel
theorem s_159_38 {x0 x1 x2 : Option Value} : mw d 159 Q 38 [x0, x1, x2] (st) h = mw d 159 Q 2 [x0, x1, x2] (st) h := (mw_at mj_159_38).trans (z_goto (by decide))
theorem mj_159_41 : mc_P 159 41 = some (.aload_n 0, 1, 0, 0, 0) := by decide +kernel
theorem s_159_41 {x1 x2 : Option Value} {w : Value} : mw d 159 Q 41 [some w, x1, x2] (st) h = mv_a w (mw d 159 Q 42 [some w, x1, x2] (w :: st) h) := (mw_at mj_159_41).trans (z_aload_n rfl)
theorem mj_159_42 : mc_P 159 42 = some (.getfield 37, 3, 8, 5, 0) := by decide +kernel
theorem s_159_42 {x0 x1 x2 : Option Value} {o : Nat} : mw d 159 Q 42 [x0, x1, x2] (.ref o :: st) h = (mg h o 8 ∧ mw d 159 Q 45 [x0, x1, x2] (.int (mh_i h o 5) :: st) h) := (mw_at mj_159_42).trans (z_geti (by decide) (by decide) (Or.inl rfl))
theorem mj_159_45 : mc_P 159 45 = some (.ifCond .eq 14, 3, 0, 0, 0) := by decide +kernel
theorem s_159_45 {x0 x1 x2 : Option Value} {x : Int32} : mw d 159 Q 45 [x0, x1, x2] (.int x :: st) h = mB (x = 0) (mw d 159 Q) 59 48 [x0, x1, x2] st h := (mw_at mj_159_45).trans (z_if_eq (by decide) rfl)
theorem mj_159_48 : mc_P 159 48 = some (.aload_n 0, 1, 0, 0, 0) := by decide +kernel
theorem s_159_48 {x1 x2 : Option Value} {w : Value} : mw d 159 Q 48 [some w, x1, x2] (st) h = mv_a w (mw d 159 Q 49 [some w, x1, x2] (w :: st) h) := (mw_at mj_159_48).trans (z_aload_n rfl)
theorem mj_159_49 : mc_P 159 49 = some (.getfield 30, 3, 8, 0, 0) := by decide +kernel
theorem s_159_49 {x0 x1 x2 : Option Value} {o : Nat} : mw d 159 Q 49 [x0, x1, x2] (.ref o :: st) h = (mg h o 8 ∧ mw d 159 Q 52 [x0, x1, x2] (.int (mh_i h o 0) :: st) h) := (mw_at mj_159_49).trans (z_geti (by decide) (by decide) (Or.inr rfl))
theorem mj_159_52 : mc_P 159 52 = some (.ifCond .ne 7, 3, 0, 0, 0) := by decide +kernel
theorem s_159_52 {x0 x1 x2 : Option Value} {x : Int32} : mw d 159 Q 52 [x0, x1, x2] (.int x :: st) h = mB (¬ x = 0) (mw d 159 Q) 59 55 [x0, x1, x2] st h := (mw_at mj_159_52).trans (z_if_ne (by decide) rfl)
theorem mj_159_55 : mc_P 159 55 = some (.aload_n 0, 1, 0, 0, 0) := by decide +kernel
theorem s_159_55 {x1 x2 : Option Value} {w : Value} : mw d 159 Q 55 [some w, x1, x2] (st) h = mv_a w (mw d 159 Q 56 [some w, x1, x2] (w :: st) h) := (mw_at mj_159_55).trans (z_aload_n rfl)
theorem mj_159_56 : mc_P 159 56 = some (.invokevirtual 95, 3, 161, 8, 1) := by decide +kernel
theorem s_159_56 {x0 x1 x2 : Option Value} {o : Nat} : mw (d + 1) 159 Q 56 [x0, x1, x2] (.ref o :: st) h = (mg h o 8 ∧ mca st 8 ∧ mca [.ref o] 2 ∧ mcall d 161 [.ref o] h (mK (d + 1) 159 Q 59 [x0, x1, x2] st)) := (mw_at mj_159_56).trans ((z_invv (As := []) (by decide) rfl rfl).trans (congrArg (And _) (congrArg (And _) (mC_nl nl_161))))
theorem mj_159_59 : mc_P 159 59 = some (.aload_n 0, 1, 0, 0, 0) := by decide +kernel
theorem s_159_59 {x1 x2 : Option Value} {w : Value} : mw d 159 Q 59 [some w, x1, x2] (st) h = mv_a w (mw d 159 Q 60 [some w, x1, x2] (w :: st) h) := (mw_at mj_159_59).trans (z_aload_n rfl)
theorem mj_159_60 : mc_P 159 60 = some (.getfield 37, 3, 8, 5, 0) := by decide +kernel
theorem s_159_60 {x0 x1 x2 : Option Value} {o : Nat} : mw d 159 Q 60 [x0, x1, x2] (.ref o :: st) h = (mg h o 8 ∧ mw d 159 Q 63 [x0, x1, x2] (.int (mh_i h o 5) :: st) h) := (mw_at mj_159_60).trans (z_geti (by decide) (by decide) (Or.inl rfl))
theorem mj_159_63 : mc_P 159 63 = some (.ifCond .eq 15, 3, 0, 0, 0) := by decide +kernel
theorem s_159_63 {x0 x1 x2 : Option Value} {x : Int32} : mw d 159 Q 63 [x0, x1, x2] (.int x :: st) h = mB (x = 0) (mw d 159 Q) 78 66 [x0, x1, x2] st h := (mw_at mj_159_63).trans (z_if_eq (by decide) rfl)
theorem mj_159_66 : mc_P 159 66 = some (.aload_n 0, 1, 0, 0, 0) := by decide +kernel
theorem s_159_66 {x1 x2 : Option Value} {w : Value} : mw d 159 Q 66 [some w, x1, x2] (st) h = mv_a w (mw d 159 Q 67 [some w, x1, x2] (w :: st) h) := (mw_at mj_159_66).trans (z_aload_n rfl)
theorem mj_159_67 : mc_P 159 67 = some (.getfield 30, 3, 8, 0, 0) := by decide +kernel
theorem s_159_67 {x0 x1 x2 : Option Value} {o : Nat} : mw d 159 Q 67 [x0, x1, x2] (.ref o :: st) h = (mg h o 8 ∧ mw d 159 Q 70 [x0, x1, x2] (.int (mh_i h o 0) :: st) h) := (mw_at mj_159_67).trans (z_geti (by decide) (by decide) (Or.inr rfl))
theorem mj_159_70 : mc_P 159 70 = some (.ifCond .ne 8, 3, 0, 0, 0) := by decide +kernel
theorem s_159_70 {x0 x1 x2 : Option Value} {x : Int32} : mw d 159 Q 70 [x0, x1, x2] (.int x :: st) h = mB (¬ x = 0) (mw d 159 Q) 78 73 [x0, x1, x2] st h := (mw_at mj_159_70).trans (z_if_ne (by decide) rfl)
theorem mj_159_73 : mc_P 159 73 = some (.aload_n 0, 1, 0, 0, 0) := by decide +kernel
theorem s_159_73 {x1 x2 : Option Value} {w : Value} : mw d 159 Q 73 [some w, x1, x2] (st) h = mv_a w (mw d 159 Q 74 [some w, x1, x2] (w :: st) h) := (mw_at mj_159_73).trans (z_aload_n rfl)
theorem mj_159_74 : mc_P 159 74 = some (.aload_n 1, 1, 0, 0, 0) := by decide +kernel
theorem s_159_74 {x0 x2 : Option Value} {w : Value} : mw d 159 Q 74 [x0, some w, x2] (st) h = mv_a w (mw d 159 Q 75 [x0, some w, x2] (w :: st) h) := (mw_at mj_159_74).trans (z_aload_n rfl)
theorem mj_159_75 : mc_P 159 75 = some (.invokevirtual 98, 3, 162, 8, 2) := by decide +kernel
theorem s_159_75 {x0 x1 x2 : Option Value} {o : Nat} {a1 : Value} : mw (d + 1) 159 Q 75 [x0, x1, x2] (a1 :: .ref o :: st) h = (mg h o 8 ∧ mca st 8 ∧ mca [.ref o, a1] 5 ∧ mcall d 162 [.ref o, a1] h (mK (d + 1) 159 Q 78 [x0, x1, x2] st)) := (mw_at mj_159_75).trans ((z_invv (As := [a1]) (by decide) rfl rfl).trans (congrArg (And _) (congrArg (And _) (mC_nl nl_162))))
theorem mj_159_78 : mc_P 159 78 = some (.aload_n 0, 1, 0, 0, 0) := by decide +kernel
theorem s_159_78 {x1 x2 : Option Value} {w : Value} : mw d 159 Q 78 [some w, x1, x2] (st) h = mv_a w (mw d 159 Q 79 [some w, x1, x2] (w :: st) h) := (mw_at mj_159_78).trans (z_aload_n rfl)
theorem mj_159_79 : mc_P 159 79 = some (.iconst 0, 1, 0, 0, 0) := by decide +kernel
theorem s_159_79 {x0 x1 x2 : Option Value} : mw d 159 Q 79 [x0, x1, x2] (st) h = mw d 159 Q 80 [x0, x1, x2] (.int 0 :: st) h := (mw_at mj_159_79).trans (z_iconst (by decide))
theorem mj_159_80 : mc_P 159 80 = some (.putfield 37, 3, 8, 5, 0) := by decide +kernel
theorem s_159_80 {x0 x1 x2 : Option Value} {o : Nat} {w : Int32} : mw d 159 Q 80 [x0, x1, x2] (.int w :: .ref o :: st) h = (mg h o 8 ∧ mw d 159 Q 83 [x0, x1, x2] (st) (mh_si h o 5 w)) := (mw_at mj_159_80).trans (z_puti (by decide) (by decide) rfl)
theorem mj_159_83 : mc_P 159 83 = some (.return_, 1, 0, 0, 0) := by decide +kernel
theorem s_159_83 {x0 x1 x2 : Option Value} : mw d 159 Q 83 [x0, x1, x2] ([]) h = Q none h := (mw_at mj_159_83).trans (z_vret)
theorem e_159 {a0 : Nat} {a1 : Nat} : mcall d 159 [.ref a0, .ref a1] h Q = mw d 159 Q 0 [some (.ref a0), some (.ref a1), none] [] h := by
  show mw d 159 Q 0 (me_en (mc_nl 159) _) [] h = _
  rw [nl_159]; rfl

/-! InvariantDesk$State.goThrough(I[J)V -/
theorem mj_160_0 : mc_P 160 0 = some (.iconst 2, 1, 0, 0, 0) := by decide +kernel
theorem s_160_0 {x0 x1 x2 x3 x4 x5 x6 x7 x8 x9 x10 x11 x12 x13 x14 x15 x16 x17 : Option Value} : mw d 160 Q 0 [x0, x1, x2, x3, x4, x5, x6, x7, x8, x9, x10, x11, x12, x13, x14, x15, x16, x17] (st) h = mw d 160 Q 1 [x0, x1, x2, x3, x4, x5, x6, x7, x8, x9, x10, x11, x12, x13, x14, x15, x16, x17] (.int 2 :: st) h := (mw_at mj_160_0).trans (z_iconst (by decide))
theorem mj_160_1 : mc_P 160 1 = some (.iload_n 1, 1, 0, 0, 0) := by decide +kernel
theorem s_160_1 {x0 x2 x3 x4 x5 x6 x7 x8 x9 x10 x11 x12 x13 x14 x15 x16 x17 : Option Value} {w : Value} : mw d 160 Q 1 [x0, some w, x2, x3, x4, x5, x6, x7, x8, x9, x10, x11, x12, x13, x14, x15, x16, x17] (st) h = mv_i w (mw d 160 Q 2 [x0, some w, x2, x3, x4, x5, x6, x7, x8, x9, x10, x11, x12, x13, x14, x15, x16, x17] (w :: st) h) := (mw_at mj_160_1).trans (z_iload_n rfl)
theorem mj_160_2 : mc_P 160 2 = some (.imul, 1, 0, 0, 0) := by decide +kernel
theorem s_160_2 {x0 x1 x2 x3 x4 x5 x6 x7 x8 x9 x10 x11 x12 x13 x14 x15 x16 x17 : Option Value} {x w : Int32} : mw d 160 Q 2 [x0, x1, x2, x3, x4, x5, x6, x7, x8, x9, x10, x11, x12, x13, x14, x15, x16, x17] (.int w :: .int x :: st) h = mw d 160 Q 3 [x0, x1, x2, x3, x4, x5, x6, x7, x8, x9, x10, x11, x12, x13, x14, x15, x16, x17] (.int (x * w) :: st) h := (mw_at mj_160_2).trans (z_imul)
theorem mj_160_3 : mc_P 160 3 = some (.istore_n 3, 1, 0, 0, 0) := by decide +kernel
theorem s_160_3 {x0 x1 x2 x3 x4 x5 x6 x7 x8 x9 x10 x11 x12 x13 x14 x15 x16 x17 : Option Value} {w : Int32} : mw d 160 Q 3 [x0, x1, x2, x3, x4, x5, x6, x7, x8, x9, x10, x11, x12, x13, x14, x15, x16, x17] (.int w :: st) h = mw d 160 Q 4 [x0, x1, mk2 x2, some (.int w), x4, x5, x6, x7, x8, x9, x10, x11, x12, x13, x14, x15, x16, x17] (st) h := (mw_at mj_160_3).trans (z_istore_n (Nat.le_of_ble_eq_true rfl) (me_s1_mk (j := 2) (w := x2) rfl))
theorem mj_160_4 : mc_P 160 4 = some (.aload_n 2, 1, 0, 0, 0) := by decide +kernel
theorem s_160_4 {x0 x1 x3 x4 x5 x6 x7 x8 x9 x10 x11 x12 x13 x14 x15 x16 x17 : Option Value} {w : Value} : mw d 160 Q 4 [x0, x1, some w, x3, x4, x5, x6, x7, x8, x9, x10, x11, x12, x13, x14, x15, x16, x17] (st) h = mv_a w (mw d 160 Q 5 [x0, x1, some w, x3, x4, x5, x6, x7, x8, x9, x10, x11, x12, x13, x14, x15, x16, x17] (w :: st) h) := (mw_at mj_160_4).trans (z_aload_n rfl)
theorem mj_160_5 : mc_P 160 5 = some (.arraylength, 1, 0, 0, 0) := by decide +kernel
theorem s_160_5 {x0 x1 x2 x3 x4 x5 x6 x7 x8 x9 x10 x11 x12 x13 x14 x15 x16 x17 : Option Value} {o : Nat} : mw d 160 Q 5 [x0, x1, x2, x3, x4, x5, x6, x7, x8, x9, x10, x11, x12, x13, x14, x15, x16, x17] (.ref o :: st) h = (mga h o ∧ mw d 160 Q 6 [x0, x1, x2, x3, x4, x5, x6, x7, x8, x9, x10, x11, x12, x13, x14, x15, x16, x17] (.int (Int32.ofNat (mh_l h o)) :: st) h) := (mw_at mj_160_5).trans (z_alen)
theorem mj_160_6 : mc_P 160 6 = some (.iconst 2, 1, 0, 0, 0) := by decide +kernel
theorem s_160_6 {x0 x1 x2 x3 x4 x5 x6 x7 x8 x9 x10 x11 x12 x13 x14 x15 x16 x17 : Option Value} : mw d 160 Q 6 [x0, x1, x2, x3, x4, x5, x6, x7, x8, x9, x10, x11, x12, x13, x14, x15, x16, x17] (st) h = mw d 160 Q 7 [x0, x1, x2, x3, x4, x5, x6, x7, x8, x9, x10, x11, x12, x13, x14, x15, x16, x17] (.int 2 :: st) h := (mw_at mj_160_6).trans (z_iconst (by decide))
theorem mj_160_7 : mc_P 160 7 = some (.idiv, 1, 0, 0, 0) := by decide +kernel
theorem s_160_7 {x0 x1 x2 x3 x4 x5 x6 x7 x8 x9 x10 x11 x12 x13 x14 x15 x16 x17 : Option Value} {x w : Int32} : mw d 160 Q 7 [x0, x1, x2, x3, x4, x5, x6, x7, x8, x9, x10, x11, x12, x13, x14, x15, x16, x17] (.int w :: .int x :: st) h = (¬ w = 0 ∧ mw d 160 Q 8 [x0, x1, x2, x3, x4, x5, x6, x7, x8, x9, x10, x11, x12, x13, x14, x15, x16, x17] (.int (x / w) :: st) h) := (mw_at mj_160_7).trans (z_idiv)
theorem mj_160_8 : mc_P 160 8 = some (.istore 4, 2, 0, 0, 0) := by decide +kernel
theorem s_160_8 {x0 x1 x2 x3 x4 x5 x6 x7 x8 x9 x10 x11 x12 x13 x14 x15 x16 x17 : Option Value} {w : Int32} : mw d 160 Q 8 [x0, x1, x2, x3, x4, x5, x6, x7, x8, x9, x10, x11, x12, x13, x14, x15, x16, x17] (.int w :: st) h = mw d 160 Q 10 [x0, x1, x2, mk2 x3, some (.int w), x5, x6, x7, x8, x9, x10, x11, x12, x13, x14, x15, x16, x17] (st) h := (mw_at mj_160_8).trans (z_istore (Nat.le_of_ble_eq_true rfl) (me_s1_mk (j := 3) (w := x3) rfl))
theorem mj_160_10 : mc_P 160 10 = some (.aload_n 0, 1, 0, 0, 0) := by decide +kernel
theorem s_160_10 {x1 x2 x3 x4 x5 x6 x7 x8 x9 x10 x11 x12 x13 x14 x15 x16 x17 : Option Value} {w : Value} : mw d 160 Q 10 [some w, x1, x2, x3, x4, x5, x6, x7, x8, x9, x10, x11, x12, x13, x14, x15, x16, x17] (st) h = mv_a w (mw d 160 Q 11 [some w, x1, x2, x3, x4, x5, x6, x7, x8, x9, x10, x11, x12, x13, x14, x15, x16, x17] (w :: st) h) := (mw_at mj_160_10).trans (z_aload_n rfl)
theorem mj_160_11 : mc_P 160 11 = some (.getfield 11, 3, 8, 3, 0) := by decide +kernel
theorem s_160_11 {x0 x1 x2 x3 x4 x5 x6 x7 x8 x9 x10 x11 x12 x13 x14 x15 x16 x17 : Option Value} {o : Nat} : mw d 160 Q 11 [x0, x1, x2, x3, x4, x5, x6, x7, x8, x9, x10, x11, x12, x13, x14, x15, x16, x17] (.ref o :: st) h = (mg h o 8 ∧ mw d 160 Q 14 [x0, x1, x2, x3, x4, x5, x6, x7, x8, x9, x10, x11, x12, x13, x14, x15, x16, x17] (va_rf (mh_r h o 3) :: st) h) := (mw_at mj_160_11).trans (z_getr (by decide) (by decide) rfl)
theorem mj_160_14 : mc_P 160 14 = some (.iload_n 3, 1, 0, 0, 0) := by decide +kernel
theorem s_160_14 {x0 x1 x2 x4 x5 x6 x7 x8 x9 x10 x11 x12 x13 x14 x15 x16 x17 : Option Value} {w : Value} : mw d 160 Q 14 [x0, x1, x2, some w, x4, x5, x6, x7, x8, x9, x10, x11, x12, x13, x14, x15, x16, x17] (st) h = mv_i w (mw d 160 Q 15 [x0, x1, x2, some w, x4, x5, x6, x7, x8, x9, x10, x11, x12, x13, x14, x15, x16, x17] (w :: st) h) := (mw_at mj_160_14).trans (z_iload_n rfl)
theorem mj_160_15 : mc_P 160 15 = some (.iload_n 3, 1, 0, 0, 0) := by decide +kernel
theorem s_160_15 {x0 x1 x2 x4 x5 x6 x7 x8 x9 x10 x11 x12 x13 x14 x15 x16 x17 : Option Value} {w : Value} : mw d 160 Q 15 [x0, x1, x2, some w, x4, x5, x6, x7, x8, x9, x10, x11, x12, x13, x14, x15, x16, x17] (st) h = mv_i w (mw d 160 Q 16 [x0, x1, x2, some w, x4, x5, x6, x7, x8, x9, x10, x11, x12, x13, x14, x15, x16, x17] (w :: st) h) := (mw_at mj_160_15).trans (z_iload_n rfl)
theorem mj_160_16 : mc_P 160 16 = some (.iconst 1, 1, 0, 0, 0) := by decide +kernel
theorem s_160_16 {x0 x1 x2 x3 x4 x5 x6 x7 x8 x9 x10 x11 x12 x13 x14 x15 x16 x17 : Option Value} : mw d 160 Q 16 [x0, x1, x2, x3, x4, x5, x6, x7, x8, x9, x10, x11, x12, x13, x14, x15, x16, x17] (st) h = mw d 160 Q 17 [x0, x1, x2, x3, x4, x5, x6, x7, x8, x9, x10, x11, x12, x13, x14, x15, x16, x17] (.int 1 :: st) h := (mw_at mj_160_16).trans (z_iconst (by decide))
theorem mj_160_17 : mc_P 160 17 = some (.iadd, 1, 0, 0, 0) := by decide +kernel
theorem s_160_17 {x0 x1 x2 x3 x4 x5 x6 x7 x8 x9 x10 x11 x12 x13 x14 x15 x16 x17 : Option Value} {x w : Int32} : mw d 160 Q 17 [x0, x1, x2, x3, x4, x5, x6, x7, x8, x9, x10, x11, x12, x13, x14, x15, x16, x17] (.int w :: .int x :: st) h = mw d 160 Q 18 [x0, x1, x2, x3, x4, x5, x6, x7, x8, x9, x10, x11, x12, x13, x14, x15, x16, x17] (.int (x + w) :: st) h := (mw_at mj_160_17).trans (z_iadd)
theorem mj_160_18 : mc_P 160 18 = some (.invokestatic 52, 3, 140, 0, 2) := by decide +kernel
theorem s_160_18 {x0 x1 x2 x3 x4 x5 x6 x7 x8 x9 x10 x11 x12 x13 x14 x15 x16 x17 : Option Value} {a0 a1 : Value} : mw (d + 1) 160 Q 18 [x0, x1, x2, x3, x4, x5, x6, x7, x8, x9, x10, x11, x12, x13, x14, x15, x16, x17] (a1 :: a0 :: st) h = (mca st 8 ∧ mca [a0, a1] 2 ∧ mcall d 140 [a0, a1] h (mK (d + 1) 160 Q 21 [x0, x1, x2, x3, x4, x5, x6, x7, x8, x9, x10, x11, x12, x13, x14, x15, x16, x17] st)) := (mw_at mj_160_18).trans ((z_invs (As := [a0, a1]) rfl rfl).trans (congrArg (And _) (mC_nl nl_140)))
theorem mj_160_21 : mc_P 160 21 = some (.laload, 1, 0, 0, 0) := by decide +kernel
theorem s_160_21 {x0 x1 x2 x3 x4 x5 x6 x7 x8 x9 x10 x11 x12 x13 x14 x15 x16 x17 : Option Value} {o : Nat} {i : Int32} : mw d 160 Q 21 [x0, x1, x2, x3, x4, x5, x6, x7, x8, x9, x10, x11, x12, x13, x14, x15, x16, x17] (.int i :: .ref o :: st) h = (mg h o 101 ∧ mx i (mh_l h o) ∧ mw d 160 Q 22 [x0, x1, x2, x3, x4, x5, x6, x7, x8, x9, x10, x11, x12, x13, x14, x15, x16, x17] (.long (mh_j h o i.toNatClampNeg) :: st) h) := (mw_at mj_160_21).trans (z_lald)
theorem mj_160_22 : mc_P 160 22 = some (.lstore 5, 2, 0, 0, 0) := by decide +kernel
theorem s_160_22 {x0 x1 x2 x3 x4 x5 x6 x7 x8 x9 x10 x11 x12 x13 x14 x15 x16 x17 : Option Value} {w : Int64} : mw d 160 Q 22 [x0, x1, x2, x3, x4, x5, x6, x7, x8, x9, x10, x11, x12, x13, x14, x15, x16, x17] (.long w :: st) h = mw d 160 Q 24 [x0, x1, x2, x3, mk2 x4, some (.long w), none, x7, x8, x9, x10, x11, x12, x13, x14, x15, x16, x17] (st) h := (mw_at mj_160_22).trans (z_lstore (Nat.le_of_ble_eq_true rfl) (me_s2_mk (j := 4) (w := x4) rfl))
theorem mj_160_24 : mc_P 160 24 = some (.aload_n 0, 1, 0, 0, 0) := by decide +kernel
theorem s_160_24 {x1 x2 x3 x4 x5 x6 x7 x8 x9 x10 x11 x12 x13 x14 x15 x16 x17 : Option Value} {w : Value} : mw d 160 Q 24 [some w, x1, x2, x3, x4, x5, x6, x7, x8, x9, x10, x11, x12, x13, x14, x15, x16, x17] (st) h = mv_a w (mw d 160 Q 25 [some w, x1, x2, x3, x4, x5, x6, x7, x8, x9, x10, x11, x12, x13, x14, x15, x16, x17] (w :: st) h) := (mw_at mj_160_24).trans (z_aload_n rfl)
theorem mj_160_25 : mc_P 160 25 = some (.getfield 11, 3, 8, 3, 0) := by decide +kernel
theorem s_160_25 {x0 x1 x2 x3 x4 x5 x6 x7 x8 x9 x10 x11 x12 x13 x14 x15 x16 x17 : Option Value} {o : Nat} : mw d 160 Q 25 [x0, x1, x2, x3, x4, x5, x6, x7, x8, x9, x10, x11, x12, x13, x14, x15, x16, x17] (.ref o :: st) h = (mg h o 8 ∧ mw d 160 Q 28 [x0, x1, x2, x3, x4, x5, x6, x7, x8, x9, x10, x11, x12, x13, x14, x15, x16, x17] (va_rf (mh_r h o 3) :: st) h) := (mw_at mj_160_25).trans (z_getr (by decide) (by decide) rfl)
theorem mj_160_28 : mc_P 160 28 = some (.iload_n 3, 1, 0, 0, 0) := by decide +kernel
theorem s_160_28 {x0 x1 x2 x4 x5 x6 x7 x8 x9 x10 x11 x12 x13 x14 x15 x16 x17 : Option Value} {w : Value} : mw d 160 Q 28 [x0, x1, x2, some w, x4, x5, x6, x7, x8, x9, x10, x11, x12, x13, x14, x15, x16, x17] (st) h = mv_i w (mw d 160 Q 29 [x0, x1, x2, some w, x4, x5, x6, x7, x8, x9, x10, x11, x12, x13, x14, x15, x16, x17] (w :: st) h) := (mw_at mj_160_28).trans (z_iload_n rfl)
theorem mj_160_29 : mc_P 160 29 = some (.iconst 1, 1, 0, 0, 0) := by decide +kernel
theorem s_160_29 {x0 x1 x2 x3 x4 x5 x6 x7 x8 x9 x10 x11 x12 x13 x14 x15 x16 x17 : Option Value} : mw d 160 Q 29 [x0, x1, x2, x3, x4, x5, x6, x7, x8, x9, x10, x11, x12, x13, x14, x15, x16, x17] (st) h = mw d 160 Q 30 [x0, x1, x2, x3, x4, x5, x6, x7, x8, x9, x10, x11, x12, x13, x14, x15, x16, x17] (.int 1 :: st) h := (mw_at mj_160_29).trans (z_iconst (by decide))
theorem mj_160_30 : mc_P 160 30 = some (.iadd, 1, 0, 0, 0) := by decide +kernel
theorem s_160_30 {x0 x1 x2 x3 x4 x5 x6 x7 x8 x9 x10 x11 x12 x13 x14 x15 x16 x17 : Option Value} {x w : Int32} : mw d 160 Q 30 [x0, x1, x2, x3, x4, x5, x6, x7, x8, x9, x10, x11, x12, x13, x14, x15, x16, x17] (.int w :: .int x :: st) h = mw d 160 Q 31 [x0, x1, x2, x3, x4, x5, x6, x7, x8, x9, x10, x11, x12, x13, x14, x15, x16, x17] (.int (x + w) :: st) h := (mw_at mj_160_30).trans (z_iadd)
theorem mj_160_31 : mc_P 160 31 = some (.iload_n 3, 1, 0, 0, 0) := by decide +kernel
theorem s_160_31 {x0 x1 x2 x4 x5 x6 x7 x8 x9 x10 x11 x12 x13 x14 x15 x16 x17 : Option Value} {w : Value} : mw d 160 Q 31 [x0, x1, x2, some w, x4, x5, x6, x7, x8, x9, x10, x11, x12, x13, x14, x15, x16, x17] (st) h = mv_i w (mw d 160 Q 32 [x0, x1, x2, some w, x4, x5, x6, x7, x8, x9, x10, x11, x12, x13, x14, x15, x16, x17] (w :: st) h) := (mw_at mj_160_31).trans (z_iload_n rfl)
theorem mj_160_32 : mc_P 160 32 = some (.invokestatic 52, 3, 140, 0, 2) := by decide +kernel
theorem s_160_32 {x0 x1 x2 x3 x4 x5 x6 x7 x8 x9 x10 x11 x12 x13 x14 x15 x16 x17 : Option Value} {a0 a1 : Value} : mw (d + 1) 160 Q 32 [x0, x1, x2, x3, x4, x5, x6, x7, x8, x9, x10, x11, x12, x13, x14, x15, x16, x17] (a1 :: a0 :: st) h = (mca st 8 ∧ mca [a0, a1] 2 ∧ mcall d 140 [a0, a1] h (mK (d + 1) 160 Q 35 [x0, x1, x2, x3, x4, x5, x6, x7, x8, x9, x10, x11, x12, x13, x14, x15, x16, x17] st)) := (mw_at mj_160_32).trans ((z_invs (As := [a0, a1]) rfl rfl).trans (congrArg (And _) (mC_nl nl_140)))
theorem mj_160_35 : mc_P 160 35 = some (.laload, 1, 0, 0, 0) := by decide +kernel
theorem s_160_35 {x0 x1 x2 x3 x4 x5 x6 x7 x8 x9 x10 x11 x12 x13 x14 x15 x16 x17 : Option Value} {o : Nat} {i : Int32} : mw d 160 Q 35 [x0, x1, x2, x3, x4, x5, x6, x7, x8, x9, x10, x11, x12, x13, x14, x15, x16, x17] (.int i :: .ref o :: st) h = (mg h o 101 ∧ mx i (mh_l h o) ∧ mw d 160 Q 36 [x0, x1, x2, x3, x4, x5, x6, x7, x8, x9, x10, x11, x12, x13, x14, x15, x16, x17] (.long (mh_j h o i.toNatClampNeg) :: st) h) := (mw_at mj_160_35).trans (z_lald)
theorem mj_160_36 : mc_P 160 36 = some (.lstore 7, 2, 0, 0, 0) := by decide +kernel
theorem s_160_36 {x0 x1 x2 x3 x4 x5 x6 x7 x8 x9 x10 x11 x12 x13 x14 x15 x16 x17 : Option Value} {w : Int64} : mw d 160 Q 36 [x0, x1, x2, x3, x4, x5, x6, x7, x8, x9, x10, x11, x12, x13, x14, x15, x16, x17] (.long w :: st) h = mw d 160 Q 38 [x0, x1, x2, x3, x4, x5, mk2 x6, some (.long w), none, x9, x10, x11, x12, x13, x14, x15, x16, x17] (st) h := (mw_at mj_160_36).trans (z_lstore (Nat.le_of_ble_eq_true rfl) (me_s2_mk (j := 6) (w := x6) rfl))
theorem mj_160_38 : mc_P 160 38 = some (.lload 5, 2, 0, 0, 0) := by decide +kernel
theorem s_160_38 {x0 x1 x2 x3 x4 x6 x7 x8 x9 x10 x11 x12 x13 x14 x15 x16 x17 : Option Value} {w : Value} : mw d 160 Q 38 [x0, x1, x2, x3, x4, some w, x6, x7, x8, x9, x10, x11, x12, x13, x14, x15, x16, x17] (st) h = mv_l w (mw d 160 Q 40 [x0, x1, x2, x3, x4, some w, x6, x7, x8, x9, x10, x11, x12, x13, x14, x15, x16, x17] (w :: st) h) := (mw_at mj_160_38).trans (z_lload rfl)
theorem mj_160_40 : mc_P 160 40 = some (.lload 7, 2, 0, 0, 0) := by decide +kernel
theorem s_160_40 {x0 x1 x2 x3 x4 x5 x6 x8 x9 x10 x11 x12 x13 x14 x15 x16 x17 : Option Value} {w : Value} : mw d 160 Q 40 [x0, x1, x2, x3, x4, x5, x6, some w, x8, x9, x10, x11, x12, x13, x14, x15, x16, x17] (st) h = mv_l w (mw d 160 Q 42 [x0, x1, x2, x3, x4, x5, x6, some w, x8, x9, x10, x11, x12, x13, x14, x15, x16, x17] (w :: st) h) := (mw_at mj_160_40).trans (z_lload rfl)
theorem mj_160_42 : mc_P 160 42 = some (.ladd, 1, 0, 0, 0) := by decide +kernel
theorem s_160_42 {x0 x1 x2 x3 x4 x5 x6 x7 x8 x9 x10 x11 x12 x13 x14 x15 x16 x17 : Option Value} {x w : Int64} : mw d 160 Q 42 [x0, x1, x2, x3, x4, x5, x6, x7, x8, x9, x10, x11, x12, x13, x14, x15, x16, x17] (.long w :: .long x :: st) h = mw d 160 Q 43 [x0, x1, x2, x3, x4, x5, x6, x7, x8, x9, x10, x11, x12, x13, x14, x15, x16, x17] (.long (x + w) :: st) h := (mw_at mj_160_42).trans (z_ladd)
theorem mj_160_43 : mc_P 160 43 = some (.lconst 0, 1, 0, 0, 0) := by decide +kernel
theorem s_160_43 {x0 x1 x2 x3 x4 x5 x6 x7 x8 x9 x10 x11 x12 x13 x14 x15 x16 x17 : Option Value} : mw d 160 Q 43 [x0, x1, x2, x3, x4, x5, x6, x7, x8, x9, x10, x11, x12, x13, x14, x15, x16, x17] (st) h = mw d 160 Q 44 [x0, x1, x2, x3, x4, x5, x6, x7, x8, x9, x10, x11, x12, x13, x14, x15, x16, x17] (.long 0 :: st) h := (mw_at mj_160_43).trans (z_lconst (by decide))
theorem mj_160_44 : mc_P 160 44 = some (.lcmp, 1, 0, 0, 0) := by decide +kernel
theorem s_160_44 {x0 x1 x2 x3 x4 x5 x6 x7 x8 x9 x10 x11 x12 x13 x14 x15 x16 x17 : Option Value} {x w : Int64} : mw d 160 Q 44 [x0, x1, x2, x3, x4, x5, x6, x7, x8, x9, x10, x11, x12, x13, x14, x15, x16, x17] (.long w :: .long x :: st) h = mw d 160 Q 45 [x0, x1, x2, x3, x4, x5, x6, x7, x8, x9, x10, x11, x12, x13, x14, x15, x16, x17] (.int (lg_cmp x w) :: st) h := (mw_at mj_160_44).trans (z_lcmp)
theorem mj_160_45 : mc_P 160 45 = some (.ifCond .ge 9, 3, 0, 0, 0) := by decide +kernel
theorem s_160_45 {x0 x1 x2 x3 x4 x5 x6 x7 x8 x9 x10 x11 x12 x13 x14 x15 x16 x17 : Option Value} {x : Int32} : mw d 160 Q 45 [x0, x1, x2, x3, x4, x5, x6, x7, x8, x9, x10, x11, x12, x13, x14, x15, x16, x17] (.int x :: st) h = mB (0 ≤ x) (mw d 160 Q) 54 48 [x0, x1, x2, x3, x4, x5, x6, x7, x8, x9, x10, x11, x12, x13, x14, x15, x16, x17] st h := (mw_at mj_160_45).trans (z_if_ge (by decide) rfl)
theorem mj_160_48 : mc_P 160 48 = some (.aload_n 0, 1, 0, 0, 0) := by decide +kernel
theorem s_160_48 {x1 x2 x3 x4 x5 x6 x7 x8 x9 x10 x11 x12 x13 x14 x15 x16 x17 : Option Value} {w : Value} : mw d 160 Q 48 [some w, x1, x2, x3, x4, x5, x6, x7, x8, x9, x10, x11, x12, x13, x14, x15, x16, x17] (st) h = mv_a w (mw d 160 Q 49 [some w, x1, x2, x3, x4, x5, x6, x7, x8, x9, x10, x11, x12, x13, x14, x15, x16, x17] (w :: st) h) := (mw_at mj_160_48).trans (z_aload_n rfl)
theorem mj_160_49 : mc_P 160 49 = some (.iconst 1, 1, 0, 0, 0) := by decide +kernel
theorem s_160_49 {x0 x1 x2 x3 x4 x5 x6 x7 x8 x9 x10 x11 x12 x13 x14 x15 x16 x17 : Option Value} : mw d 160 Q 49 [x0, x1, x2, x3, x4, x5, x6, x7, x8, x9, x10, x11, x12, x13, x14, x15, x16, x17] (st) h = mw d 160 Q 50 [x0, x1, x2, x3, x4, x5, x6, x7, x8, x9, x10, x11, x12, x13, x14, x15, x16, x17] (.int 1 :: st) h := (mw_at mj_160_49).trans (z_iconst (by decide))
theorem mj_160_50 : mc_P 160 50 = some (.putfield 30, 3, 8, 0, 0) := by decide +kernel
theorem s_160_50 {x0 x1 x2 x3 x4 x5 x6 x7 x8 x9 x10 x11 x12 x13 x14 x15 x16 x17 : Option Value} {o : Nat} {w : Int32} : mw d 160 Q 50 [x0, x1, x2, x3, x4, x5, x6, x7, x8, x9, x10, x11, x12, x13, x14, x15, x16, x17] (.int w :: .ref o :: st) h = (mg h o 8 ∧ (w = 0 ∨ w = 1) ∧ mw d 160 Q 53 [x0, x1, x2, x3, x4, x5, x6, x7, x8, x9, x10, x11, x12, x13, x14, x15, x16, x17] (st) (mh_si h o 0 w)) := (mw_at mj_160_50).trans (z_putz (by decide) (by decide) rfl)
theorem mj_160_53 : mc_P 160 53 = some (.return_, 1, 0, 0, 0) := by decide +kernel
theorem s_160_53 {x0 x1 x2 x3 x4 x5 x6 x7 x8 x9 x10 x11 x12 x13 x14 x15 x16 x17 : Option Value} : mw d 160 Q 53 [x0, x1, x2, x3, x4, x5, x6, x7, x8, x9, x10, x11, x12, x13, x14, x15, x16, x17] ([]) h = Q none h := (mw_at mj_160_53).trans (z_vret)
theorem mj_160_54 : mc_P 160 54 = some (.iconst 0, 1, 0, 0, 0) := by decide +kernel
theorem s_160_54 {x0 x1 x2 x3 x4 x5 x6 x7 x8 x9 x10 x11 x12 x13 x14 x15 x16 x17 : Option Value} : mw d 160 Q 54 [x0, x1, x2, x3, x4, x5, x6, x7, x8, x9, x10, x11, x12, x13, x14, x15, x16, x17] (st) h = mw d 160 Q 55 [x0, x1, x2, x3, x4, x5, x6, x7, x8, x9, x10, x11, x12, x13, x14, x15, x16, x17] (.int 0 :: st) h := (mw_at mj_160_54).trans (z_iconst (by decide))
theorem mj_160_55 : mc_P 160 55 = some (.istore 9, 2, 0, 0, 0) := by decide +kernel
theorem s_160_55 {x0 x1 x2 x3 x4 x5 x6 x7 x8 x9 x10 x11 x12 x13 x14 x15 x16 x17 : Option Value} {w : Int32} : mw d 160 Q 55 [x0, x1, x2, x3, x4, x5, x6, x7, x8, x9, x10, x11, x12, x13, x14, x15, x16, x17] (.int w :: st) h = mw d 160 Q 57 [x0, x1, x2, x3, x4, x5, x6, x7, mk2 x8, some (.int w), x10, x11, x12, x13, x14, x15, x16, x17] (st) h := (mw_at mj_160_55).trans (z_istore (Nat.le_of_ble_eq_true rfl) (me_s1_mk (j := 8) (w := x8) rfl))
theorem mj_160_57 : mc_P 160 57 = some (.iload 9, 2, 0, 0, 0) := by decide +kernel
theorem s_160_57 {x0 x1 x2 x3 x4 x5 x6 x7 x8 x10 x11 x12 x13 x14 x15 x16 x17 : Option Value} {w : Value} : mw d 160 Q 57 [x0, x1, x2, x3, x4, x5, x6, x7, x8, some w, x10, x11, x12, x13, x14, x15, x16, x17] (st) h = mv_i w (mw d 160 Q 59 [x0, x1, x2, x3, x4, x5, x6, x7, x8, some w, x10, x11, x12, x13, x14, x15, x16, x17] (w :: st) h) := (mw_at mj_160_57).trans (z_iload rfl)
theorem mj_160_59 : mc_P 160 59 = some (.iconst 2, 1, 0, 0, 0) := by decide +kernel
theorem s_160_59 {x0 x1 x2 x3 x4 x5 x6 x7 x8 x9 x10 x11 x12 x13 x14 x15 x16 x17 : Option Value} : mw d 160 Q 59 [x0, x1, x2, x3, x4, x5, x6, x7, x8, x9, x10, x11, x12, x13, x14, x15, x16, x17] (st) h = mw d 160 Q 60 [x0, x1, x2, x3, x4, x5, x6, x7, x8, x9, x10, x11, x12, x13, x14, x15, x16, x17] (.int 2 :: st) h := (mw_at mj_160_59).trans (z_iconst (by decide))
theorem mj_160_60 : mc_P 160 60 = some (.aload_n 0, 1, 0, 0, 0) := by decide +kernel
theorem s_160_60 {x1 x2 x3 x4 x5 x6 x7 x8 x9 x10 x11 x12 x13 x14 x15 x16 x17 : Option Value} {w : Value} : mw d 160 Q 60 [some w, x1, x2, x3, x4, x5, x6, x7, x8, x9, x10, x11, x12, x13, x14, x15, x16, x17] (st) h = mv_a w (mw d 160 Q 61 [some w, x1, x2, x3, x4, x5, x6, x7, x8, x9, x10, x11, x12, x13, x14, x15, x16, x17] (w :: st) h) := (mw_at mj_160_60).trans (z_aload_n rfl)
theorem mj_160_61 : mc_P 160 61 = some (.getfield 26, 3, 8, 1, 0) := by decide +kernel
theorem s_160_61 {x0 x1 x2 x3 x4 x5 x6 x7 x8 x9 x10 x11 x12 x13 x14 x15 x16 x17 : Option Value} {o : Nat} : mw d 160 Q 61 [x0, x1, x2, x3, x4, x5, x6, x7, x8, x9, x10, x11, x12, x13, x14, x15, x16, x17] (.ref o :: st) h = (mg h o 8 ∧ mw d 160 Q 64 [x0, x1, x2, x3, x4, x5, x6, x7, x8, x9, x10, x11, x12, x13, x14, x15, x16, x17] (.int (mh_i h o 1) :: st) h) := (mw_at mj_160_61).trans (z_geti (by decide) (by decide) (Or.inl rfl))
theorem mj_160_64 : mc_P 160 64 = some (.imul, 1, 0, 0, 0) := by decide +kernel
theorem s_160_64 {x0 x1 x2 x3 x4 x5 x6 x7 x8 x9 x10 x11 x12 x13 x14 x15 x16 x17 : Option Value} {x w : Int32} : mw d 160 Q 64 [x0, x1, x2, x3, x4, x5, x6, x7, x8, x9, x10, x11, x12, x13, x14, x15, x16, x17] (.int w :: .int x :: st) h = mw d 160 Q 65 [x0, x1, x2, x3, x4, x5, x6, x7, x8, x9, x10, x11, x12, x13, x14, x15, x16, x17] (.int (x * w) :: st) h := (mw_at mj_160_64).trans (z_imul)
theorem mj_160_65 : mc_P 160 65 = some (.if_icmp .ge 68, 3, 0, 0, 0) := by decide +kernel
theorem s_160_65 {x0 x1 x2 x3 x4 x5 x6 x7 x8 x9 x10 x11 x12 x13 x14 x15 x16 x17 : Option Value} {x w : Int32} : mw d 160 Q 65 [x0, x1, x2, x3, x4, x5, x6, x7, x8, x9, x10, x11, x12, x13, x14, x15, x16, x17] (.int w :: .int x :: st) h = mB (w ≤ x) (mw d 160 Q) 133 68 [x0, x1, x2, x3, x4, x5, x6, x7, x8, x9, x10, x11, x12, x13, x14, x15, x16, x17] st h := (mw_at mj_160_65).trans (z_icmp_ge (by decide) rfl)
theorem mj_160_68 : mc_P 160 68 = some (.aload_n 0, 1, 0, 0, 0) := by decide +kernel
theorem s_160_68 {x1 x2 x3 x4 x5 x6 x7 x8 x9 x10 x11 x12 x13 x14 x15 x16 x17 : Option Value} {w : Value} : mw d 160 Q 68 [some w, x1, x2, x3, x4, x5, x6, x7, x8, x9, x10, x11, x12, x13, x14, x15, x16, x17] (st) h = mv_a w (mw d 160 Q 69 [some w, x1, x2, x3, x4, x5, x6, x7, x8, x9, x10, x11, x12, x13, x14, x15, x16, x17] (w :: st) h) := (mw_at mj_160_68).trans (z_aload_n rfl)
theorem mj_160_69 : mc_P 160 69 = some (.getfield 11, 3, 8, 3, 0) := by decide +kernel
theorem s_160_69 {x0 x1 x2 x3 x4 x5 x6 x7 x8 x9 x10 x11 x12 x13 x14 x15 x16 x17 : Option Value} {o : Nat} : mw d 160 Q 69 [x0, x1, x2, x3, x4, x5, x6, x7, x8, x9, x10, x11, x12, x13, x14, x15, x16, x17] (.ref o :: st) h = (mg h o 8 ∧ mw d 160 Q 72 [x0, x1, x2, x3, x4, x5, x6, x7, x8, x9, x10, x11, x12, x13, x14, x15, x16, x17] (va_rf (mh_r h o 3) :: st) h) := (mw_at mj_160_69).trans (z_getr (by decide) (by decide) rfl)
theorem mj_160_72 : mc_P 160 72 = some (.iload_n 3, 1, 0, 0, 0) := by decide +kernel
theorem s_160_72 {x0 x1 x2 x4 x5 x6 x7 x8 x9 x10 x11 x12 x13 x14 x15 x16 x17 : Option Value} {w : Value} : mw d 160 Q 72 [x0, x1, x2, some w, x4, x5, x6, x7, x8, x9, x10, x11, x12, x13, x14, x15, x16, x17] (st) h = mv_i w (mw d 160 Q 73 [x0, x1, x2, some w, x4, x5, x6, x7, x8, x9, x10, x11, x12, x13, x14, x15, x16, x17] (w :: st) h) := (mw_at mj_160_72).trans (z_iload_n rfl)
theorem mj_160_73 : mc_P 160 73 = some (.iload 9, 2, 0, 0, 0) := by decide +kernel
theorem s_160_73 {x0 x1 x2 x3 x4 x5 x6 x7 x8 x10 x11 x12 x13 x14 x15 x16 x17 : Option Value} {w : Value} : mw d 160 Q 73 [x0, x1, x2, x3, x4, x5, x6, x7, x8, some w, x10, x11, x12, x13, x14, x15, x16, x17] (st) h = mv_i w (mw d 160 Q 75 [x0, x1, x2, x3, x4, x5, x6, x7, x8, some w, x10, x11, x12, x13, x14, x15, x16, x17] (w :: st) h) := (mw_at mj_160_73).trans (z_iload rfl)
theorem mj_160_75 : mc_P 160 75 = some (.invokestatic 52, 3, 140, 0, 2) := by decide +kernel
theorem s_160_75 {x0 x1 x2 x3 x4 x5 x6 x7 x8 x9 x10 x11 x12 x13 x14 x15 x16 x17 : Option Value} {a0 a1 : Value} : mw (d + 1) 160 Q 75 [x0, x1, x2, x3, x4, x5, x6, x7, x8, x9, x10, x11, x12, x13, x14, x15, x16, x17] (a1 :: a0 :: st) h = (mca st 8 ∧ mca [a0, a1] 2 ∧ mcall d 140 [a0, a1] h (mK (d + 1) 160 Q 78 [x0, x1, x2, x3, x4, x5, x6, x7, x8, x9, x10, x11, x12, x13, x14, x15, x16, x17] st)) := (mw_at mj_160_75).trans ((z_invs (As := [a0, a1]) rfl rfl).trans (congrArg (And _) (mC_nl nl_140)))
theorem mj_160_78 : mc_P 160 78 = some (.laload, 1, 0, 0, 0) := by decide +kernel
theorem s_160_78 {x0 x1 x2 x3 x4 x5 x6 x7 x8 x9 x10 x11 x12 x13 x14 x15 x16 x17 : Option Value} {o : Nat} {i : Int32} : mw d 160 Q 78 [x0, x1, x2, x3, x4, x5, x6, x7, x8, x9, x10, x11, x12, x13, x14, x15, x16, x17] (.int i :: .ref o :: st) h = (mg h o 101 ∧ mx i (mh_l h o) ∧ mw d 160 Q 79 [x0, x1, x2, x3, x4, x5, x6, x7, x8, x9, x10, x11, x12, x13, x14, x15, x16, x17] (.long (mh_j h o i.toNatClampNeg) :: st) h) := (mw_at mj_160_78).trans (z_lald)
theorem mj_160_79 : mc_P 160 79 = some (.lstore 10, 2, 0, 0, 0) := by decide +kernel
theorem s_160_79 {x0 x1 x2 x3 x4 x5 x6 x7 x8 x9 x10 x11 x12 x13 x14 x15 x16 x17 : Option Value} {w : Int64} : mw d 160 Q 79 [x0, x1, x2, x3, x4, x5, x6, x7, x8, x9, x10, x11, x12, x13, x14, x15, x16, x17] (.long w :: st) h = mw d 160 Q 81 [x0, x1, x2, x3, x4, x5, x6, x7, x8, mk2 x9, some (.long w), none, x12, x13, x14, x15, x16, x17] (st) h := (mw_at mj_160_79).trans (z_lstore (Nat.le_of_ble_eq_true rfl) (me_s2_mk (j := 9) (w := x9) rfl))
theorem mj_160_81 : mc_P 160 81 = some (.aload_n 0, 1, 0, 0, 0) := by decide +kernel
theorem s_160_81 {x1 x2 x3 x4 x5 x6 x7 x8 x9 x10 x11 x12 x13 x14 x15 x16 x17 : Option Value} {w : Value} : mw d 160 Q 81 [some w, x1, x2, x3, x4, x5, x6, x7, x8, x9, x10, x11, x12, x13, x14, x15, x16, x17] (st) h = mv_a w (mw d 160 Q 82 [some w, x1, x2, x3, x4, x5, x6, x7, x8, x9, x10, x11, x12, x13, x14, x15, x16, x17] (w :: st) h) := (mw_at mj_160_81).trans (z_aload_n rfl)
theorem mj_160_82 : mc_P 160 82 = some (.getfield 11, 3, 8, 3, 0) := by decide +kernel
theorem s_160_82 {x0 x1 x2 x3 x4 x5 x6 x7 x8 x9 x10 x11 x12 x13 x14 x15 x16 x17 : Option Value} {o : Nat} : mw d 160 Q 82 [x0, x1, x2, x3, x4, x5, x6, x7, x8, x9, x10, x11, x12, x13, x14, x15, x16, x17] (.ref o :: st) h = (mg h o 8 ∧ mw d 160 Q 85 [x0, x1, x2, x3, x4, x5, x6, x7, x8, x9, x10, x11, x12, x13, x14, x15, x16, x17] (va_rf (mh_r h o 3) :: st) h) := (mw_at mj_160_82).trans (z_getr (by decide) (by decide) rfl)
theorem mj_160_85 : mc_P 160 85 = some (.iload_n 3, 1, 0, 0, 0) := by decide +kernel
theorem s_160_85 {x0 x1 x2 x4 x5 x6 x7 x8 x9 x10 x11 x12 x13 x14 x15 x16 x17 : Option Value} {w : Value} : mw d 160 Q 85 [x0, x1, x2, some w, x4, x5, x6, x7, x8, x9, x10, x11, x12, x13, x14, x15, x16, x17] (st) h = mv_i w (mw d 160 Q 86 [x0, x1, x2, some w, x4, x5, x6, x7, x8, x9, x10, x11, x12, x13, x14, x15, x16, x17] (w :: st) h) := (mw_at mj_160_85).trans (z_iload_n rfl)
theorem mj_160_86 : mc_P 160 86 = some (.iconst 1, 1, 0, 0, 0) := by decide +kernel
theorem s_160_86 {x0 x1 x2 x3 x4 x5 x6 x7 x8 x9 x10 x11 x12 x13 x14 x15 x16 x17 : Option Value} : mw d 160 Q 86 [x0, x1, x2, x3, x4, x5, x6, x7, x8, x9, x10, x11, x12, x13, x14, x15, x16, x17] (st) h = mw d 160 Q 87 [x0, x1, x2, x3, x4, x5, x6, x7, x8, x9, x10, x11, x12, x13, x14, x15, x16, x17] (.int 1 :: st) h := (mw_at mj_160_86).trans (z_iconst (by decide))
theorem mj_160_87 : mc_P 160 87 = some (.iadd, 1, 0, 0, 0) := by decide +kernel
theorem s_160_87 {x0 x1 x2 x3 x4 x5 x6 x7 x8 x9 x10 x11 x12 x13 x14 x15 x16 x17 : Option Value} {x w : Int32} : mw d 160 Q 87 [x0, x1, x2, x3, x4, x5, x6, x7, x8, x9, x10, x11, x12, x13, x14, x15, x16, x17] (.int w :: .int x :: st) h = mw d 160 Q 88 [x0, x1, x2, x3, x4, x5, x6, x7, x8, x9, x10, x11, x12, x13, x14, x15, x16, x17] (.int (x + w) :: st) h := (mw_at mj_160_87).trans (z_iadd)
theorem mj_160_88 : mc_P 160 88 = some (.iload 9, 2, 0, 0, 0) := by decide +kernel
theorem s_160_88 {x0 x1 x2 x3 x4 x5 x6 x7 x8 x10 x11 x12 x13 x14 x15 x16 x17 : Option Value} {w : Value} : mw d 160 Q 88 [x0, x1, x2, x3, x4, x5, x6, x7, x8, some w, x10, x11, x12, x13, x14, x15, x16, x17] (st) h = mv_i w (mw d 160 Q 90 [x0, x1, x2, x3, x4, x5, x6, x7, x8, some w, x10, x11, x12, x13, x14, x15, x16, x17] (w :: st) h) := (mw_at mj_160_88).trans (z_iload rfl)
theorem mj_160_90 : mc_P 160 90 = some (.invokestatic 52, 3, 140, 0, 2) := by decide +kernel
theorem s_160_90 {x0 x1 x2 x3 x4 x5 x6 x7 x8 x9 x10 x11 x12 x13 x14 x15 x16 x17 : Option Value} {a0 a1 : Value} : mw (d + 1) 160 Q 90 [x0, x1, x2, x3, x4, x5, x6, x7, x8, x9, x10, x11, x12, x13, x14, x15, x16, x17] (a1 :: a0 :: st) h = (mca st 8 ∧ mca [a0, a1] 2 ∧ mcall d 140 [a0, a1] h (mK (d + 1) 160 Q 93 [x0, x1, x2, x3, x4, x5, x6, x7, x8, x9, x10, x11, x12, x13, x14, x15, x16, x17] st)) := (mw_at mj_160_90).trans ((z_invs (As := [a0, a1]) rfl rfl).trans (congrArg (And _) (mC_nl nl_140)))
theorem mj_160_93 : mc_P 160 93 = some (.laload, 1, 0, 0, 0) := by decide +kernel
theorem s_160_93 {x0 x1 x2 x3 x4 x5 x6 x7 x8 x9 x10 x11 x12 x13 x14 x15 x16 x17 : Option Value} {o : Nat} {i : Int32} : mw d 160 Q 93 [x0, x1, x2, x3, x4, x5, x6, x7, x8, x9, x10, x11, x12, x13, x14, x15, x16, x17] (.int i :: .ref o :: st) h = (mg h o 101 ∧ mx i (mh_l h o) ∧ mw d 160 Q 94 [x0, x1, x2, x3, x4, x5, x6, x7, x8, x9, x10, x11, x12, x13, x14, x15, x16, x17] (.long (mh_j h o i.toNatClampNeg) :: st) h) := (mw_at mj_160_93).trans (z_lald)
theorem mj_160_94 : mc_P 160 94 = some (.lstore 12, 2, 0, 0, 0) := by decide +kernel
theorem s_160_94 {x0 x1 x2 x3 x4 x5 x6 x7 x8 x9 x10 x11 x12 x13 x14 x15 x16 x17 : Option Value} {w : Int64} : mw d 160 Q 94 [x0, x1, x2, x3, x4, x5, x6, x7, x8, x9, x10, x11, x12, x13, x14, x15, x16, x17] (.long w :: st) h = mw d 160 Q 96 [x0, x1, x2, x3, x4, x5, x6, x7, x8, x9, x10, mk2 x11, some (.long w), none, x14, x15, x16, x17] (st) h := (mw_at mj_160_94).trans (z_lstore (Nat.le_of_ble_eq_true rfl) (me_s2_mk (j := 11) (w := x11) rfl))
theorem mj_160_96 : mc_P 160 96 = some (.aload_n 2, 1, 0, 0, 0) := by decide +kernel
theorem s_160_96 {x0 x1 x3 x4 x5 x6 x7 x8 x9 x10 x11 x12 x13 x14 x15 x16 x17 : Option Value} {w : Value} : mw d 160 Q 96 [x0, x1, some w, x3, x4, x5, x6, x7, x8, x9, x10, x11, x12, x13, x14, x15, x16, x17] (st) h = mv_a w (mw d 160 Q 97 [x0, x1, some w, x3, x4, x5, x6, x7, x8, x9, x10, x11, x12, x13, x14, x15, x16, x17] (w :: st) h) := (mw_at mj_160_96).trans (z_aload_n rfl)
theorem mj_160_97 : mc_P 160 97 = some (.iload 9, 2, 0, 0, 0) := by decide +kernel
theorem s_160_97 {x0 x1 x2 x3 x4 x5 x6 x7 x8 x10 x11 x12 x13 x14 x15 x16 x17 : Option Value} {w : Value} : mw d 160 Q 97 [x0, x1, x2, x3, x4, x5, x6, x7, x8, some w, x10, x11, x12, x13, x14, x15, x16, x17] (st) h = mv_i w (mw d 160 Q 99 [x0, x1, x2, x3, x4, x5, x6, x7, x8, some w, x10, x11, x12, x13, x14, x15, x16, x17] (w :: st) h) := (mw_at mj_160_97).trans (z_iload rfl)
theorem mj_160_99 : mc_P 160 99 = some (.lload 10, 2, 0, 0, 0) := by decide +kernel
theorem s_160_99 {x0 x1 x2 x3 x4 x5 x6 x7 x8 x9 x11 x12 x13 x14 x15 x16 x17 : Option Value} {w : Value} : mw d 160 Q 99 [x0, x1, x2, x3, x4, x5, x6, x7, x8, x9, some w, x11, x12, x13, x14, x15, x16, x17] (st) h = mv_l w (mw d 160 Q 101 [x0, x1, x2, x3, x4, x5, x6, x7, x8, x9, some w, x11, x12, x13, x14, x15, x16, x17] (w :: st) h) := (mw_at mj_160_99).trans (z_lload rfl)
theorem mj_160_101 : mc_P 160 101 = some (.lload 5, 2, 0, 0, 0) := by decide +kernel
theorem s_160_101 {x0 x1 x2 x3 x4 x6 x7 x8 x9 x10 x11 x12 x13 x14 x15 x16 x17 : Option Value} {w : Value} : mw d 160 Q 101 [x0, x1, x2, x3, x4, some w, x6, x7, x8, x9, x10, x11, x12, x13, x14, x15, x16, x17] (st) h = mv_l w (mw d 160 Q 103 [x0, x1, x2, x3, x4, some w, x6, x7, x8, x9, x10, x11, x12, x13, x14, x15, x16, x17] (w :: st) h) := (mw_at mj_160_101).trans (z_lload rfl)
theorem mj_160_103 : mc_P 160 103 = some (.lload 12, 2, 0, 0, 0) := by decide +kernel
theorem s_160_103 {x0 x1 x2 x3 x4 x5 x6 x7 x8 x9 x10 x11 x13 x14 x15 x16 x17 : Option Value} {w : Value} : mw d 160 Q 103 [x0, x1, x2, x3, x4, x5, x6, x7, x8, x9, x10, x11, some w, x13, x14, x15, x16, x17] (st) h = mv_l w (mw d 160 Q 105 [x0, x1, x2, x3, x4, x5, x6, x7, x8, x9, x10, x11, some w, x13, x14, x15, x16, x17] (w :: st) h) := (mw_at mj_160_103).trans (z_lload rfl)
theorem mj_160_105 : mc_P 160 105 = some (.ladd, 1, 0, 0, 0) := by decide +kernel
theorem s_160_105 {x0 x1 x2 x3 x4 x5 x6 x7 x8 x9 x10 x11 x12 x13 x14 x15 x16 x17 : Option Value} {x w : Int64} : mw d 160 Q 105 [x0, x1, x2, x3, x4, x5, x6, x7, x8, x9, x10, x11, x12, x13, x14, x15, x16, x17] (.long w :: .long x :: st) h = mw d 160 Q 106 [x0, x1, x2, x3, x4, x5, x6, x7, x8, x9, x10, x11, x12, x13, x14, x15, x16, x17] (.long (x + w) :: st) h := (mw_at mj_160_105).trans (z_ladd)
theorem mj_160_106 : mc_P 160 106 = some (.invokestatic 70, 3, 0, 22, 0) := by decide +kernel
theorem s_160_106 {x0 x1 x2 x3 x4 x5 x6 x7 x8 x9 x10 x11 x12 x13 x14 x15 x16 x17 : Option Value} {x w : Int64} : mw d 160 Q 106 [x0, x1, x2, x3, x4, x5, x6, x7, x8, x9, x10, x11, x12, x13, x14, x15, x16, x17] (.long w :: .long x :: st) h = (mca st 8 ∧ mw d 160 Q 109 [x0, x1, x2, x3, x4, x5, x6, x7, x8, x9, x10, x11, x12, x13, x14, x15, x16, x17] (.long (if w < x then w else x) :: st) h) := (mw_at mj_160_106).trans (z_lmin)
theorem mj_160_109 : mc_P 160 109 = some (.lastore, 1, 0, 0, 0) := by decide +kernel
theorem s_160_109 {x0 x1 x2 x3 x4 x5 x6 x7 x8 x9 x10 x11 x12 x13 x14 x15 x16 x17 : Option Value} {o : Nat} {i : Int32} {w : Int64} : mw d 160 Q 109 [x0, x1, x2, x3, x4, x5, x6, x7, x8, x9, x10, x11, x12, x13, x14, x15, x16, x17] (.long w :: .int i :: .ref o :: st) h = (mg h o 101 ∧ mx i (mh_l h o) ∧ mw d 160 Q 110 [x0, x1, x2, x3, x4, x5, x6, x7, x8, x9, x10, x11, x12, x13, x14, x15, x16, x17] (st) (mh_sj h o i.toNatClampNeg w)) := (mw_at mj_160_109).trans (z_last)
theorem mj_160_110 : mc_P 160 110 = some (.aload_n 2, 1, 0, 0, 0) := by decide +kernel
theorem s_160_110 {x0 x1 x3 x4 x5 x6 x7 x8 x9 x10 x11 x12 x13 x14 x15 x16 x17 : Option Value} {w : Value} : mw d 160 Q 110 [x0, x1, some w, x3, x4, x5, x6, x7, x8, x9, x10, x11, x12, x13, x14, x15, x16, x17] (st) h = mv_a w (mw d 160 Q 111 [x0, x1, some w, x3, x4, x5, x6, x7, x8, x9, x10, x11, x12, x13, x14, x15, x16, x17] (w :: st) h) := (mw_at mj_160_110).trans (z_aload_n rfl)
theorem mj_160_111 : mc_P 160 111 = some (.iload 4, 2, 0, 0, 0) := by decide +kernel
theorem s_160_111 {x0 x1 x2 x3 x5 x6 x7 x8 x9 x10 x11 x12 x13 x14 x15 x16 x17 : Option Value} {w : Value} : mw d 160 Q 111 [x0, x1, x2, x3, some w, x5, x6, x7, x8, x9, x10, x11, x12, x13, x14, x15, x16, x17] (st) h = mv_i w (mw d 160 Q 113 [x0, x1, x2, x3, some w, x5, x6, x7, x8, x9, x10, x11, x12, x13, x14, x15, x16, x17] (w :: st) h) := (mw_at mj_160_111).trans (z_iload rfl)
theorem mj_160_113 : mc_P 160 113 = some (.iload 9, 2, 0, 0, 0) := by decide +kernel
theorem s_160_113 {x0 x1 x2 x3 x4 x5 x6 x7 x8 x10 x11 x12 x13 x14 x15 x16 x17 : Option Value} {w : Value} : mw d 160 Q 113 [x0, x1, x2, x3, x4, x5, x6, x7, x8, some w, x10, x11, x12, x13, x14, x15, x16, x17] (st) h = mv_i w (mw d 160 Q 115 [x0, x1, x2, x3, x4, x5, x6, x7, x8, some w, x10, x11, x12, x13, x14, x15, x16, x17] (w :: st) h) := (mw_at mj_160_113).trans (z_iload rfl)
theorem mj_160_115 : mc_P 160 115 = some (.iadd, 1, 0, 0, 0) := by decide +kernel
theorem s_160_115 {x0 x1 x2 x3 x4 x5 x6 x7 x8 x9 x10 x11 x12 x13 x14 x15 x16 x17 : Option Value} {x w : Int32} : mw d 160 Q 115 [x0, x1, x2, x3, x4, x5, x6, x7, x8, x9, x10, x11, x12, x13, x14, x15, x16, x17] (.int w :: .int x :: st) h = mw d 160 Q 116 [x0, x1, x2, x3, x4, x5, x6, x7, x8, x9, x10, x11, x12, x13, x14, x15, x16, x17] (.int (x + w) :: st) h := (mw_at mj_160_115).trans (z_iadd)
theorem mj_160_116 : mc_P 160 116 = some (.lload 12, 2, 0, 0, 0) := by decide +kernel
theorem s_160_116 {x0 x1 x2 x3 x4 x5 x6 x7 x8 x9 x10 x11 x13 x14 x15 x16 x17 : Option Value} {w : Value} : mw d 160 Q 116 [x0, x1, x2, x3, x4, x5, x6, x7, x8, x9, x10, x11, some w, x13, x14, x15, x16, x17] (st) h = mv_l w (mw d 160 Q 118 [x0, x1, x2, x3, x4, x5, x6, x7, x8, x9, x10, x11, some w, x13, x14, x15, x16, x17] (w :: st) h) := (mw_at mj_160_116).trans (z_lload rfl)
theorem mj_160_118 : mc_P 160 118 = some (.lload 7, 2, 0, 0, 0) := by decide +kernel
theorem s_160_118 {x0 x1 x2 x3 x4 x5 x6 x8 x9 x10 x11 x12 x13 x14 x15 x16 x17 : Option Value} {w : Value} : mw d 160 Q 118 [x0, x1, x2, x3, x4, x5, x6, some w, x8, x9, x10, x11, x12, x13, x14, x15, x16, x17] (st) h = mv_l w (mw d 160 Q 120 [x0, x1, x2, x3, x4, x5, x6, some w, x8, x9, x10, x11, x12, x13, x14, x15, x16, x17] (w :: st) h) := (mw_at mj_160_118).trans (z_lload rfl)
theorem mj_160_120 : mc_P 160 120 = some (.lload 10, 2, 0, 0, 0) := by decide +kernel
theorem s_160_120 {x0 x1 x2 x3 x4 x5 x6 x7 x8 x9 x11 x12 x13 x14 x15 x16 x17 : Option Value} {w : Value} : mw d 160 Q 120 [x0, x1, x2, x3, x4, x5, x6, x7, x8, x9, some w, x11, x12, x13, x14, x15, x16, x17] (st) h = mv_l w (mw d 160 Q 122 [x0, x1, x2, x3, x4, x5, x6, x7, x8, x9, some w, x11, x12, x13, x14, x15, x16, x17] (w :: st) h) := (mw_at mj_160_120).trans (z_lload rfl)
theorem mj_160_122 : mc_P 160 122 = some (.ladd, 1, 0, 0, 0) := by decide +kernel
theorem s_160_122 {x0 x1 x2 x3 x4 x5 x6 x7 x8 x9 x10 x11 x12 x13 x14 x15 x16 x17 : Option Value} {x w : Int64} : mw d 160 Q 122 [x0, x1, x2, x3, x4, x5, x6, x7, x8, x9, x10, x11, x12, x13, x14, x15, x16, x17] (.long w :: .long x :: st) h = mw d 160 Q 123 [x0, x1, x2, x3, x4, x5, x6, x7, x8, x9, x10, x11, x12, x13, x14, x15, x16, x17] (.long (x + w) :: st) h := (mw_at mj_160_122).trans (z_ladd)
theorem mj_160_123 : mc_P 160 123 = some (.invokestatic 70, 3, 0, 22, 0) := by decide +kernel
theorem s_160_123 {x0 x1 x2 x3 x4 x5 x6 x7 x8 x9 x10 x11 x12 x13 x14 x15 x16 x17 : Option Value} {x w : Int64} : mw d 160 Q 123 [x0, x1, x2, x3, x4, x5, x6, x7, x8, x9, x10, x11, x12, x13, x14, x15, x16, x17] (.long w :: .long x :: st) h = (mca st 8 ∧ mw d 160 Q 126 [x0, x1, x2, x3, x4, x5, x6, x7, x8, x9, x10, x11, x12, x13, x14, x15, x16, x17] (.long (if w < x then w else x) :: st) h) := (mw_at mj_160_123).trans (z_lmin)
theorem mj_160_126 : mc_P 160 126 = some (.lastore, 1, 0, 0, 0) := by decide +kernel
theorem s_160_126 {x0 x1 x2 x3 x4 x5 x6 x7 x8 x9 x10 x11 x12 x13 x14 x15 x16 x17 : Option Value} {o : Nat} {i : Int32} {w : Int64} : mw d 160 Q 126 [x0, x1, x2, x3, x4, x5, x6, x7, x8, x9, x10, x11, x12, x13, x14, x15, x16, x17] (.long w :: .int i :: .ref o :: st) h = (mg h o 101 ∧ mx i (mh_l h o) ∧ mw d 160 Q 127 [x0, x1, x2, x3, x4, x5, x6, x7, x8, x9, x10, x11, x12, x13, x14, x15, x16, x17] (st) (mh_sj h o i.toNatClampNeg w)) := (mw_at mj_160_126).trans (z_last)
theorem mj_160_127 : mc_P 160 127 = some (.iinc 9 1, 3, 0, 0, 0) := by decide +kernel
theorem s_160_127 {x0 x1 x2 x3 x4 x5 x6 x7 x8 x10 x11 x12 x13 x14 x15 x16 x17 : Option Value} {w : Int32} : mw d 160 Q 127 [x0, x1, x2, x3, x4, x5, x6, x7, x8, some (.int w), x10, x11, x12, x13, x14, x15, x16, x17] (st) h = mw d 160 Q 130 [x0, x1, x2, x3, x4, x5, x6, x7, mk2 x8, some (.int (w + 1)), x10, x11, x12, x13, x14, x15, x16, x17] (st) h := (mw_at mj_160_127).trans (z_iinc rfl (Nat.le_of_ble_eq_true rfl) (by decide) (me_s1_mk (j := 8) (w := x8) rfl))
theorem mj_160_130 : mc_P 160 130 = some (.goto (-73), 3, 0, 0, 0) := by decide +kernel
theorem s_160_130 {x0 x1 x2 x3 x4 x5 x6 x7 x8 x9 x10 x11 x12 x13 x14 x15 x16 x17 : Option Value} : mw d 160 Q 130 [x0, x1, x2, x3, x4, x5, x6, x7, x8, x9, x10, x11, x12, x13, x14, x15, x16, x17] (st) h = mw d 160 Q 57 [x0, x1, x2, x3, x4, x5, x6, x7, x8, x9, x10, x11, x12, x13, x14, x15, x16, x17] (st) h := (mw_at mj_160_130).trans (z_goto (by decide))
theorem mj_160_133 : mc_P 160 133 = some (.iconst 0, 1, 0, 0, 0) := by decide +kernel
theorem s_160_133 {x0 x1 x2 x3 x4 x5 x6 x7 x8 x9 x10 x11 x12 x13 x14 x15 x16 x17 : Option Value} : mw d 160 Q 133 [x0, x1, x2, x3, x4, x5, x6, x7, x8, x9, x10, x11, x12, x13, x14, x15, x16, x17] (st) h = mw d 160 Q 134 [x0, x1, x2, x3, x4, x5, x6, x7, x8, x9, x10, x11, x12, x13, x14, x15, x16, x17] (.int 0 :: st) h := (mw_at mj_160_133).trans (z_iconst (by decide))
theorem mj_160_134 : mc_P 160 134 = some (.istore 9, 2, 0, 0, 0) := by decide +kernel
theorem s_160_134 {x0 x1 x2 x3 x4 x5 x6 x7 x8 x9 x10 x11 x12 x13 x14 x15 x16 x17 : Option Value} {w : Int32} : mw d 160 Q 134 [x0, x1, x2, x3, x4, x5, x6, x7, x8, x9, x10, x11, x12, x13, x14, x15, x16, x17] (.int w :: st) h = mw d 160 Q 136 [x0, x1, x2, x3, x4, x5, x6, x7, mk2 x8, some (.int w), x10, x11, x12, x13, x14, x15, x16, x17] (st) h := (mw_at mj_160_134).trans (z_istore (Nat.le_of_ble_eq_true rfl) (me_s1_mk (j := 8) (w := x8) rfl))
theorem mj_160_136 : mc_P 160 136 = some (.iload 9, 2, 0, 0, 0) := by decide +kernel
theorem s_160_136 {x0 x1 x2 x3 x4 x5 x6 x7 x8 x10 x11 x12 x13 x14 x15 x16 x17 : Option Value} {w : Value} : mw d 160 Q 136 [x0, x1, x2, x3, x4, x5, x6, x7, x8, some w, x10, x11, x12, x13, x14, x15, x16, x17] (st) h = mv_i w (mw d 160 Q 138 [x0, x1, x2, x3, x4, x5, x6, x7, x8, some w, x10, x11, x12, x13, x14, x15, x16, x17] (w :: st) h) := (mw_at mj_160_136).trans (z_iload rfl)
theorem mj_160_138 : mc_P 160 138 = some (.iconst 2, 1, 0, 0, 0) := by decide +kernel
theorem s_160_138 {x0 x1 x2 x3 x4 x5 x6 x7 x8 x9 x10 x11 x12 x13 x14 x15 x16 x17 : Option Value} : mw d 160 Q 138 [x0, x1, x2, x3, x4, x5, x6, x7, x8, x9, x10, x11, x12, x13, x14, x15, x16, x17] (st) h = mw d 160 Q 139 [x0, x1, x2, x3, x4, x5, x6, x7, x8, x9, x10, x11, x12, x13, x14, x15, x16, x17] (.int 2 :: st) h := (mw_at mj_160_138).trans (z_iconst (by decide))
theorem mj_160_139 : mc_P 160 139 = some (.aload_n 0, 1, 0, 0, 0) := by decide +kernel
theorem s_160_139 {x1 x2 x3 x4 x5 x6 x7 x8 x9 x10 x11 x12 x13 x14 x15 x16 x17 : Option Value} {w : Value} : mw d 160 Q 139 [some w, x1, x2, x3, x4, x5, x6, x7, x8, x9, x10, x11, x12, x13, x14, x15, x16, x17] (st) h = mv_a w (mw d 160 Q 140 [some w, x1, x2, x3, x4, x5, x6, x7, x8, x9, x10, x11, x12, x13, x14, x15, x16, x17] (w :: st) h) := (mw_at mj_160_139).trans (z_aload_n rfl)
theorem mj_160_140 : mc_P 160 140 = some (.getfield 26, 3, 8, 1, 0) := by decide +kernel
theorem s_160_140 {x0 x1 x2 x3 x4 x5 x6 x7 x8 x9 x10 x11 x12 x13 x14 x15 x16 x17 : Option Value} {o : Nat} : mw d 160 Q 140 [x0, x1, x2, x3, x4, x5, x6, x7, x8, x9, x10, x11, x12, x13, x14, x15, x16, x17] (.ref o :: st) h = (mg h o 8 ∧ mw d 160 Q 143 [x0, x1, x2, x3, x4, x5, x6, x7, x8, x9, x10, x11, x12, x13, x14, x15, x16, x17] (.int (mh_i h o 1) :: st) h) := (mw_at mj_160_140).trans (z_geti (by decide) (by decide) (Or.inl rfl))
theorem mj_160_143 : mc_P 160 143 = some (.imul, 1, 0, 0, 0) := by decide +kernel
theorem s_160_143 {x0 x1 x2 x3 x4 x5 x6 x7 x8 x9 x10 x11 x12 x13 x14 x15 x16 x17 : Option Value} {x w : Int32} : mw d 160 Q 143 [x0, x1, x2, x3, x4, x5, x6, x7, x8, x9, x10, x11, x12, x13, x14, x15, x16, x17] (.int w :: .int x :: st) h = mw d 160 Q 144 [x0, x1, x2, x3, x4, x5, x6, x7, x8, x9, x10, x11, x12, x13, x14, x15, x16, x17] (.int (x * w) :: st) h := (mw_at mj_160_143).trans (z_imul)
theorem mj_160_144 : mc_P 160 144 = some (.if_icmp .ge 121, 3, 0, 0, 0) := by decide +kernel
theorem s_160_144 {x0 x1 x2 x3 x4 x5 x6 x7 x8 x9 x10 x11 x12 x13 x14 x15 x16 x17 : Option Value} {x w : Int32} : mw d 160 Q 144 [x0, x1, x2, x3, x4, x5, x6, x7, x8, x9, x10, x11, x12, x13, x14, x15, x16, x17] (.int w :: .int x :: st) h = mB (w ≤ x) (mw d 160 Q) 265 147 [x0, x1, x2, x3, x4, x5, x6, x7, x8, x9, x10, x11, x12, x13, x14, x15, x16, x17] st h := (mw_at mj_160_144).trans (z_icmp_ge (by decide) rfl)
theorem mj_160_147 : mc_P 160 147 = some (.aload_n 2, 1, 0, 0, 0) := by decide +kernel
theorem s_160_147 {x0 x1 x3 x4 x5 x6 x7 x8 x9 x10 x11 x12 x13 x14 x15 x16 x17 : Option Value} {w : Value} : mw d 160 Q 147 [x0, x1, some w, x3, x4, x5, x6, x7, x8, x9, x10, x11, x12, x13, x14, x15, x16, x17] (st) h = mv_a w (mw d 160 Q 148 [x0, x1, some w, x3, x4, x5, x6, x7, x8, x9, x10, x11, x12, x13, x14, x15, x16, x17] (w :: st) h) := (mw_at mj_160_147).trans (z_aload_n rfl)
theorem mj_160_148 : mc_P 160 148 = some (.iload 4, 2, 0, 0, 0) := by decide +kernel
theorem s_160_148 {x0 x1 x2 x3 x5 x6 x7 x8 x9 x10 x11 x12 x13 x14 x15 x16 x17 : Option Value} {w : Value} : mw d 160 Q 148 [x0, x1, x2, x3, some w, x5, x6, x7, x8, x9, x10, x11, x12, x13, x14, x15, x16, x17] (st) h = mv_i w (mw d 160 Q 150 [x0, x1, x2, x3, some w, x5, x6, x7, x8, x9, x10, x11, x12, x13, x14, x15, x16, x17] (w :: st) h) := (mw_at mj_160_148).trans (z_iload rfl)
theorem mj_160_150 : mc_P 160 150 = some (.iload 9, 2, 0, 0, 0) := by decide +kernel
theorem s_160_150 {x0 x1 x2 x3 x4 x5 x6 x7 x8 x10 x11 x12 x13 x14 x15 x16 x17 : Option Value} {w : Value} : mw d 160 Q 150 [x0, x1, x2, x3, x4, x5, x6, x7, x8, some w, x10, x11, x12, x13, x14, x15, x16, x17] (st) h = mv_i w (mw d 160 Q 152 [x0, x1, x2, x3, x4, x5, x6, x7, x8, some w, x10, x11, x12, x13, x14, x15, x16, x17] (w :: st) h) := (mw_at mj_160_150).trans (z_iload rfl)
theorem mj_160_152 : mc_P 160 152 = some (.iconst 1, 1, 0, 0, 0) := by decide +kernel
theorem s_160_152 {x0 x1 x2 x3 x4 x5 x6 x7 x8 x9 x10 x11 x12 x13 x14 x15 x16 x17 : Option Value} : mw d 160 Q 152 [x0, x1, x2, x3, x4, x5, x6, x7, x8, x9, x10, x11, x12, x13, x14, x15, x16, x17] (st) h = mw d 160 Q 153 [x0, x1, x2, x3, x4, x5, x6, x7, x8, x9, x10, x11, x12, x13, x14, x15, x16, x17] (.int 1 :: st) h := (mw_at mj_160_152).trans (z_iconst (by decide))
theorem mj_160_153 : mc_P 160 153 = some (.ixor, 1, 0, 0, 0) := by decide +kernel
theorem s_160_153 {x0 x1 x2 x3 x4 x5 x6 x7 x8 x9 x10 x11 x12 x13 x14 x15 x16 x17 : Option Value} {x w : Int32} : mw d 160 Q 153 [x0, x1, x2, x3, x4, x5, x6, x7, x8, x9, x10, x11, x12, x13, x14, x15, x16, x17] (.int w :: .int x :: st) h = mw d 160 Q 154 [x0, x1, x2, x3, x4, x5, x6, x7, x8, x9, x10, x11, x12, x13, x14, x15, x16, x17] (.int (x ^^^ w) :: st) h := (mw_at mj_160_153).trans (z_ixor)
theorem mj_160_154 : mc_P 160 154 = some (.iadd, 1, 0, 0, 0) := by decide +kernel
theorem s_160_154 {x0 x1 x2 x3 x4 x5 x6 x7 x8 x9 x10 x11 x12 x13 x14 x15 x16 x17 : Option Value} {x w : Int32} : mw d 160 Q 154 [x0, x1, x2, x3, x4, x5, x6, x7, x8, x9, x10, x11, x12, x13, x14, x15, x16, x17] (.int w :: .int x :: st) h = mw d 160 Q 155 [x0, x1, x2, x3, x4, x5, x6, x7, x8, x9, x10, x11, x12, x13, x14, x15, x16, x17] (.int (x + w) :: st) h := (mw_at mj_160_154).trans (z_iadd)
theorem mj_160_155 : mc_P 160 155 = some (.laload, 1, 0, 0, 0) := by decide +kernel
theorem s_160_155 {x0 x1 x2 x3 x4 x5 x6 x7 x8 x9 x10 x11 x12 x13 x14 x15 x16 x17 : Option Value} {o : Nat} {i : Int32} : mw d 160 Q 155 [x0, x1, x2, x3, x4, x5, x6, x7, x8, x9, x10, x11, x12, x13, x14, x15, x16, x17] (.int i :: .ref o :: st) h = (mg h o 101 ∧ mx i (mh_l h o) ∧ mw d 160 Q 156 [x0, x1, x2, x3, x4, x5, x6, x7, x8, x9, x10, x11, x12, x13, x14, x15, x16, x17] (.long (mh_j h o i.toNatClampNeg) :: st) h) := (mw_at mj_160_155).trans (z_lald)
theorem mj_160_156 : mc_P 160 156 = some (.lstore 10, 2, 0, 0, 0) := by decide +kernel
theorem s_160_156 {x0 x1 x2 x3 x4 x5 x6 x7 x8 x9 x10 x11 x12 x13 x14 x15 x16 x17 : Option Value} {w : Int64} : mw d 160 Q 156 [x0, x1, x2, x3, x4, x5, x6, x7, x8, x9, x10, x11, x12, x13, x14, x15, x16, x17] (.long w :: st) h = mw d 160 Q 158 [x0, x1, x2, x3, x4, x5, x6, x7, x8, mk2 x9, some (.long w), none, x12, x13, x14, x15, x16, x17] (st) h := (mw_at mj_160_156).trans (z_lstore (Nat.le_of_ble_eq_true rfl) (me_s2_mk (j := 9) (w := x9) rfl))
theorem mj_160_158 : mc_P 160 158 = some (.aload_n 2, 1, 0, 0, 0) := by decide +kernel
theorem s_160_158 {x0 x1 x3 x4 x5 x6 x7 x8 x9 x10 x11 x12 x13 x14 x15 x16 x17 : Option Value} {w : Value} : mw d 160 Q 158 [x0, x1, some w, x3, x4, x5, x6, x7, x8, x9, x10, x11, x12, x13, x14, x15, x16, x17] (st) h = mv_a w (mw d 160 Q 159 [x0, x1, some w, x3, x4, x5, x6, x7, x8, x9, x10, x11, x12, x13, x14, x15, x16, x17] (w :: st) h) := (mw_at mj_160_158).trans (z_aload_n rfl)
theorem mj_160_159 : mc_P 160 159 = some (.iload 9, 2, 0, 0, 0) := by decide +kernel
theorem s_160_159 {x0 x1 x2 x3 x4 x5 x6 x7 x8 x10 x11 x12 x13 x14 x15 x16 x17 : Option Value} {w : Value} : mw d 160 Q 159 [x0, x1, x2, x3, x4, x5, x6, x7, x8, some w, x10, x11, x12, x13, x14, x15, x16, x17] (st) h = mv_i w (mw d 160 Q 161 [x0, x1, x2, x3, x4, x5, x6, x7, x8, some w, x10, x11, x12, x13, x14, x15, x16, x17] (w :: st) h) := (mw_at mj_160_159).trans (z_iload rfl)
theorem mj_160_161 : mc_P 160 161 = some (.iconst 1, 1, 0, 0, 0) := by decide +kernel
theorem s_160_161 {x0 x1 x2 x3 x4 x5 x6 x7 x8 x9 x10 x11 x12 x13 x14 x15 x16 x17 : Option Value} : mw d 160 Q 161 [x0, x1, x2, x3, x4, x5, x6, x7, x8, x9, x10, x11, x12, x13, x14, x15, x16, x17] (st) h = mw d 160 Q 162 [x0, x1, x2, x3, x4, x5, x6, x7, x8, x9, x10, x11, x12, x13, x14, x15, x16, x17] (.int 1 :: st) h := (mw_at mj_160_161).trans (z_iconst (by decide))
theorem mj_160_162 : mc_P 160 162 = some (.ixor, 1, 0, 0, 0) := by decide +kernel
theorem s_160_162 {x0 x1 x2 x3 x4 x5 x6 x7 x8 x9 x10 x11 x12 x13 x14 x15 x16 x17 : Option Value} {x w : Int32} : mw d 160 Q 162 [x0, x1, x2, x3, x4, x5, x6, x7, x8, x9, x10, x11, x12, x13, x14, x15, x16, x17] (.int w :: .int x :: st) h = mw d 160 Q 163 [x0, x1, x2, x3, x4, x5, x6, x7, x8, x9, x10, x11, x12, x13, x14, x15, x16, x17] (.int (x ^^^ w) :: st) h := (mw_at mj_160_162).trans (z_ixor)
theorem mj_160_163 : mc_P 160 163 = some (.laload, 1, 0, 0, 0) := by decide +kernel
theorem s_160_163 {x0 x1 x2 x3 x4 x5 x6 x7 x8 x9 x10 x11 x12 x13 x14 x15 x16 x17 : Option Value} {o : Nat} {i : Int32} : mw d 160 Q 163 [x0, x1, x2, x3, x4, x5, x6, x7, x8, x9, x10, x11, x12, x13, x14, x15, x16, x17] (.int i :: .ref o :: st) h = (mg h o 101 ∧ mx i (mh_l h o) ∧ mw d 160 Q 164 [x0, x1, x2, x3, x4, x5, x6, x7, x8, x9, x10, x11, x12, x13, x14, x15, x16, x17] (.long (mh_j h o i.toNatClampNeg) :: st) h) := (mw_at mj_160_163).trans (z_lald)
theorem mj_160_164 : mc_P 160 164 = some (.lstore 12, 2, 0, 0, 0) := by decide +kernel
theorem s_160_164 {x0 x1 x2 x3 x4 x5 x6 x7 x8 x9 x10 x11 x12 x13 x14 x15 x16 x17 : Option Value} {w : Int64} : mw d 160 Q 164 [x0, x1, x2, x3, x4, x5, x6, x7, x8, x9, x10, x11, x12, x13, x14, x15, x16, x17] (.long w :: st) h = mw d 160 Q 166 [x0, x1, x2, x3, x4, x5, x6, x7, x8, x9, x10, mk2 x11, some (.long w), none, x14, x15, x16, x17] (st) h := (mw_at mj_160_164).trans (z_lstore (Nat.le_of_ble_eq_true rfl) (me_s2_mk (j := 11) (w := x11) rfl))
theorem mj_160_166 : mc_P 160 166 = some (.getstatic 18, 3, 2, 0, 0) := by decide +kernel
theorem s_160_166 {x0 x1 x2 x3 x4 x5 x6 x7 x8 x9 x10 x11 x12 x13 x14 x15 x16 x17 : Option Value} : mw d 160 Q 166 [x0, x1, x2, x3, x4, x5, x6, x7, x8, x9, x10, x11, x12, x13, x14, x15, x16, x17] (st) h = mw d 160 Q 169 [x0, x1, x2, x3, x4, x5, x6, x7, x8, x9, x10, x11, x12, x13, x14, x15, x16, x17] (.retAddr 2 :: st) h := (mw_at mj_160_166).trans (z_gets0)
theorem mj_160_169 : mc_P 160 169 = some (.iload 9, 2, 0, 0, 0) := by decide +kernel
theorem s_160_169 {x0 x1 x2 x3 x4 x5 x6 x7 x8 x10 x11 x12 x13 x14 x15 x16 x17 : Option Value} {w : Value} : mw d 160 Q 169 [x0, x1, x2, x3, x4, x5, x6, x7, x8, some w, x10, x11, x12, x13, x14, x15, x16, x17] (st) h = mv_i w (mw d 160 Q 171 [x0, x1, x2, x3, x4, x5, x6, x7, x8, some w, x10, x11, x12, x13, x14, x15, x16, x17] (w :: st) h) := (mw_at mj_160_169).trans (z_iload rfl)
theorem mj_160_171 : mc_P 160 171 = some (.iaload, 1, 0, 0, 0) := by decide +kernel
theorem s_160_171 {x0 x1 x2 x3 x4 x5 x6 x7 x8 x9 x10 x11 x12 x13 x14 x15 x16 x17 : Option Value} {o : Nat} {i : Int32} : mw d 160 Q 171 [x0, x1, x2, x3, x4, x5, x6, x7, x8, x9, x10, x11, x12, x13, x14, x15, x16, x17] (.int i :: .ref o :: st) h = (mg h o 100 ∧ mx i (mh_l h o) ∧ mw d 160 Q 172 [x0, x1, x2, x3, x4, x5, x6, x7, x8, x9, x10, x11, x12, x13, x14, x15, x16, x17] (.int (mh_i h o i.toNatClampNeg) :: st) h) := (mw_at mj_160_171).trans (z_iald)
theorem s_160_171x {x0 x1 x2 x3 x4 x5 x6 x7 x8 x9 x10 x11 x12 x13 x14 x15 x16 x17 : Option Value} {i : Int32} : mw d 160 Q 171 [x0, x1, x2, x3, x4, x5, x6, x7, x8, x9, x10, x11, x12, x13, x14, x15, x16, x17] (.int i :: .retAddr 2 :: st) h = (mx i 24 ∧ mw d 160 Q 172 [x0, x1, x2, x3, x4, x5, x6, x7, x8, x9, x10, x11, x12, x13, x14, x15, x16, x17] (.int (mx_row.getD i.toNatClampNeg 0) :: st) h) := (mw_at mj_160_171).trans (z_iaX)
theorem mj_160_172 : mc_P 160 172 = some (.istore 14, 2, 0, 0, 0) := by decide +kernel
theorem s_160_172 {x0 x1 x2 x3 x4 x5 x6 x7 x8 x9 x10 x11 x12 x13 x14 x15 x16 x17 : Option Value} {w : Int32} : mw d 160 Q 172 [x0, x1, x2, x3, x4, x5, x6, x7, x8, x9, x10, x11, x12, x13, x14, x15, x16, x17] (.int w :: st) h = mw d 160 Q 174 [x0, x1, x2, x3, x4, x5, x6, x7, x8, x9, x10, x11, x12, mk2 x13, some (.int w), x15, x16, x17] (st) h := (mw_at mj_160_172).trans (z_istore (Nat.le_of_ble_eq_true rfl) (me_s1_mk (j := 13) (w := x13) rfl))
theorem mj_160_174 : mc_P 160 174 = some (.iconst 0, 1, 0, 0, 0) := by decide +kernel
theorem s_160_174 {x0 x1 x2 x3 x4 x5 x6 x7 x8 x9 x10 x11 x12 x13 x14 x15 x16 x17 : Option Value} : mw d 160 Q 174 [x0, x1, x2, x3, x4, x5, x6, x7, x8, x9, x10, x11, x12, x13, x14, x15, x16, x17] (st) h = mw d 160 Q 175 [x0, x1, x2, x3, x4, x5, x6, x7, x8, x9, x10, x11, x12, x13, x14, x15, x16, x17] (.int 0 :: st) h := (mw_at mj_160_174).trans (z_iconst (by decide))
theorem mj_160_175 : mc_P 160 175 = some (.istore 15, 2, 0, 0, 0) := by decide +kernel
theorem s_160_175 {x0 x1 x2 x3 x4 x5 x6 x7 x8 x9 x10 x11 x12 x13 x14 x15 x16 x17 : Option Value} {w : Int32} : mw d 160 Q 175 [x0, x1, x2, x3, x4, x5, x6, x7, x8, x9, x10, x11, x12, x13, x14, x15, x16, x17] (.int w :: st) h = mw d 160 Q 177 [x0, x1, x2, x3, x4, x5, x6, x7, x8, x9, x10, x11, x12, x13, mk2 x14, some (.int w), x16, x17] (st) h := (mw_at mj_160_175).trans (z_istore (Nat.le_of_ble_eq_true rfl) (me_s1_mk (j := 14) (w := x14) rfl))
theorem mj_160_177 : mc_P 160 177 = some (.iload 15, 2, 0, 0, 0) := by decide +kernel
theorem s_160_177 {x0 x1 x2 x3 x4 x5 x6 x7 x8 x9 x10 x11 x12 x13 x14 x16 x17 : Option Value} {w : Value} : mw d 160 Q 177 [x0, x1, x2, x3, x4, x5, x6, x7, x8, x9, x10, x11, x12, x13, x14, some w, x16, x17] (st) h = mv_i w (mw d 160 Q 179 [x0, x1, x2, x3, x4, x5, x6, x7, x8, x9, x10, x11, x12, x13, x14, some w, x16, x17] (w :: st) h) := (mw_at mj_160_177).trans (z_iload rfl)
theorem mj_160_179 : mc_P 160 179 = some (.iload 9, 2, 0, 0, 0) := by decide +kernel
theorem s_160_179 {x0 x1 x2 x3 x4 x5 x6 x7 x8 x10 x11 x12 x13 x14 x15 x16 x17 : Option Value} {w : Value} : mw d 160 Q 179 [x0, x1, x2, x3, x4, x5, x6, x7, x8, some w, x10, x11, x12, x13, x14, x15, x16, x17] (st) h = mv_i w (mw d 160 Q 181 [x0, x1, x2, x3, x4, x5, x6, x7, x8, some w, x10, x11, x12, x13, x14, x15, x16, x17] (w :: st) h) := (mw_at mj_160_179).trans (z_iload rfl)
theorem mj_160_181 : mc_P 160 181 = some (.iconst 1, 1, 0, 0, 0) := by decide +kernel
theorem s_160_181 {x0 x1 x2 x3 x4 x5 x6 x7 x8 x9 x10 x11 x12 x13 x14 x15 x16 x17 : Option Value} : mw d 160 Q 181 [x0, x1, x2, x3, x4, x5, x6, x7, x8, x9, x10, x11, x12, x13, x14, x15, x16, x17] (st) h = mw d 160 Q 182 [x0, x1, x2, x3, x4, x5, x6, x7, x8, x9, x10, x11, x12, x13, x14, x15, x16, x17] (.int 1 :: st) h := (mw_at mj_160_181).trans (z_iconst (by decide))
theorem mj_160_182 : mc_P 160 182 = some (.ior, 1, 0, 0, 0) := by decide +kernel
theorem s_160_182 {x0 x1 x2 x3 x4 x5 x6 x7 x8 x9 x10 x11 x12 x13 x14 x15 x16 x17 : Option Value} {x w : Int32} : mw d 160 Q 182 [x0, x1, x2, x3, x4, x5, x6, x7, x8, x9, x10, x11, x12, x13, x14, x15, x16, x17] (.int w :: .int x :: st) h = mw d 160 Q 183 [x0, x1, x2, x3, x4, x5, x6, x7, x8, x9, x10, x11, x12, x13, x14, x15, x16, x17] (.int (x ||| w) :: st) h := (mw_at mj_160_182).trans (z_ior)
theorem mj_160_183 : mc_P 160 183 = some (.if_icmp .gt 56, 3, 0, 0, 0) := by decide +kernel
theorem s_160_183 {x0 x1 x2 x3 x4 x5 x6 x7 x8 x9 x10 x11 x12 x13 x14 x15 x16 x17 : Option Value} {x w : Int32} : mw d 160 Q 183 [x0, x1, x2, x3, x4, x5, x6, x7, x8, x9, x10, x11, x12, x13, x14, x15, x16, x17] (.int w :: .int x :: st) h = mB (w < x) (mw d 160 Q) 239 186 [x0, x1, x2, x3, x4, x5, x6, x7, x8, x9, x10, x11, x12, x13, x14, x15, x16, x17] st h := (mw_at mj_160_183).trans (z_icmp_gt (by decide) rfl)
theorem mj_160_186 : mc_P 160 186 = some (.lload 10, 2, 0, 0, 0) := by decide +kernel
theorem s_160_186 {x0 x1 x2 x3 x4 x5 x6 x7 x8 x9 x11 x12 x13 x14 x15 x16 x17 : Option Value} {w : Value} : mw d 160 Q 186 [x0, x1, x2, x3, x4, x5, x6, x7, x8, x9, some w, x11, x12, x13, x14, x15, x16, x17] (st) h = mv_l w (mw d 160 Q 188 [x0, x1, x2, x3, x4, x5, x6, x7, x8, x9, some w, x11, x12, x13, x14, x15, x16, x17] (w :: st) h) := (mw_at mj_160_186).trans (z_lload rfl)
theorem mj_160_188 : mc_P 160 188 = some (.aload_n 2, 1, 0, 0, 0) := by decide +kernel
theorem s_160_188 {x0 x1 x3 x4 x5 x6 x7 x8 x9 x10 x11 x12 x13 x14 x15 x16 x17 : Option Value} {w : Value} : mw d 160 Q 188 [x0, x1, some w, x3, x4, x5, x6, x7, x8, x9, x10, x11, x12, x13, x14, x15, x16, x17] (st) h = mv_a w (mw d 160 Q 189 [x0, x1, some w, x3, x4, x5, x6, x7, x8, x9, x10, x11, x12, x13, x14, x15, x16, x17] (w :: st) h) := (mw_at mj_160_188).trans (z_aload_n rfl)
theorem mj_160_189 : mc_P 160 189 = some (.iload 15, 2, 0, 0, 0) := by decide +kernel
theorem s_160_189 {x0 x1 x2 x3 x4 x5 x6 x7 x8 x9 x10 x11 x12 x13 x14 x16 x17 : Option Value} {w : Value} : mw d 160 Q 189 [x0, x1, x2, x3, x4, x5, x6, x7, x8, x9, x10, x11, x12, x13, x14, some w, x16, x17] (st) h = mv_i w (mw d 160 Q 191 [x0, x1, x2, x3, x4, x5, x6, x7, x8, x9, x10, x11, x12, x13, x14, some w, x16, x17] (w :: st) h) := (mw_at mj_160_189).trans (z_iload rfl)
theorem mj_160_191 : mc_P 160 191 = some (.laload, 1, 0, 0, 0) := by decide +kernel
theorem s_160_191 {x0 x1 x2 x3 x4 x5 x6 x7 x8 x9 x10 x11 x12 x13 x14 x15 x16 x17 : Option Value} {o : Nat} {i : Int32} : mw d 160 Q 191 [x0, x1, x2, x3, x4, x5, x6, x7, x8, x9, x10, x11, x12, x13, x14, x15, x16, x17] (.int i :: .ref o :: st) h = (mg h o 101 ∧ mx i (mh_l h o) ∧ mw d 160 Q 192 [x0, x1, x2, x3, x4, x5, x6, x7, x8, x9, x10, x11, x12, x13, x14, x15, x16, x17] (.long (mh_j h o i.toNatClampNeg) :: st) h) := (mw_at mj_160_191).trans (z_lald)
theorem mj_160_192 : mc_P 160 192 = some (.ladd, 1, 0, 0, 0) := by decide +kernel
theorem s_160_192 {x0 x1 x2 x3 x4 x5 x6 x7 x8 x9 x10 x11 x12 x13 x14 x15 x16 x17 : Option Value} {x w : Int64} : mw d 160 Q 192 [x0, x1, x2, x3, x4, x5, x6, x7, x8, x9, x10, x11, x12, x13, x14, x15, x16, x17] (.long w :: .long x :: st) h = mw d 160 Q 193 [x0, x1, x2, x3, x4, x5, x6, x7, x8, x9, x10, x11, x12, x13, x14, x15, x16, x17] (.long (x + w) :: st) h := (mw_at mj_160_192).trans (z_ladd)
theorem mj_160_193 : mc_P 160 193 = some (.lload 12, 2, 0, 0, 0) := by decide +kernel
theorem s_160_193 {x0 x1 x2 x3 x4 x5 x6 x7 x8 x9 x10 x11 x13 x14 x15 x16 x17 : Option Value} {w : Value} : mw d 160 Q 193 [x0, x1, x2, x3, x4, x5, x6, x7, x8, x9, x10, x11, some w, x13, x14, x15, x16, x17] (st) h = mv_l w (mw d 160 Q 195 [x0, x1, x2, x3, x4, x5, x6, x7, x8, x9, x10, x11, some w, x13, x14, x15, x16, x17] (w :: st) h) := (mw_at mj_160_193).trans (z_lload rfl)
theorem mj_160_195 : mc_P 160 195 = some (.aload_n 2, 1, 0, 0, 0) := by decide +kernel
theorem s_160_195 {x0 x1 x3 x4 x5 x6 x7 x8 x9 x10 x11 x12 x13 x14 x15 x16 x17 : Option Value} {w : Value} : mw d 160 Q 195 [x0, x1, some w, x3, x4, x5, x6, x7, x8, x9, x10, x11, x12, x13, x14, x15, x16, x17] (st) h = mv_a w (mw d 160 Q 196 [x0, x1, some w, x3, x4, x5, x6, x7, x8, x9, x10, x11, x12, x13, x14, x15, x16, x17] (w :: st) h) := (mw_at mj_160_195).trans (z_aload_n rfl)
theorem mj_160_196 : mc_P 160 196 = some (.iload 4, 2, 0, 0, 0) := by decide +kernel
theorem s_160_196 {x0 x1 x2 x3 x5 x6 x7 x8 x9 x10 x11 x12 x13 x14 x15 x16 x17 : Option Value} {w : Value} : mw d 160 Q 196 [x0, x1, x2, x3, some w, x5, x6, x7, x8, x9, x10, x11, x12, x13, x14, x15, x16, x17] (st) h = mv_i w (mw d 160 Q 198 [x0, x1, x2, x3, some w, x5, x6, x7, x8, x9, x10, x11, x12, x13, x14, x15, x16, x17] (w :: st) h) := (mw_at mj_160_196).trans (z_iload rfl)
theorem mj_160_198 : mc_P 160 198 = some (.iload 15, 2, 0, 0, 0) := by decide +kernel
theorem s_160_198 {x0 x1 x2 x3 x4 x5 x6 x7 x8 x9 x10 x11 x12 x13 x14 x16 x17 : Option Value} {w : Value} : mw d 160 Q 198 [x0, x1, x2, x3, x4, x5, x6, x7, x8, x9, x10, x11, x12, x13, x14, some w, x16, x17] (st) h = mv_i w (mw d 160 Q 200 [x0, x1, x2, x3, x4, x5, x6, x7, x8, x9, x10, x11, x12, x13, x14, some w, x16, x17] (w :: st) h) := (mw_at mj_160_198).trans (z_iload rfl)
theorem mj_160_200 : mc_P 160 200 = some (.iadd, 1, 0, 0, 0) := by decide +kernel
theorem s_160_200 {x0 x1 x2 x3 x4 x5 x6 x7 x8 x9 x10 x11 x12 x13 x14 x15 x16 x17 : Option Value} {x w : Int32} : mw d 160 Q 200 [x0, x1, x2, x3, x4, x5, x6, x7, x8, x9, x10, x11, x12, x13, x14, x15, x16, x17] (.int w :: .int x :: st) h = mw d 160 Q 201 [x0, x1, x2, x3, x4, x5, x6, x7, x8, x9, x10, x11, x12, x13, x14, x15, x16, x17] (.int (x + w) :: st) h := (mw_at mj_160_200).trans (z_iadd)
theorem mj_160_201 : mc_P 160 201 = some (.laload, 1, 0, 0, 0) := by decide +kernel
theorem s_160_201 {x0 x1 x2 x3 x4 x5 x6 x7 x8 x9 x10 x11 x12 x13 x14 x15 x16 x17 : Option Value} {o : Nat} {i : Int32} : mw d 160 Q 201 [x0, x1, x2, x3, x4, x5, x6, x7, x8, x9, x10, x11, x12, x13, x14, x15, x16, x17] (.int i :: .ref o :: st) h = (mg h o 101 ∧ mx i (mh_l h o) ∧ mw d 160 Q 202 [x0, x1, x2, x3, x4, x5, x6, x7, x8, x9, x10, x11, x12, x13, x14, x15, x16, x17] (.long (mh_j h o i.toNatClampNeg) :: st) h) := (mw_at mj_160_201).trans (z_lald)
theorem mj_160_202 : mc_P 160 202 = some (.ladd, 1, 0, 0, 0) := by decide +kernel
theorem s_160_202 {x0 x1 x2 x3 x4 x5 x6 x7 x8 x9 x10 x11 x12 x13 x14 x15 x16 x17 : Option Value} {x w : Int64} : mw d 160 Q 202 [x0, x1, x2, x3, x4, x5, x6, x7, x8, x9, x10, x11, x12, x13, x14, x15, x16, x17] (.long w :: .long x :: st) h = mw d 160 Q 203 [x0, x1, x2, x3, x4, x5, x6, x7, x8, x9, x10, x11, x12, x13, x14, x15, x16, x17] (.long (x + w) :: st) h := (mw_at mj_160_202).trans (z_ladd)
theorem mj_160_203 : mc_P 160 203 = some (.invokestatic 70, 3, 0, 22, 0) := by decide +kernel
theorem s_160_203 {x0 x1 x2 x3 x4 x5 x6 x7 x8 x9 x10 x11 x12 x13 x14 x15 x16 x17 : Option Value} {x w : Int64} : mw d 160 Q 203 [x0, x1, x2, x3, x4, x5, x6, x7, x8, x9, x10, x11, x12, x13, x14, x15, x16, x17] (.long w :: .long x :: st) h = (mca st 8 ∧ mw d 160 Q 206 [x0, x1, x2, x3, x4, x5, x6, x7, x8, x9, x10, x11, x12, x13, x14, x15, x16, x17] (.long (if w < x then w else x) :: st) h) := (mw_at mj_160_203).trans (z_lmin)
theorem mj_160_206 : mc_P 160 206 = some (.lstore 16, 2, 0, 0, 0) := by decide +kernel
theorem s_160_206 {x0 x1 x2 x3 x4 x5 x6 x7 x8 x9 x10 x11 x12 x13 x14 x15 x16 x17 : Option Value} {w : Int64} : mw d 160 Q 206 [x0, x1, x2, x3, x4, x5, x6, x7, x8, x9, x10, x11, x12, x13, x14, x15, x16, x17] (.long w :: st) h = mw d 160 Q 208 [x0, x1, x2, x3, x4, x5, x6, x7, x8, x9, x10, x11, x12, x13, x14, mk2 x15, some (.long w), none] (st) h := (mw_at mj_160_206).trans (z_lstore (Nat.le_of_ble_eq_true rfl) (me_s2_mk (j := 15) (w := x15) rfl))
theorem mj_160_208 : mc_P 160 208 = some (.aload_n 0, 1, 0, 0, 0) := by decide +kernel
theorem s_160_208 {x1 x2 x3 x4 x5 x6 x7 x8 x9 x10 x11 x12 x13 x14 x15 x16 x17 : Option Value} {w : Value} : mw d 160 Q 208 [some w, x1, x2, x3, x4, x5, x6, x7, x8, x9, x10, x11, x12, x13, x14, x15, x16, x17] (st) h = mv_a w (mw d 160 Q 209 [some w, x1, x2, x3, x4, x5, x6, x7, x8, x9, x10, x11, x12, x13, x14, x15, x16, x17] (w :: st) h) := (mw_at mj_160_208).trans (z_aload_n rfl)
theorem mj_160_209 : mc_P 160 209 = some (.getfield 11, 3, 8, 3, 0) := by decide +kernel
theorem s_160_209 {x0 x1 x2 x3 x4 x5 x6 x7 x8 x9 x10 x11 x12 x13 x14 x15 x16 x17 : Option Value} {o : Nat} : mw d 160 Q 209 [x0, x1, x2, x3, x4, x5, x6, x7, x8, x9, x10, x11, x12, x13, x14, x15, x16, x17] (.ref o :: st) h = (mg h o 8 ∧ mw d 160 Q 212 [x0, x1, x2, x3, x4, x5, x6, x7, x8, x9, x10, x11, x12, x13, x14, x15, x16, x17] (va_rf (mh_r h o 3) :: st) h) := (mw_at mj_160_209).trans (z_getr (by decide) (by decide) rfl)
theorem mj_160_212 : mc_P 160 212 = some (.iload 14, 2, 0, 0, 0) := by decide +kernel
theorem s_160_212 {x0 x1 x2 x3 x4 x5 x6 x7 x8 x9 x10 x11 x12 x13 x15 x16 x17 : Option Value} {w : Value} : mw d 160 Q 212 [x0, x1, x2, x3, x4, x5, x6, x7, x8, x9, x10, x11, x12, x13, some w, x15, x16, x17] (st) h = mv_i w (mw d 160 Q 214 [x0, x1, x2, x3, x4, x5, x6, x7, x8, x9, x10, x11, x12, x13, some w, x15, x16, x17] (w :: st) h) := (mw_at mj_160_212).trans (z_iload rfl)
theorem mj_160_214 : mc_P 160 214 = some (.iload 15, 2, 0, 0, 0) := by decide +kernel
theorem s_160_214 {x0 x1 x2 x3 x4 x5 x6 x7 x8 x9 x10 x11 x12 x13 x14 x16 x17 : Option Value} {w : Value} : mw d 160 Q 214 [x0, x1, x2, x3, x4, x5, x6, x7, x8, x9, x10, x11, x12, x13, x14, some w, x16, x17] (st) h = mv_i w (mw d 160 Q 216 [x0, x1, x2, x3, x4, x5, x6, x7, x8, x9, x10, x11, x12, x13, x14, some w, x16, x17] (w :: st) h) := (mw_at mj_160_214).trans (z_iload rfl)
theorem mj_160_216 : mc_P 160 216 = some (.iadd, 1, 0, 0, 0) := by decide +kernel
theorem s_160_216 {x0 x1 x2 x3 x4 x5 x6 x7 x8 x9 x10 x11 x12 x13 x14 x15 x16 x17 : Option Value} {x w : Int32} : mw d 160 Q 216 [x0, x1, x2, x3, x4, x5, x6, x7, x8, x9, x10, x11, x12, x13, x14, x15, x16, x17] (.int w :: .int x :: st) h = mw d 160 Q 217 [x0, x1, x2, x3, x4, x5, x6, x7, x8, x9, x10, x11, x12, x13, x14, x15, x16, x17] (.int (x + w) :: st) h := (mw_at mj_160_216).trans (z_iadd)
theorem mj_160_217 : mc_P 160 217 = some (.aload_n 0, 1, 0, 0, 0) := by decide +kernel
theorem s_160_217 {x1 x2 x3 x4 x5 x6 x7 x8 x9 x10 x11 x12 x13 x14 x15 x16 x17 : Option Value} {w : Value} : mw d 160 Q 217 [some w, x1, x2, x3, x4, x5, x6, x7, x8, x9, x10, x11, x12, x13, x14, x15, x16, x17] (st) h = mv_a w (mw d 160 Q 218 [some w, x1, x2, x3, x4, x5, x6, x7, x8, x9, x10, x11, x12, x13, x14, x15, x16, x17] (w :: st) h) := (mw_at mj_160_217).trans (z_aload_n rfl)
theorem mj_160_218 : mc_P 160 218 = some (.getfield 11, 3, 8, 3, 0) := by decide +kernel
theorem s_160_218 {x0 x1 x2 x3 x4 x5 x6 x7 x8 x9 x10 x11 x12 x13 x14 x15 x16 x17 : Option Value} {o : Nat} : mw d 160 Q 218 [x0, x1, x2, x3, x4, x5, x6, x7, x8, x9, x10, x11, x12, x13, x14, x15, x16, x17] (.ref o :: st) h = (mg h o 8 ∧ mw d 160 Q 221 [x0, x1, x2, x3, x4, x5, x6, x7, x8, x9, x10, x11, x12, x13, x14, x15, x16, x17] (va_rf (mh_r h o 3) :: st) h) := (mw_at mj_160_218).trans (z_getr (by decide) (by decide) rfl)
theorem mj_160_221 : mc_P 160 221 = some (.iload 14, 2, 0, 0, 0) := by decide +kernel
theorem s_160_221 {x0 x1 x2 x3 x4 x5 x6 x7 x8 x9 x10 x11 x12 x13 x15 x16 x17 : Option Value} {w : Value} : mw d 160 Q 221 [x0, x1, x2, x3, x4, x5, x6, x7, x8, x9, x10, x11, x12, x13, some w, x15, x16, x17] (st) h = mv_i w (mw d 160 Q 223 [x0, x1, x2, x3, x4, x5, x6, x7, x8, x9, x10, x11, x12, x13, some w, x15, x16, x17] (w :: st) h) := (mw_at mj_160_221).trans (z_iload rfl)
theorem mj_160_223 : mc_P 160 223 = some (.iload 15, 2, 0, 0, 0) := by decide +kernel
theorem s_160_223 {x0 x1 x2 x3 x4 x5 x6 x7 x8 x9 x10 x11 x12 x13 x14 x16 x17 : Option Value} {w : Value} : mw d 160 Q 223 [x0, x1, x2, x3, x4, x5, x6, x7, x8, x9, x10, x11, x12, x13, x14, some w, x16, x17] (st) h = mv_i w (mw d 160 Q 225 [x0, x1, x2, x3, x4, x5, x6, x7, x8, x9, x10, x11, x12, x13, x14, some w, x16, x17] (w :: st) h) := (mw_at mj_160_223).trans (z_iload rfl)
theorem mj_160_225 : mc_P 160 225 = some (.iadd, 1, 0, 0, 0) := by decide +kernel
theorem s_160_225 {x0 x1 x2 x3 x4 x5 x6 x7 x8 x9 x10 x11 x12 x13 x14 x15 x16 x17 : Option Value} {x w : Int32} : mw d 160 Q 225 [x0, x1, x2, x3, x4, x5, x6, x7, x8, x9, x10, x11, x12, x13, x14, x15, x16, x17] (.int w :: .int x :: st) h = mw d 160 Q 226 [x0, x1, x2, x3, x4, x5, x6, x7, x8, x9, x10, x11, x12, x13, x14, x15, x16, x17] (.int (x + w) :: st) h := (mw_at mj_160_225).trans (z_iadd)
theorem mj_160_226 : mc_P 160 226 = some (.laload, 1, 0, 0, 0) := by decide +kernel
theorem s_160_226 {x0 x1 x2 x3 x4 x5 x6 x7 x8 x9 x10 x11 x12 x13 x14 x15 x16 x17 : Option Value} {o : Nat} {i : Int32} : mw d 160 Q 226 [x0, x1, x2, x3, x4, x5, x6, x7, x8, x9, x10, x11, x12, x13, x14, x15, x16, x17] (.int i :: .ref o :: st) h = (mg h o 101 ∧ mx i (mh_l h o) ∧ mw d 160 Q 227 [x0, x1, x2, x3, x4, x5, x6, x7, x8, x9, x10, x11, x12, x13, x14, x15, x16, x17] (.long (mh_j h o i.toNatClampNeg) :: st) h) := (mw_at mj_160_226).trans (z_lald)
theorem mj_160_227 : mc_P 160 227 = some (.lload 16, 2, 0, 0, 0) := by decide +kernel
theorem s_160_227 {x0 x1 x2 x3 x4 x5 x6 x7 x8 x9 x10 x11 x12 x13 x14 x15 x17 : Option Value} {w : Value} : mw d 160 Q 227 [x0, x1, x2, x3, x4, x5, x6, x7, x8, x9, x10, x11, x12, x13, x14, x15, some w, x17] (st) h = mv_l w (mw d 160 Q 229 [x0, x1, x2, x3, x4, x5, x6, x7, x8, x9, x10, x11, x12, x13, x14, x15, some w, x17] (w :: st) h) := (mw_at mj_160_227).trans (z_lload rfl)
theorem mj_160_229 : mc_P 160 229 = some (.invokestatic 70, 3, 0, 22, 0) := by decide +kernel
theorem s_160_229 {x0 x1 x2 x3 x4 x5 x6 x7 x8 x9 x10 x11 x12 x13 x14 x15 x16 x17 : Option Value} {x w : Int64} : mw d 160 Q 229 [x0, x1, x2, x3, x4, x5, x6, x7, x8, x9, x10, x11, x12, x13, x14, x15, x16, x17] (.long w :: .long x :: st) h = (mca st 8 ∧ mw d 160 Q 232 [x0, x1, x2, x3, x4, x5, x6, x7, x8, x9, x10, x11, x12, x13, x14, x15, x16, x17] (.long (if w < x then w else x) :: st) h) := (mw_at mj_160_229).trans (z_lmin)
theorem mj_160_232 : mc_P 160 232 = some (.lastore, 1, 0, 0, 0) := by decide +kernel
theorem s_160_232 {x0 x1 x2 x3 x4 x5 x6 x7 x8 x9 x10 x11 x12 x13 x14 x15 x16 x17 : Option Value} {o : Nat} {i : Int32} {w : Int64} : mw d 160 Q 232 [x0, x1, x2, x3, x4, x5, x6, x7, x8, x9, x10, x11, x12, x13, x14, x15, x16, x17] (.long w :: .int i :: .ref o :: st) h = (mg h o 101 ∧ mx i (mh_l h o) ∧ mw d 160 Q 233 [x0, x1, x2, x3, x4, x5, x6, x7, x8, x9, x10, x11, x12, x13, x14, x15, x16, x17] (st) (mh_sj h o i.toNatClampNeg w)) := (mw_at mj_160_232).trans (z_last)
theorem mj_160_233 : mc_P 160 233 = some (.iinc 15 1, 3, 0, 0, 0) := by decide +kernel
theorem s_160_233 {x0 x1 x2 x3 x4 x5 x6 x7 x8 x9 x10 x11 x12 x13 x14 x16 x17 : Option Value} {w : Int32} : mw d 160 Q 233 [x0, x1, x2, x3, x4, x5, x6, x7, x8, x9, x10, x11, x12, x13, x14, some (.int w), x16, x17] (st) h = mw d 160 Q 236 [x0, x1, x2, x3, x4, x5, x6, x7, x8, x9, x10, x11, x12, x13, mk2 x14, some (.int (w + 1)), x16, x17] (st) h := (mw_at mj_160_233).trans (z_iinc rfl (Nat.le_of_ble_eq_true rfl) (by decide) (me_s1_mk (j := 14) (w := x14) rfl))
theorem mj_160_236 : mc_P 160 236 = some (.goto (-59), 3, 0, 0, 0) := by decide +kernel
theorem s_160_236 {x0 x1 x2 x3 x4 x5 x6 x7 x8 x9 x10 x11 x12 x13 x14 x15 x16 x17 : Option Value} : mw d 160 Q 236 [x0, x1, x2, x3, x4, x5, x6, x7, x8, x9, x10, x11, x12, x13, x14, x15, x16, x17] (st) h = mw d 160 Q 177 [x0, x1, x2, x3, x4, x5, x6, x7, x8, x9, x10, x11, x12, x13, x14, x15, x16, x17] (st) h := (mw_at mj_160_236).trans (z_goto (by decide))
theorem mj_160_239 : mc_P 160 239 = some (.aload_n 0, 1, 0, 0, 0) := by decide +kernel
theorem s_160_239 {x1 x2 x3 x4 x5 x6 x7 x8 x9 x10 x11 x12 x13 x14 x15 x16 x17 : Option Value} {w : Value} : mw d 160 Q 239 [some w, x1, x2, x3, x4, x5, x6, x7, x8, x9, x10, x11, x12, x13, x14, x15, x16, x17] (st) h = mv_a w (mw d 160 Q 240 [some w, x1, x2, x3, x4, x5, x6, x7, x8, x9, x10, x11, x12, x13, x14, x15, x16, x17] (w :: st) h) := (mw_at mj_160_239).trans (z_aload_n rfl)
theorem mj_160_240 : mc_P 160 240 = some (.getfield 11, 3, 8, 3, 0) := by decide +kernel
theorem s_160_240 {x0 x1 x2 x3 x4 x5 x6 x7 x8 x9 x10 x11 x12 x13 x14 x15 x16 x17 : Option Value} {o : Nat} : mw d 160 Q 240 [x0, x1, x2, x3, x4, x5, x6, x7, x8, x9, x10, x11, x12, x13, x14, x15, x16, x17] (.ref o :: st) h = (mg h o 8 ∧ mw d 160 Q 243 [x0, x1, x2, x3, x4, x5, x6, x7, x8, x9, x10, x11, x12, x13, x14, x15, x16, x17] (va_rf (mh_r h o 3) :: st) h) := (mw_at mj_160_240).trans (z_getr (by decide) (by decide) rfl)
theorem mj_160_243 : mc_P 160 243 = some (.iload 14, 2, 0, 0, 0) := by decide +kernel
theorem s_160_243 {x0 x1 x2 x3 x4 x5 x6 x7 x8 x9 x10 x11 x12 x13 x15 x16 x17 : Option Value} {w : Value} : mw d 160 Q 243 [x0, x1, x2, x3, x4, x5, x6, x7, x8, x9, x10, x11, x12, x13, some w, x15, x16, x17] (st) h = mv_i w (mw d 160 Q 245 [x0, x1, x2, x3, x4, x5, x6, x7, x8, x9, x10, x11, x12, x13, some w, x15, x16, x17] (w :: st) h) := (mw_at mj_160_243).trans (z_iload rfl)
theorem mj_160_245 : mc_P 160 245 = some (.iload 9, 2, 0, 0, 0) := by decide +kernel
theorem s_160_245 {x0 x1 x2 x3 x4 x5 x6 x7 x8 x10 x11 x12 x13 x14 x15 x16 x17 : Option Value} {w : Value} : mw d 160 Q 245 [x0, x1, x2, x3, x4, x5, x6, x7, x8, some w, x10, x11, x12, x13, x14, x15, x16, x17] (st) h = mv_i w (mw d 160 Q 247 [x0, x1, x2, x3, x4, x5, x6, x7, x8, some w, x10, x11, x12, x13, x14, x15, x16, x17] (w :: st) h) := (mw_at mj_160_245).trans (z_iload rfl)
theorem mj_160_247 : mc_P 160 247 = some (.iadd, 1, 0, 0, 0) := by decide +kernel
theorem s_160_247 {x0 x1 x2 x3 x4 x5 x6 x7 x8 x9 x10 x11 x12 x13 x14 x15 x16 x17 : Option Value} {x w : Int32} : mw d 160 Q 247 [x0, x1, x2, x3, x4, x5, x6, x7, x8, x9, x10, x11, x12, x13, x14, x15, x16, x17] (.int w :: .int x :: st) h = mw d 160 Q 248 [x0, x1, x2, x3, x4, x5, x6, x7, x8, x9, x10, x11, x12, x13, x14, x15, x16, x17] (.int (x + w) :: st) h := (mw_at mj_160_247).trans (z_iadd)
theorem mj_160_248 : mc_P 160 248 = some (.laload, 1, 0, 0, 0) := by decide +kernel
theorem s_160_248 {x0 x1 x2 x3 x4 x5 x6 x7 x8 x9 x10 x11 x12 x13 x14 x15 x16 x17 : Option Value} {o : Nat} {i : Int32} : mw d 160 Q 248 [x0, x1, x2, x3, x4, x5, x6, x7, x8, x9, x10, x11, x12, x13, x14, x15, x16, x17] (.int i :: .ref o :: st) h = (mg h o 101 ∧ mx i (mh_l h o) ∧ mw d 160 Q 249 [x0, x1, x2, x3, x4, x5, x6, x7, x8, x9, x10, x11, x12, x13, x14, x15, x16, x17] (.long (mh_j h o i.toNatClampNeg) :: st) h) := (mw_at mj_160_248).trans (z_lald)
theorem mj_160_249 : mc_P 160 249 = some (.lconst 0, 1, 0, 0, 0) := by decide +kernel
theorem s_160_249 {x0 x1 x2 x3 x4 x5 x6 x7 x8 x9 x10 x11 x12 x13 x14 x15 x16 x17 : Option Value} : mw d 160 Q 249 [x0, x1, x2, x3, x4, x5, x6, x7, x8, x9, x10, x11, x12, x13, x14, x15, x16, x17] (st) h = mw d 160 Q 250 [x0, x1, x2, x3, x4, x5, x6, x7, x8, x9, x10, x11, x12, x13, x14, x15, x16, x17] (.long 0 :: st) h := (mw_at mj_160_249).trans (z_lconst (by decide))
theorem mj_160_250 : mc_P 160 250 = some (.lcmp, 1, 0, 0, 0) := by decide +kernel
theorem s_160_250 {x0 x1 x2 x3 x4 x5 x6 x7 x8 x9 x10 x11 x12 x13 x14 x15 x16 x17 : Option Value} {x w : Int64} : mw d 160 Q 250 [x0, x1, x2, x3, x4, x5, x6, x7, x8, x9, x10, x11, x12, x13, x14, x15, x16, x17] (.long w :: .long x :: st) h = mw d 160 Q 251 [x0, x1, x2, x3, x4, x5, x6, x7, x8, x9, x10, x11, x12, x13, x14, x15, x16, x17] (.int (lg_cmp x w) :: st) h := (mw_at mj_160_250).trans (z_lcmp)
theorem mj_160_251 : mc_P 160 251 = some (.ifCond .ge 8, 3, 0, 0, 0) := by decide +kernel
theorem s_160_251 {x0 x1 x2 x3 x4 x5 x6 x7 x8 x9 x10 x11 x12 x13 x14 x15 x16 x17 : Option Value} {x : Int32} : mw d 160 Q 251 [x0, x1, x2, x3, x4, x5, x6, x7, x8, x9, x10, x11, x12, x13, x14, x15, x16, x17] (.int x :: st) h = mB (0 ≤ x) (mw d 160 Q) 259 254 [x0, x1, x2, x3, x4, x5, x6, x7, x8, x9, x10, x11, x12, x13, x14, x15, x16, x17] st h := (mw_at mj_160_251).trans (z_if_ge (by decide) rfl)
theorem mj_160_254 : mc_P 160 254 = some (.aload_n 0, 1, 0, 0, 0) := by decide +kernel
theorem s_160_254 {x1 x2 x3 x4 x5 x6 x7 x8 x9 x10 x11 x12 x13 x14 x15 x16 x17 : Option Value} {w : Value} : mw d 160 Q 254 [some w, x1, x2, x3, x4, x5, x6, x7, x8, x9, x10, x11, x12, x13, x14, x15, x16, x17] (st) h = mv_a w (mw d 160 Q 255 [some w, x1, x2, x3, x4, x5, x6, x7, x8, x9, x10, x11, x12, x13, x14, x15, x16, x17] (w :: st) h) := (mw_at mj_160_254).trans (z_aload_n rfl)
theorem mj_160_255 : mc_P 160 255 = some (.iconst 1, 1, 0, 0, 0) := by decide +kernel
theorem s_160_255 {x0 x1 x2 x3 x4 x5 x6 x7 x8 x9 x10 x11 x12 x13 x14 x15 x16 x17 : Option Value} : mw d 160 Q 255 [x0, x1, x2, x3, x4, x5, x6, x7, x8, x9, x10, x11, x12, x13, x14, x15, x16, x17] (st) h = mw d 160 Q 256 [x0, x1, x2, x3, x4, x5, x6, x7, x8, x9, x10, x11, x12, x13, x14, x15, x16, x17] (.int 1 :: st) h := (mw_at mj_160_255).trans (z_iconst (by decide))
theorem mj_160_256 : mc_P 160 256 = some (.putfield 30, 3, 8, 0, 0) := by decide +kernel
theorem s_160_256 {x0 x1 x2 x3 x4 x5 x6 x7 x8 x9 x10 x11 x12 x13 x14 x15 x16 x17 : Option Value} {o : Nat} {w : Int32} : mw d 160 Q 256 [x0, x1, x2, x3, x4, x5, x6, x7, x8, x9, x10, x11, x12, x13, x14, x15, x16, x17] (.int w :: .ref o :: st) h = (mg h o 8 ∧ (w = 0 ∨ w = 1) ∧ mw d 160 Q 259 [x0, x1, x2, x3, x4, x5, x6, x7, x8, x9, x10, x11, x12, x13, x14, x15, x16, x17] (st) (mh_si h o 0 w)) := (mw_at mj_160_256).trans (z_putz (by decide) (by decide) rfl)
theorem mj_160_259 : mc_P 160 259 = some (.iinc 9 1, 3, 0, 0, 0) := by decide +kernel
theorem s_160_259 {x0 x1 x2 x3 x4 x5 x6 x7 x8 x10 x11 x12 x13 x14 x15 x16 x17 : Option Value} {w : Int32} : mw d 160 Q 259 [x0, x1, x2, x3, x4, x5, x6, x7, x8, some (.int w), x10, x11, x12, x13, x14, x15, x16, x17] (st) h = mw d 160 Q 262 [x0, x1, x2, x3, x4, x5, x6, x7, mk2 x8, some (.int (w + 1)), x10, x11, x12, x13, x14, x15, x16, x17] (st) h := (mw_at mj_160_259).trans (z_iinc rfl (Nat.le_of_ble_eq_true rfl) (by decide) (me_s1_mk (j := 8) (w := x8) rfl))
theorem mj_160_262 : mc_P 160 262 = some (.goto (-126), 3, 0, 0, 0) := by decide +kernel
theorem s_160_262 {x0 x1 x2 x3 x4 x5 x6 x7 x8 x9 x10 x11 x12 x13 x14 x15 x16 x17 : Option Value} : mw d 160 Q 262 [x0, x1, x2, x3, x4, x5, x6, x7, x8, x9, x10, x11, x12, x13, x14, x15, x16, x17] (st) h = mw d 160 Q 136 [x0, x1, x2, x3, x4, x5, x6, x7, x8, x9, x10, x11, x12, x13, x14, x15, x16, x17] (st) h := (mw_at mj_160_262).trans (z_goto (by decide))
theorem mj_160_265 : mc_P 160 265 = some (.return_, 1, 0, 0, 0) := by decide +kernel
theorem s_160_265 {x0 x1 x2 x3 x4 x5 x6 x7 x8 x9 x10 x11 x12 x13 x14 x15 x16 x17 : Option Value} : mw d 160 Q 265 [x0, x1, x2, x3, x4, x5, x6, x7, x8, x9, x10, x11, x12, x13, x14, x15, x16, x17] ([]) h = Q none h := (mw_at mj_160_265).trans (z_vret)
theorem e_160 {a0 : Nat} {a1 : Int32} {a2 : Nat} : mcall d 160 [.ref a0, .int a1, .ref a2] h Q = mw d 160 Q 0 [some (.ref a0), some (.int a1), some (.ref a2), none, none, none, none, none, none, none, none, none, none, none, none, none, none, none] [] h := by
  show mw d 160 Q 0 (me_en (mc_nl 160) _) [] h = _
  rw [nl_160]; rfl

/-! InvariantDesk$State.roundDown()V -/
theorem mj_161_0 : mc_P 161 0 = some (.iconst 0, 1, 0, 0, 0) := by decide +kernel
theorem s_161_0 {x0 x1 : Option Value} : mw d 161 Q 0 [x0, x1] (st) h = mw d 161 Q 1 [x0, x1] (.int 0 :: st) h := (mw_at mj_161_0).trans (z_iconst (by decide))
theorem mj_161_1 : mc_P 161 1 = some (.istore_n 1, 1, 0, 0, 0) := by decide +kernel
theorem s_161_1 {x0 x1 : Option Value} {w : Int32} : mw d 161 Q 1 [x0, x1] (.int w :: st) h = mw d 161 Q 2 [mk2 x0, some (.int w)] (st) h := (mw_at mj_161_1).trans (z_istore_n (Nat.le_of_ble_eq_true rfl) (me_s1_mk (j := 0) (w := x0) rfl))
theorem mj_161_2 : mc_P 161 2 = some (.iload_n 1, 1, 0, 0, 0) := by decide +kernel
theorem s_161_2 {x0 : Option Value} {w : Value} : mw d 161 Q 2 [x0, some w] (st) h = mv_i w (mw d 161 Q 3 [x0, some w] (w :: st) h) := (mw_at mj_161_2).trans (z_iload_n rfl)
theorem mj_161_3 : mc_P 161 3 = some (.iconst 2, 1, 0, 0, 0) := by decide +kernel
theorem s_161_3 {x0 x1 : Option Value} : mw d 161 Q 3 [x0, x1] (st) h = mw d 161 Q 4 [x0, x1] (.int 2 :: st) h := (mw_at mj_161_3).trans (z_iconst (by decide))
theorem mj_161_4 : mc_P 161 4 = some (.aload_n 0, 1, 0, 0, 0) := by decide +kernel
theorem s_161_4 {x1 : Option Value} {w : Value} : mw d 161 Q 4 [some w, x1] (st) h = mv_a w (mw d 161 Q 5 [some w, x1] (w :: st) h) := (mw_at mj_161_4).trans (z_aload_n rfl)
theorem mj_161_5 : mc_P 161 5 = some (.getfield 26, 3, 8, 1, 0) := by decide +kernel
theorem s_161_5 {x0 x1 : Option Value} {o : Nat} : mw d 161 Q 5 [x0, x1] (.ref o :: st) h = (mg h o 8 ∧ mw d 161 Q 8 [x0, x1] (.int (mh_i h o 1) :: st) h) := (mw_at mj_161_5).trans (z_geti (by decide) (by decide) (Or.inl rfl))
theorem mj_161_8 : mc_P 161 8 = some (.imul, 1, 0, 0, 0) := by decide +kernel
theorem s_161_8 {x0 x1 : Option Value} {x w : Int32} : mw d 161 Q 8 [x0, x1] (.int w :: .int x :: st) h = mw d 161 Q 9 [x0, x1] (.int (x * w) :: st) h := (mw_at mj_161_8).trans (z_imul)
theorem mj_161_9 : mc_P 161 9 = some (.if_icmp .ge 27, 3, 0, 0, 0) := by decide +kernel
theorem s_161_9 {x0 x1 : Option Value} {x w : Int32} : mw d 161 Q 9 [x0, x1] (.int w :: .int x :: st) h = mB (w ≤ x) (mw d 161 Q) 36 12 [x0, x1] st h := (mw_at mj_161_9).trans (z_icmp_ge (by decide) rfl)
theorem mj_161_12 : mc_P 161 12 = some (.aload_n 0, 1, 0, 0, 0) := by decide +kernel
theorem s_161_12 {x1 : Option Value} {w : Value} : mw d 161 Q 12 [some w, x1] (st) h = mv_a w (mw d 161 Q 13 [some w, x1] (w :: st) h) := (mw_at mj_161_12).trans (z_aload_n rfl)
theorem mj_161_13 : mc_P 161 13 = some (.getfield 11, 3, 8, 3, 0) := by decide +kernel
theorem s_161_13 {x0 x1 : Option Value} {o : Nat} : mw d 161 Q 13 [x0, x1] (.ref o :: st) h = (mg h o 8 ∧ mw d 161 Q 16 [x0, x1] (va_rf (mh_r h o 3) :: st) h) := (mw_at mj_161_13).trans (z_getr (by decide) (by decide) rfl)
theorem mj_161_16 : mc_P 161 16 = some (.iload_n 1, 1, 0, 0, 0) := by decide +kernel
theorem s_161_16 {x0 : Option Value} {w : Value} : mw d 161 Q 16 [x0, some w] (st) h = mv_i w (mw d 161 Q 17 [x0, some w] (w :: st) h) := (mw_at mj_161_16).trans (z_iload_n rfl)
theorem mj_161_17 : mc_P 161 17 = some (.iload_n 1, 1, 0, 0, 0) := by decide +kernel
theorem s_161_17 {x0 : Option Value} {w : Value} : mw d 161 Q 17 [x0, some w] (st) h = mv_i w (mw d 161 Q 18 [x0, some w] (w :: st) h) := (mw_at mj_161_17).trans (z_iload_n rfl)
theorem mj_161_18 : mc_P 161 18 = some (.iconst 1, 1, 0, 0, 0) := by decide +kernel
theorem s_161_18 {x0 x1 : Option Value} : mw d 161 Q 18 [x0, x1] (st) h = mw d 161 Q 19 [x0, x1] (.int 1 :: st) h := (mw_at mj_161_18).trans (z_iconst (by decide))
theorem mj_161_19 : mc_P 161 19 = some (.ixor, 1, 0, 0, 0) := by decide +kernel
theorem s_161_19 {x0 x1 : Option Value} {x w : Int32} : mw d 161 Q 19 [x0, x1] (.int w :: .int x :: st) h = mw d 161 Q 20 [x0, x1] (.int (x ^^^ w) :: st) h := (mw_at mj_161_19).trans (z_ixor)
theorem mj_161_20 : mc_P 161 20 = some (.invokestatic 52, 3, 140, 0, 2) := by decide +kernel
theorem s_161_20 {x0 x1 : Option Value} {a0 a1 : Value} : mw (d + 1) 161 Q 20 [x0, x1] (a1 :: a0 :: st) h = (mca st 8 ∧ mca [a0, a1] 2 ∧ mcall d 140 [a0, a1] h (mK (d + 1) 161 Q 23 [x0, x1] st)) := (mw_at mj_161_20).trans ((z_invs (As := [a0, a1]) rfl rfl).trans (congrArg (And _) (mC_nl nl_140)))
theorem mj_161_23 : mc_P 161 23 = some (.dup2, 1, 0, 0, 0) := by decide +kernel
theorem s_161_23 {x0 x1 : Option Value} {x : Int32} {w : Value} : mw d 161 Q 23 [x0, x1] (.int x :: w :: st) h = (w.category = 1 ∧ mw d 161 Q 24 [x0, x1] (.int x :: w :: .int x :: w :: st) h) := (mw_at mj_161_23).trans (z_dup2)
theorem s_161_23l {x0 x1 : Option Value} {x : Int64} {w : Value} : mw d 161 Q 23 [x0, x1] (.long x :: w :: st) h = mw d 161 Q 24 [x0, x1] (.long x :: .long x :: w :: st) h := (mw_at mj_161_23).trans (z_dup2l)
theorem mj_161_24 : mc_P 161 24 = some (.laload, 1, 0, 0, 0) := by decide +kernel
theorem s_161_24 {x0 x1 : Option Value} {o : Nat} {i : Int32} : mw d 161 Q 24 [x0, x1] (.int i :: .ref o :: st) h = (mg h o 101 ∧ mx i (mh_l h o) ∧ mw d 161 Q 25 [x0, x1] (.long (mh_j h o i.toNatClampNeg) :: st) h) := (mw_at mj_161_24).trans (z_lald)
theorem mj_161_25 : mc_P 161 25 = some (.ldc2_w 102, 3, 0, 0, (-2)) := by decide +kernel
theorem s_161_25 {x0 x1 : Option Value} : mw d 161 Q 25 [x0, x1] (st) h = mw d 161 Q 28 [x0, x1] (.long (-2) :: st) h := (mw_at mj_161_25).trans (z_ldc2 (by decide))
theorem mj_161_28 : mc_P 161 28 = some (.land, 1, 0, 0, 0) := by decide +kernel
theorem s_161_28 {x0 x1 : Option Value} {x w : Int64} : mw d 161 Q 28 [x0, x1] (.long w :: .long x :: st) h = mw d 161 Q 29 [x0, x1] (.long (x &&& w) :: st) h := (mw_at mj_161_28).trans (z_land)
theorem mj_161_29 : mc_P 161 29 = some (.lastore, 1, 0, 0, 0) := by decide +kernel
theorem s_161_29 {x0 x1 : Option Value} {o : Nat} {i : Int32} {w : Int64} : mw d 161 Q 29 [x0, x1] (.long w :: .int i :: .ref o :: st) h = (mg h o 101 ∧ mx i (mh_l h o) ∧ mw d 161 Q 30 [x0, x1] (st) (mh_sj h o i.toNatClampNeg w)) := (mw_at mj_161_29).trans (z_last)
theorem mj_161_30 : mc_P 161 30 = some (.iinc 1 1, 3, 0, 0, 0) := by decide +kernel
theorem s_161_30 {x0 : Option Value} {w : Int32} : mw d 161 Q 30 [x0, some (.int w)] (st) h = mw d 161 Q 33 [mk2 x0, some (.int (w + 1))] (st) h := (mw_at mj_161_30).trans (z_iinc rfl (Nat.le_of_ble_eq_true rfl) (by decide) (me_s1_mk (j := 0) (w := x0) rfl))
theorem mj_161_33 : mc_P 161 33 = some (.goto (-31), 3, 0, 0, 0) := by decide +kernel
theorem s_161_33 {x0 x1 : Option Value} : mw d 161 Q 33 [x0, x1] (st) h = mw d 161 Q 2 [x0, x1] (st) h := (mw_at mj_161_33).trans (z_goto (by decide))
theorem mj_161_36 : mc_P 161 36 = some (.iconst 0, 1, 0, 0, 0) := by decide +kernel
theorem s_161_36 {x0 x1 : Option Value} : mw d 161 Q 36 [x0, x1] (st) h = mw d 161 Q 37 [x0, x1] (.int 0 :: st) h := (mw_at mj_161_36).trans (z_iconst (by decide))
theorem mj_161_37 : mc_P 161 37 = some (.istore_n 1, 1, 0, 0, 0) := by decide +kernel
theorem s_161_37 {x0 x1 : Option Value} {w : Int32} : mw d 161 Q 37 [x0, x1] (.int w :: st) h = mw d 161 Q 38 [mk2 x0, some (.int w)] (st) h := (mw_at mj_161_37).trans (z_istore_n (Nat.le_of_ble_eq_true rfl) (me_s1_mk (j := 0) (w := x0) rfl))
theorem mj_161_38 : mc_P 161 38 = some (.iload_n 1, 1, 0, 0, 0) := by decide +kernel
theorem s_161_38 {x0 : Option Value} {w : Value} : mw d 161 Q 38 [x0, some w] (st) h = mv_i w (mw d 161 Q 39 [x0, some w] (w :: st) h) := (mw_at mj_161_38).trans (z_iload_n rfl)
theorem mj_161_39 : mc_P 161 39 = some (.iconst 2, 1, 0, 0, 0) := by decide +kernel
theorem s_161_39 {x0 x1 : Option Value} : mw d 161 Q 39 [x0, x1] (st) h = mw d 161 Q 40 [x0, x1] (.int 2 :: st) h := (mw_at mj_161_39).trans (z_iconst (by decide))
theorem mj_161_40 : mc_P 161 40 = some (.aload_n 0, 1, 0, 0, 0) := by decide +kernel
theorem s_161_40 {x1 : Option Value} {w : Value} : mw d 161 Q 40 [some w, x1] (st) h = mv_a w (mw d 161 Q 41 [some w, x1] (w :: st) h) := (mw_at mj_161_40).trans (z_aload_n rfl)
theorem mj_161_41 : mc_P 161 41 = some (.getfield 26, 3, 8, 1, 0) := by decide +kernel
theorem s_161_41 {x0 x1 : Option Value} {o : Nat} : mw d 161 Q 41 [x0, x1] (.ref o :: st) h = (mg h o 8 ∧ mw d 161 Q 44 [x0, x1] (.int (mh_i h o 1) :: st) h) := (mw_at mj_161_41).trans (z_geti (by decide) (by decide) (Or.inl rfl))
theorem mj_161_44 : mc_P 161 44 = some (.imul, 1, 0, 0, 0) := by decide +kernel
theorem s_161_44 {x0 x1 : Option Value} {x w : Int32} : mw d 161 Q 44 [x0, x1] (.int w :: .int x :: st) h = mw d 161 Q 45 [x0, x1] (.int (x * w) :: st) h := (mw_at mj_161_44).trans (z_imul)
theorem mj_161_45 : mc_P 161 45 = some (.if_icmp .ge 44, 3, 0, 0, 0) := by decide +kernel
theorem s_161_45 {x0 x1 : Option Value} {x w : Int32} : mw d 161 Q 45 [x0, x1] (.int w :: .int x :: st) h = mB (w ≤ x) (mw d 161 Q) 89 48 [x0, x1] st h := (mw_at mj_161_45).trans (z_icmp_ge (by decide) rfl)
theorem mj_161_48 : mc_P 161 48 = some (.aload_n 0, 1, 0, 0, 0) := by decide +kernel
theorem s_161_48 {x1 : Option Value} {w : Value} : mw d 161 Q 48 [some w, x1] (st) h = mv_a w (mw d 161 Q 49 [some w, x1] (w :: st) h) := (mw_at mj_161_48).trans (z_aload_n rfl)
theorem mj_161_49 : mc_P 161 49 = some (.getfield 11, 3, 8, 3, 0) := by decide +kernel
theorem s_161_49 {x0 x1 : Option Value} {o : Nat} : mw d 161 Q 49 [x0, x1] (.ref o :: st) h = (mg h o 8 ∧ mw d 161 Q 52 [x0, x1] (va_rf (mh_r h o 3) :: st) h) := (mw_at mj_161_49).trans (z_getr (by decide) (by decide) rfl)
theorem mj_161_52 : mc_P 161 52 = some (.iload_n 1, 1, 0, 0, 0) := by decide +kernel
theorem s_161_52 {x0 : Option Value} {w : Value} : mw d 161 Q 52 [x0, some w] (st) h = mv_i w (mw d 161 Q 53 [x0, some w] (w :: st) h) := (mw_at mj_161_52).trans (z_iload_n rfl)
theorem mj_161_53 : mc_P 161 53 = some (.iload_n 1, 1, 0, 0, 0) := by decide +kernel
theorem s_161_53 {x0 : Option Value} {w : Value} : mw d 161 Q 53 [x0, some w] (st) h = mv_i w (mw d 161 Q 54 [x0, some w] (w :: st) h) := (mw_at mj_161_53).trans (z_iload_n rfl)
theorem mj_161_54 : mc_P 161 54 = some (.iconst 1, 1, 0, 0, 0) := by decide +kernel
theorem s_161_54 {x0 x1 : Option Value} : mw d 161 Q 54 [x0, x1] (st) h = mw d 161 Q 55 [x0, x1] (.int 1 :: st) h := (mw_at mj_161_54).trans (z_iconst (by decide))
theorem mj_161_55 : mc_P 161 55 = some (.iadd, 1, 0, 0, 0) := by decide +kernel
theorem s_161_55 {x0 x1 : Option Value} {x w : Int32} : mw d 161 Q 55 [x0, x1] (.int w :: .int x :: st) h = mw d 161 Q 56 [x0, x1] (.int (x + w) :: st) h := (mw_at mj_161_55).trans (z_iadd)
theorem mj_161_56 : mc_P 161 56 = some (.invokestatic 52, 3, 140, 0, 2) := by decide +kernel
theorem s_161_56 {x0 x1 : Option Value} {a0 a1 : Value} : mw (d + 1) 161 Q 56 [x0, x1] (a1 :: a0 :: st) h = (mca st 8 ∧ mca [a0, a1] 2 ∧ mcall d 140 [a0, a1] h (mK (d + 1) 161 Q 59 [x0, x1] st)) := (mw_at mj_161_56).trans ((z_invs (As := [a0, a1]) rfl rfl).trans (congrArg (And _) (mC_nl nl_140)))
theorem mj_161_59 : mc_P 161 59 = some (.laload, 1, 0, 0, 0) := by decide +kernel
theorem s_161_59 {x0 x1 : Option Value} {o : Nat} {i : Int32} : mw d 161 Q 59 [x0, x1] (.int i :: .ref o :: st) h = (mg h o 101 ∧ mx i (mh_l h o) ∧ mw d 161 Q 60 [x0, x1] (.long (mh_j h o i.toNatClampNeg) :: st) h) := (mw_at mj_161_59).trans (z_lald)
theorem mj_161_60 : mc_P 161 60 = some (.aload_n 0, 1, 0, 0, 0) := by decide +kernel
theorem s_161_60 {x1 : Option Value} {w : Value} : mw d 161 Q 60 [some w, x1] (st) h = mv_a w (mw d 161 Q 61 [some w, x1] (w :: st) h) := (mw_at mj_161_60).trans (z_aload_n rfl)
theorem mj_161_61 : mc_P 161 61 = some (.getfield 11, 3, 8, 3, 0) := by decide +kernel
theorem s_161_61 {x0 x1 : Option Value} {o : Nat} : mw d 161 Q 61 [x0, x1] (.ref o :: st) h = (mg h o 8 ∧ mw d 161 Q 64 [x0, x1] (va_rf (mh_r h o 3) :: st) h) := (mw_at mj_161_61).trans (z_getr (by decide) (by decide) rfl)
theorem mj_161_64 : mc_P 161 64 = some (.iload_n 1, 1, 0, 0, 0) := by decide +kernel
theorem s_161_64 {x0 : Option Value} {w : Value} : mw d 161 Q 64 [x0, some w] (st) h = mv_i w (mw d 161 Q 65 [x0, some w] (w :: st) h) := (mw_at mj_161_64).trans (z_iload_n rfl)
theorem mj_161_65 : mc_P 161 65 = some (.iconst 1, 1, 0, 0, 0) := by decide +kernel
theorem s_161_65 {x0 x1 : Option Value} : mw d 161 Q 65 [x0, x1] (st) h = mw d 161 Q 66 [x0, x1] (.int 1 :: st) h := (mw_at mj_161_65).trans (z_iconst (by decide))
theorem mj_161_66 : mc_P 161 66 = some (.iadd, 1, 0, 0, 0) := by decide +kernel
theorem s_161_66 {x0 x1 : Option Value} {x w : Int32} : mw d 161 Q 66 [x0, x1] (.int w :: .int x :: st) h = mw d 161 Q 67 [x0, x1] (.int (x + w) :: st) h := (mw_at mj_161_66).trans (z_iadd)
theorem mj_161_67 : mc_P 161 67 = some (.iload_n 1, 1, 0, 0, 0) := by decide +kernel
theorem s_161_67 {x0 : Option Value} {w : Value} : mw d 161 Q 67 [x0, some w] (st) h = mv_i w (mw d 161 Q 68 [x0, some w] (w :: st) h) := (mw_at mj_161_67).trans (z_iload_n rfl)
theorem mj_161_68 : mc_P 161 68 = some (.invokestatic 52, 3, 140, 0, 2) := by decide +kernel
theorem s_161_68 {x0 x1 : Option Value} {a0 a1 : Value} : mw (d + 1) 161 Q 68 [x0, x1] (a1 :: a0 :: st) h = (mca st 8 ∧ mca [a0, a1] 2 ∧ mcall d 140 [a0, a1] h (mK (d + 1) 161 Q 71 [x0, x1] st)) := (mw_at mj_161_68).trans ((z_invs (As := [a0, a1]) rfl rfl).trans (congrArg (And _) (mC_nl nl_140)))
theorem mj_161_71 : mc_P 161 71 = some (.laload, 1, 0, 0, 0) := by decide +kernel
theorem s_161_71 {x0 x1 : Option Value} {o : Nat} {i : Int32} : mw d 161 Q 71 [x0, x1] (.int i :: .ref o :: st) h = (mg h o 101 ∧ mx i (mh_l h o) ∧ mw d 161 Q 72 [x0, x1] (.long (mh_j h o i.toNatClampNeg) :: st) h) := (mw_at mj_161_71).trans (z_lald)
theorem mj_161_72 : mc_P 161 72 = some (.ladd, 1, 0, 0, 0) := by decide +kernel
theorem s_161_72 {x0 x1 : Option Value} {x w : Int64} : mw d 161 Q 72 [x0, x1] (.long w :: .long x :: st) h = mw d 161 Q 73 [x0, x1] (.long (x + w) :: st) h := (mw_at mj_161_72).trans (z_ladd)
theorem mj_161_73 : mc_P 161 73 = some (.lconst 0, 1, 0, 0, 0) := by decide +kernel
theorem s_161_73 {x0 x1 : Option Value} : mw d 161 Q 73 [x0, x1] (st) h = mw d 161 Q 74 [x0, x1] (.long 0 :: st) h := (mw_at mj_161_73).trans (z_lconst (by decide))
theorem mj_161_74 : mc_P 161 74 = some (.lcmp, 1, 0, 0, 0) := by decide +kernel
theorem s_161_74 {x0 x1 : Option Value} {x w : Int64} : mw d 161 Q 74 [x0, x1] (.long w :: .long x :: st) h = mw d 161 Q 75 [x0, x1] (.int (lg_cmp x w) :: st) h := (mw_at mj_161_74).trans (z_lcmp)
theorem mj_161_75 : mc_P 161 75 = some (.ifCond .ge 8, 3, 0, 0, 0) := by decide +kernel
theorem s_161_75 {x0 x1 : Option Value} {x : Int32} : mw d 161 Q 75 [x0, x1] (.int x :: st) h = mB (0 ≤ x) (mw d 161 Q) 83 78 [x0, x1] st h := (mw_at mj_161_75).trans (z_if_ge (by decide) rfl)
theorem mj_161_78 : mc_P 161 78 = some (.aload_n 0, 1, 0, 0, 0) := by decide +kernel
theorem s_161_78 {x1 : Option Value} {w : Value} : mw d 161 Q 78 [some w, x1] (st) h = mv_a w (mw d 161 Q 79 [some w, x1] (w :: st) h) := (mw_at mj_161_78).trans (z_aload_n rfl)
theorem mj_161_79 : mc_P 161 79 = some (.iconst 1, 1, 0, 0, 0) := by decide +kernel
theorem s_161_79 {x0 x1 : Option Value} : mw d 161 Q 79 [x0, x1] (st) h = mw d 161 Q 80 [x0, x1] (.int 1 :: st) h := (mw_at mj_161_79).trans (z_iconst (by decide))
theorem mj_161_80 : mc_P 161 80 = some (.putfield 30, 3, 8, 0, 0) := by decide +kernel
theorem s_161_80 {x0 x1 : Option Value} {o : Nat} {w : Int32} : mw d 161 Q 80 [x0, x1] (.int w :: .ref o :: st) h = (mg h o 8 ∧ (w = 0 ∨ w = 1) ∧ mw d 161 Q 83 [x0, x1] (st) (mh_si h o 0 w)) := (mw_at mj_161_80).trans (z_putz (by decide) (by decide) rfl)
theorem mj_161_83 : mc_P 161 83 = some (.iinc 1 2, 3, 0, 0, 0) := by decide +kernel
theorem s_161_83 {x0 : Option Value} {w : Int32} : mw d 161 Q 83 [x0, some (.int w)] (st) h = mw d 161 Q 86 [mk2 x0, some (.int (w + 2))] (st) h := (mw_at mj_161_83).trans (z_iinc rfl (Nat.le_of_ble_eq_true rfl) (by decide) (me_s1_mk (j := 0) (w := x0) rfl))
theorem mj_161_86 : mc_P 161 86 = some (.goto (-48), 3, 0, 0, 0) := by decide +kernel
theorem s_161_86 {x0 x1 : Option Value} : mw d 161 Q 86 [x0, x1] (st) h = mw d 161 Q 38 [x0, x1] (st) h := (mw_at mj_161_86).trans (z_goto (by decide))
theorem mj_161_89 : mc_P 161 89 = some (.return_, 1, 0, 0, 0) := by decide +kernel
theorem s_161_89 {x0 x1 : Option Value} : mw d 161 Q 89 [x0, x1] ([]) h = Q none h := (mw_at mj_161_89).trans (z_vret)
theorem e_161 {a0 : Nat} : mcall d 161 [.ref a0] h Q = mw d 161 Q 0 [some (.ref a0), none] [] h := by
  show mw d 161 Q 0 (me_en (mc_nl 161) _) [] h = _
  rw [nl_161]; rfl

/-! InvariantDesk$State.addUp([J)V -/
theorem mj_162_0 : mc_P 162 0 = some (.iconst 0, 1, 0, 0, 0) := by decide +kernel
theorem s_162_0 {x0 x1 x2 x3 x4 : Option Value} : mw d 162 Q 0 [x0, x1, x2, x3, x4] (st) h = mw d 162 Q 1 [x0, x1, x2, x3, x4] (.int 0 :: st) h := (mw_at mj_162_0).trans (z_iconst (by decide))
theorem mj_162_1 : mc_P 162 1 = some (.istore_n 2, 1, 0, 0, 0) := by decide +kernel
theorem s_162_1 {x0 x1 x2 x3 x4 : Option Value} {w : Int32} : mw d 162 Q 1 [x0, x1, x2, x3, x4] (.int w :: st) h = mw d 162 Q 2 [x0, mk2 x1, some (.int w), x3, x4] (st) h := (mw_at mj_162_1).trans (z_istore_n (Nat.le_of_ble_eq_true rfl) (me_s1_mk (j := 1) (w := x1) rfl))
theorem mj_162_2 : mc_P 162 2 = some (.iload_n 2, 1, 0, 0, 0) := by decide +kernel
theorem s_162_2 {x0 x1 x3 x4 : Option Value} {w : Value} : mw d 162 Q 2 [x0, x1, some w, x3, x4] (st) h = mv_i w (mw d 162 Q 3 [x0, x1, some w, x3, x4] (w :: st) h) := (mw_at mj_162_2).trans (z_iload_n rfl)
theorem mj_162_3 : mc_P 162 3 = some (.iconst 2, 1, 0, 0, 0) := by decide +kernel
theorem s_162_3 {x0 x1 x2 x3 x4 : Option Value} : mw d 162 Q 3 [x0, x1, x2, x3, x4] (st) h = mw d 162 Q 4 [x0, x1, x2, x3, x4] (.int 2 :: st) h := (mw_at mj_162_3).trans (z_iconst (by decide))
theorem mj_162_4 : mc_P 162 4 = some (.aload_n 0, 1, 0, 0, 0) := by decide +kernel
theorem s_162_4 {x1 x2 x3 x4 : Option Value} {w : Value} : mw d 162 Q 4 [some w, x1, x2, x3, x4] (st) h = mv_a w (mw d 162 Q 5 [some w, x1, x2, x3, x4] (w :: st) h) := (mw_at mj_162_4).trans (z_aload_n rfl)
theorem mj_162_5 : mc_P 162 5 = some (.getfield 26, 3, 8, 1, 0) := by decide +kernel
theorem s_162_5 {x0 x1 x2 x3 x4 : Option Value} {o : Nat} : mw d 162 Q 5 [x0, x1, x2, x3, x4] (.ref o :: st) h = (mg h o 8 ∧ mw d 162 Q 8 [x0, x1, x2, x3, x4] (.int (mh_i h o 1) :: st) h) := (mw_at mj_162_5).trans (z_geti (by decide) (by decide) (Or.inl rfl))
theorem mj_162_8 : mc_P 162 8 = some (.imul, 1, 0, 0, 0) := by decide +kernel
theorem s_162_8 {x0 x1 x2 x3 x4 : Option Value} {x w : Int32} : mw d 162 Q 8 [x0, x1, x2, x3, x4] (.int w :: .int x :: st) h = mw d 162 Q 9 [x0, x1, x2, x3, x4] (.int (x * w) :: st) h := (mw_at mj_162_8).trans (z_imul)
theorem mj_162_9 : mc_P 162 9 = some (.if_icmp .ge 28, 3, 0, 0, 0) := by decide +kernel
theorem s_162_9 {x0 x1 x2 x3 x4 : Option Value} {x w : Int32} : mw d 162 Q 9 [x0, x1, x2, x3, x4] (.int w :: .int x :: st) h = mB (w ≤ x) (mw d 162 Q) 37 12 [x0, x1, x2, x3, x4] st h := (mw_at mj_162_9).trans (z_icmp_ge (by decide) rfl)
theorem mj_162_12 : mc_P 162 12 = some (.aload_n 1, 1, 0, 0, 0) := by decide +kernel
theorem s_162_12 {x0 x2 x3 x4 : Option Value} {w : Value} : mw d 162 Q 12 [x0, some w, x2, x3, x4] (st) h = mv_a w (mw d 162 Q 13 [x0, some w, x2, x3, x4] (w :: st) h) := (mw_at mj_162_12).trans (z_aload_n rfl)
theorem mj_162_13 : mc_P 162 13 = some (.iload_n 2, 1, 0, 0, 0) := by decide +kernel
theorem s_162_13 {x0 x1 x3 x4 : Option Value} {w : Value} : mw d 162 Q 13 [x0, x1, some w, x3, x4] (st) h = mv_i w (mw d 162 Q 14 [x0, x1, some w, x3, x4] (w :: st) h) := (mw_at mj_162_13).trans (z_iload_n rfl)
theorem mj_162_14 : mc_P 162 14 = some (.aload_n 0, 1, 0, 0, 0) := by decide +kernel
theorem s_162_14 {x1 x2 x3 x4 : Option Value} {w : Value} : mw d 162 Q 14 [some w, x1, x2, x3, x4] (st) h = mv_a w (mw d 162 Q 15 [some w, x1, x2, x3, x4] (w :: st) h) := (mw_at mj_162_14).trans (z_aload_n rfl)
theorem mj_162_15 : mc_P 162 15 = some (.getfield 11, 3, 8, 3, 0) := by decide +kernel
theorem s_162_15 {x0 x1 x2 x3 x4 : Option Value} {o : Nat} : mw d 162 Q 15 [x0, x1, x2, x3, x4] (.ref o :: st) h = (mg h o 8 ∧ mw d 162 Q 18 [x0, x1, x2, x3, x4] (va_rf (mh_r h o 3) :: st) h) := (mw_at mj_162_15).trans (z_getr (by decide) (by decide) rfl)
theorem mj_162_18 : mc_P 162 18 = some (.iload_n 2, 1, 0, 0, 0) := by decide +kernel
theorem s_162_18 {x0 x1 x3 x4 : Option Value} {w : Value} : mw d 162 Q 18 [x0, x1, some w, x3, x4] (st) h = mv_i w (mw d 162 Q 19 [x0, x1, some w, x3, x4] (w :: st) h) := (mw_at mj_162_18).trans (z_iload_n rfl)
theorem mj_162_19 : mc_P 162 19 = some (.iconst 1, 1, 0, 0, 0) := by decide +kernel
theorem s_162_19 {x0 x1 x2 x3 x4 : Option Value} : mw d 162 Q 19 [x0, x1, x2, x3, x4] (st) h = mw d 162 Q 20 [x0, x1, x2, x3, x4] (.int 1 :: st) h := (mw_at mj_162_19).trans (z_iconst (by decide))
theorem mj_162_20 : mc_P 162 20 = some (.ixor, 1, 0, 0, 0) := by decide +kernel
theorem s_162_20 {x0 x1 x2 x3 x4 : Option Value} {x w : Int32} : mw d 162 Q 20 [x0, x1, x2, x3, x4] (.int w :: .int x :: st) h = mw d 162 Q 21 [x0, x1, x2, x3, x4] (.int (x ^^^ w) :: st) h := (mw_at mj_162_20).trans (z_ixor)
theorem mj_162_21 : mc_P 162 21 = some (.iload_n 2, 1, 0, 0, 0) := by decide +kernel
theorem s_162_21 {x0 x1 x3 x4 : Option Value} {w : Value} : mw d 162 Q 21 [x0, x1, some w, x3, x4] (st) h = mv_i w (mw d 162 Q 22 [x0, x1, some w, x3, x4] (w :: st) h) := (mw_at mj_162_21).trans (z_iload_n rfl)
theorem mj_162_22 : mc_P 162 22 = some (.invokestatic 52, 3, 140, 0, 2) := by decide +kernel
theorem s_162_22 {x0 x1 x2 x3 x4 : Option Value} {a0 a1 : Value} : mw (d + 1) 162 Q 22 [x0, x1, x2, x3, x4] (a1 :: a0 :: st) h = (mca st 8 ∧ mca [a0, a1] 2 ∧ mcall d 140 [a0, a1] h (mK (d + 1) 162 Q 25 [x0, x1, x2, x3, x4] st)) := (mw_at mj_162_22).trans ((z_invs (As := [a0, a1]) rfl rfl).trans (congrArg (And _) (mC_nl nl_140)))
theorem mj_162_25 : mc_P 162 25 = some (.laload, 1, 0, 0, 0) := by decide +kernel
theorem s_162_25 {x0 x1 x2 x3 x4 : Option Value} {o : Nat} {i : Int32} : mw d 162 Q 25 [x0, x1, x2, x3, x4] (.int i :: .ref o :: st) h = (mg h o 101 ∧ mx i (mh_l h o) ∧ mw d 162 Q 26 [x0, x1, x2, x3, x4] (.long (mh_j h o i.toNatClampNeg) :: st) h) := (mw_at mj_162_25).trans (z_lald)
theorem mj_162_26 : mc_P 162 26 = some (.ldc2_w 50, 3, 0, 0, 2) := by decide +kernel
theorem s_162_26 {x0 x1 x2 x3 x4 : Option Value} : mw d 162 Q 26 [x0, x1, x2, x3, x4] (st) h = mw d 162 Q 29 [x0, x1, x2, x3, x4] (.long 2 :: st) h := (mw_at mj_162_26).trans (z_ldc2 (by decide))
theorem mj_162_29 : mc_P 162 29 = some (.ldiv, 1, 0, 0, 0) := by decide +kernel
theorem s_162_29 {x0 x1 x2 x3 x4 : Option Value} {x w : Int64} : mw d 162 Q 29 [x0, x1, x2, x3, x4] (.long w :: .long x :: st) h = (¬ w = 0 ∧ mw d 162 Q 30 [x0, x1, x2, x3, x4] (.long (x / w) :: st) h) := (mw_at mj_162_29).trans (z_ldiv)
theorem mj_162_30 : mc_P 162 30 = some (.lastore, 1, 0, 0, 0) := by decide +kernel
theorem s_162_30 {x0 x1 x2 x3 x4 : Option Value} {o : Nat} {i : Int32} {w : Int64} : mw d 162 Q 30 [x0, x1, x2, x3, x4] (.long w :: .int i :: .ref o :: st) h = (mg h o 101 ∧ mx i (mh_l h o) ∧ mw d 162 Q 31 [x0, x1, x2, x3, x4] (st) (mh_sj h o i.toNatClampNeg w)) := (mw_at mj_162_30).trans (z_last)
theorem mj_162_31 : mc_P 162 31 = some (.iinc 2 1, 3, 0, 0, 0) := by decide +kernel
theorem s_162_31 {x0 x1 x3 x4 : Option Value} {w : Int32} : mw d 162 Q 31 [x0, x1, some (.int w), x3, x4] (st) h = mw d 162 Q 34 [x0, mk2 x1, some (.int (w + 1)), x3, x4] (st) h := (mw_at mj_162_31).trans (z_iinc rfl (Nat.le_of_ble_eq_true rfl) (by decide) (me_s1_mk (j := 1) (w := x1) rfl))
theorem mj_162_34 : mc_P 162 34 = some (.goto (-32), 3, 0, 0, 0) := by decide +kernel
theorem s_162_34 {x0 x1 x2 x3 x4 : Option Value} : mw d 162 Q 34 [x0, x1, x2, x3, x4] (st) h = mw d 162 Q 2 [x0, x1, x2, x3, x4] (st) h := (mw_at mj_162_34).trans (z_goto (by decide))
theorem mj_162_37 : mc_P 162 37 = some (.iconst 0, 1, 0, 0, 0) := by decide +kernel
theorem s_162_37 {x0 x1 x2 x3 x4 : Option Value} : mw d 162 Q 37 [x0, x1, x2, x3, x4] (st) h = mw d 162 Q 38 [x0, x1, x2, x3, x4] (.int 0 :: st) h := (mw_at mj_162_37).trans (z_iconst (by decide))
theorem mj_162_38 : mc_P 162 38 = some (.istore_n 2, 1, 0, 0, 0) := by decide +kernel
theorem s_162_38 {x0 x1 x2 x3 x4 : Option Value} {w : Int32} : mw d 162 Q 38 [x0, x1, x2, x3, x4] (.int w :: st) h = mw d 162 Q 39 [x0, mk2 x1, some (.int w), x3, x4] (st) h := (mw_at mj_162_38).trans (z_istore_n (Nat.le_of_ble_eq_true rfl) (me_s1_mk (j := 1) (w := x1) rfl))
theorem mj_162_39 : mc_P 162 39 = some (.iload_n 2, 1, 0, 0, 0) := by decide +kernel
theorem s_162_39 {x0 x1 x3 x4 : Option Value} {w : Value} : mw d 162 Q 39 [x0, x1, some w, x3, x4] (st) h = mv_i w (mw d 162 Q 40 [x0, x1, some w, x3, x4] (w :: st) h) := (mw_at mj_162_39).trans (z_iload_n rfl)
theorem mj_162_40 : mc_P 162 40 = some (.iconst 2, 1, 0, 0, 0) := by decide +kernel
theorem s_162_40 {x0 x1 x2 x3 x4 : Option Value} : mw d 162 Q 40 [x0, x1, x2, x3, x4] (st) h = mw d 162 Q 41 [x0, x1, x2, x3, x4] (.int 2 :: st) h := (mw_at mj_162_40).trans (z_iconst (by decide))
theorem mj_162_41 : mc_P 162 41 = some (.aload_n 0, 1, 0, 0, 0) := by decide +kernel
theorem s_162_41 {x1 x2 x3 x4 : Option Value} {w : Value} : mw d 162 Q 41 [some w, x1, x2, x3, x4] (st) h = mv_a w (mw d 162 Q 42 [some w, x1, x2, x3, x4] (w :: st) h) := (mw_at mj_162_41).trans (z_aload_n rfl)
theorem mj_162_42 : mc_P 162 42 = some (.getfield 26, 3, 8, 1, 0) := by decide +kernel
theorem s_162_42 {x0 x1 x2 x3 x4 : Option Value} {o : Nat} : mw d 162 Q 42 [x0, x1, x2, x3, x4] (.ref o :: st) h = (mg h o 8 ∧ mw d 162 Q 45 [x0, x1, x2, x3, x4] (.int (mh_i h o 1) :: st) h) := (mw_at mj_162_42).trans (z_geti (by decide) (by decide) (Or.inl rfl))
theorem mj_162_45 : mc_P 162 45 = some (.imul, 1, 0, 0, 0) := by decide +kernel
theorem s_162_45 {x0 x1 x2 x3 x4 : Option Value} {x w : Int32} : mw d 162 Q 45 [x0, x1, x2, x3, x4] (.int w :: .int x :: st) h = mw d 162 Q 46 [x0, x1, x2, x3, x4] (.int (x * w) :: st) h := (mw_at mj_162_45).trans (z_imul)
theorem mj_162_46 : mc_P 162 46 = some (.if_icmp .ge 63, 3, 0, 0, 0) := by decide +kernel
theorem s_162_46 {x0 x1 x2 x3 x4 : Option Value} {x w : Int32} : mw d 162 Q 46 [x0, x1, x2, x3, x4] (.int w :: .int x :: st) h = mB (w ≤ x) (mw d 162 Q) 109 49 [x0, x1, x2, x3, x4] st h := (mw_at mj_162_46).trans (z_icmp_ge (by decide) rfl)
theorem mj_162_49 : mc_P 162 49 = some (.getstatic 18, 3, 2, 0, 0) := by decide +kernel
theorem s_162_49 {x0 x1 x2 x3 x4 : Option Value} : mw d 162 Q 49 [x0, x1, x2, x3, x4] (st) h = mw d 162 Q 52 [x0, x1, x2, x3, x4] (.retAddr 2 :: st) h := (mw_at mj_162_49).trans (z_gets0)
theorem mj_162_52 : mc_P 162 52 = some (.iload_n 2, 1, 0, 0, 0) := by decide +kernel
theorem s_162_52 {x0 x1 x3 x4 : Option Value} {w : Value} : mw d 162 Q 52 [x0, x1, some w, x3, x4] (st) h = mv_i w (mw d 162 Q 53 [x0, x1, some w, x3, x4] (w :: st) h) := (mw_at mj_162_52).trans (z_iload_n rfl)
theorem mj_162_53 : mc_P 162 53 = some (.iaload, 1, 0, 0, 0) := by decide +kernel
theorem s_162_53 {x0 x1 x2 x3 x4 : Option Value} {o : Nat} {i : Int32} : mw d 162 Q 53 [x0, x1, x2, x3, x4] (.int i :: .ref o :: st) h = (mg h o 100 ∧ mx i (mh_l h o) ∧ mw d 162 Q 54 [x0, x1, x2, x3, x4] (.int (mh_i h o i.toNatClampNeg) :: st) h) := (mw_at mj_162_53).trans (z_iald)
theorem s_162_53x {x0 x1 x2 x3 x4 : Option Value} {i : Int32} : mw d 162 Q 53 [x0, x1, x2, x3, x4] (.int i :: .retAddr 2 :: st) h = (mx i 24 ∧ mw d 162 Q 54 [x0, x1, x2, x3, x4] (.int (mx_row.getD i.toNatClampNeg 0) :: st) h) := (mw_at mj_162_53).trans (z_iaX)
theorem mj_162_54 : mc_P 162 54 = some (.istore_n 3, 1, 0, 0, 0) := by decide +kernel
theorem s_162_54 {x0 x1 x2 x3 x4 : Option Value} {w : Int32} : mw d 162 Q 54 [x0, x1, x2, x3, x4] (.int w :: st) h = mw d 162 Q 55 [x0, x1, mk2 x2, some (.int w), x4] (st) h := (mw_at mj_162_54).trans (z_istore_n (Nat.le_of_ble_eq_true rfl) (me_s1_mk (j := 2) (w := x2) rfl))
theorem mj_162_55 : mc_P 162 55 = some (.iconst 0, 1, 0, 0, 0) := by decide +kernel
theorem s_162_55 {x0 x1 x2 x3 x4 : Option Value} : mw d 162 Q 55 [x0, x1, x2, x3, x4] (st) h = mw d 162 Q 56 [x0, x1, x2, x3, x4] (.int 0 :: st) h := (mw_at mj_162_55).trans (z_iconst (by decide))
theorem mj_162_56 : mc_P 162 56 = some (.istore 4, 2, 0, 0, 0) := by decide +kernel
theorem s_162_56 {x0 x1 x2 x3 x4 : Option Value} {w : Int32} : mw d 162 Q 56 [x0, x1, x2, x3, x4] (.int w :: st) h = mw d 162 Q 58 [x0, x1, x2, mk2 x3, some (.int w)] (st) h := (mw_at mj_162_56).trans (z_istore (Nat.le_of_ble_eq_true rfl) (me_s1_mk (j := 3) (w := x3) rfl))
theorem mj_162_58 : mc_P 162 58 = some (.iload 4, 2, 0, 0, 0) := by decide +kernel
theorem s_162_58 {x0 x1 x2 x3 : Option Value} {w : Value} : mw d 162 Q 58 [x0, x1, x2, x3, some w] (st) h = mv_i w (mw d 162 Q 60 [x0, x1, x2, x3, some w] (w :: st) h) := (mw_at mj_162_58).trans (z_iload rfl)
theorem mj_162_60 : mc_P 162 60 = some (.iload_n 2, 1, 0, 0, 0) := by decide +kernel
theorem s_162_60 {x0 x1 x3 x4 : Option Value} {w : Value} : mw d 162 Q 60 [x0, x1, some w, x3, x4] (st) h = mv_i w (mw d 162 Q 61 [x0, x1, some w, x3, x4] (w :: st) h) := (mw_at mj_162_60).trans (z_iload_n rfl)
theorem mj_162_61 : mc_P 162 61 = some (.iconst 1, 1, 0, 0, 0) := by decide +kernel
theorem s_162_61 {x0 x1 x2 x3 x4 : Option Value} : mw d 162 Q 61 [x0, x1, x2, x3, x4] (st) h = mw d 162 Q 62 [x0, x1, x2, x3, x4] (.int 1 :: st) h := (mw_at mj_162_61).trans (z_iconst (by decide))
theorem mj_162_62 : mc_P 162 62 = some (.ior, 1, 0, 0, 0) := by decide +kernel
theorem s_162_62 {x0 x1 x2 x3 x4 : Option Value} {x w : Int32} : mw d 162 Q 62 [x0, x1, x2, x3, x4] (.int w :: .int x :: st) h = mw d 162 Q 63 [x0, x1, x2, x3, x4] (.int (x ||| w) :: st) h := (mw_at mj_162_62).trans (z_ior)
theorem mj_162_63 : mc_P 162 63 = some (.if_icmp .gt 40, 3, 0, 0, 0) := by decide +kernel
theorem s_162_63 {x0 x1 x2 x3 x4 : Option Value} {x w : Int32} : mw d 162 Q 63 [x0, x1, x2, x3, x4] (.int w :: .int x :: st) h = mB (w < x) (mw d 162 Q) 103 66 [x0, x1, x2, x3, x4] st h := (mw_at mj_162_63).trans (z_icmp_gt (by decide) rfl)
theorem mj_162_66 : mc_P 162 66 = some (.aload_n 0, 1, 0, 0, 0) := by decide +kernel
theorem s_162_66 {x1 x2 x3 x4 : Option Value} {w : Value} : mw d 162 Q 66 [some w, x1, x2, x3, x4] (st) h = mv_a w (mw d 162 Q 67 [some w, x1, x2, x3, x4] (w :: st) h) := (mw_at mj_162_66).trans (z_aload_n rfl)
theorem mj_162_67 : mc_P 162 67 = some (.getfield 11, 3, 8, 3, 0) := by decide +kernel
theorem s_162_67 {x0 x1 x2 x3 x4 : Option Value} {o : Nat} : mw d 162 Q 67 [x0, x1, x2, x3, x4] (.ref o :: st) h = (mg h o 8 ∧ mw d 162 Q 70 [x0, x1, x2, x3, x4] (va_rf (mh_r h o 3) :: st) h) := (mw_at mj_162_67).trans (z_getr (by decide) (by decide) rfl)
theorem mj_162_70 : mc_P 162 70 = some (.iload_n 3, 1, 0, 0, 0) := by decide +kernel
theorem s_162_70 {x0 x1 x2 x4 : Option Value} {w : Value} : mw d 162 Q 70 [x0, x1, x2, some w, x4] (st) h = mv_i w (mw d 162 Q 71 [x0, x1, x2, some w, x4] (w :: st) h) := (mw_at mj_162_70).trans (z_iload_n rfl)
theorem mj_162_71 : mc_P 162 71 = some (.iload 4, 2, 0, 0, 0) := by decide +kernel
theorem s_162_71 {x0 x1 x2 x3 : Option Value} {w : Value} : mw d 162 Q 71 [x0, x1, x2, x3, some w] (st) h = mv_i w (mw d 162 Q 73 [x0, x1, x2, x3, some w] (w :: st) h) := (mw_at mj_162_71).trans (z_iload rfl)
theorem mj_162_73 : mc_P 162 73 = some (.iadd, 1, 0, 0, 0) := by decide +kernel
theorem s_162_73 {x0 x1 x2 x3 x4 : Option Value} {x w : Int32} : mw d 162 Q 73 [x0, x1, x2, x3, x4] (.int w :: .int x :: st) h = mw d 162 Q 74 [x0, x1, x2, x3, x4] (.int (x + w) :: st) h := (mw_at mj_162_73).trans (z_iadd)
theorem mj_162_74 : mc_P 162 74 = some (.aload_n 0, 1, 0, 0, 0) := by decide +kernel
theorem s_162_74 {x1 x2 x3 x4 : Option Value} {w : Value} : mw d 162 Q 74 [some w, x1, x2, x3, x4] (st) h = mv_a w (mw d 162 Q 75 [some w, x1, x2, x3, x4] (w :: st) h) := (mw_at mj_162_74).trans (z_aload_n rfl)
theorem mj_162_75 : mc_P 162 75 = some (.getfield 11, 3, 8, 3, 0) := by decide +kernel
theorem s_162_75 {x0 x1 x2 x3 x4 : Option Value} {o : Nat} : mw d 162 Q 75 [x0, x1, x2, x3, x4] (.ref o :: st) h = (mg h o 8 ∧ mw d 162 Q 78 [x0, x1, x2, x3, x4] (va_rf (mh_r h o 3) :: st) h) := (mw_at mj_162_75).trans (z_getr (by decide) (by decide) rfl)
theorem mj_162_78 : mc_P 162 78 = some (.iload_n 3, 1, 0, 0, 0) := by decide +kernel
theorem s_162_78 {x0 x1 x2 x4 : Option Value} {w : Value} : mw d 162 Q 78 [x0, x1, x2, some w, x4] (st) h = mv_i w (mw d 162 Q 79 [x0, x1, x2, some w, x4] (w :: st) h) := (mw_at mj_162_78).trans (z_iload_n rfl)
theorem mj_162_79 : mc_P 162 79 = some (.iload 4, 2, 0, 0, 0) := by decide +kernel
theorem s_162_79 {x0 x1 x2 x3 : Option Value} {w : Value} : mw d 162 Q 79 [x0, x1, x2, x3, some w] (st) h = mv_i w (mw d 162 Q 81 [x0, x1, x2, x3, some w] (w :: st) h) := (mw_at mj_162_79).trans (z_iload rfl)
theorem mj_162_81 : mc_P 162 81 = some (.iadd, 1, 0, 0, 0) := by decide +kernel
theorem s_162_81 {x0 x1 x2 x3 x4 : Option Value} {x w : Int32} : mw d 162 Q 81 [x0, x1, x2, x3, x4] (.int w :: .int x :: st) h = mw d 162 Q 82 [x0, x1, x2, x3, x4] (.int (x + w) :: st) h := (mw_at mj_162_81).trans (z_iadd)
theorem mj_162_82 : mc_P 162 82 = some (.laload, 1, 0, 0, 0) := by decide +kernel
theorem s_162_82 {x0 x1 x2 x3 x4 : Option Value} {o : Nat} {i : Int32} : mw d 162 Q 82 [x0, x1, x2, x3, x4] (.int i :: .ref o :: st) h = (mg h o 101 ∧ mx i (mh_l h o) ∧ mw d 162 Q 83 [x0, x1, x2, x3, x4] (.long (mh_j h o i.toNatClampNeg) :: st) h) := (mw_at mj_162_82).trans (z_lald)
theorem mj_162_83 : mc_P 162 83 = some (.aload_n 1, 1, 0, 0, 0) := by decide +kernel
theorem s_162_83 {x0 x2 x3 x4 : Option Value} {w : Value} : mw d 162 Q 83 [x0, some w, x2, x3, x4] (st) h = mv_a w (mw d 162 Q 84 [x0, some w, x2, x3, x4] (w :: st) h) := (mw_at mj_162_83).trans (z_aload_n rfl)
theorem mj_162_84 : mc_P 162 84 = some (.iload_n 2, 1, 0, 0, 0) := by decide +kernel
theorem s_162_84 {x0 x1 x3 x4 : Option Value} {w : Value} : mw d 162 Q 84 [x0, x1, some w, x3, x4] (st) h = mv_i w (mw d 162 Q 85 [x0, x1, some w, x3, x4] (w :: st) h) := (mw_at mj_162_84).trans (z_iload_n rfl)
theorem mj_162_85 : mc_P 162 85 = some (.iconst 1, 1, 0, 0, 0) := by decide +kernel
theorem s_162_85 {x0 x1 x2 x3 x4 : Option Value} : mw d 162 Q 85 [x0, x1, x2, x3, x4] (st) h = mw d 162 Q 86 [x0, x1, x2, x3, x4] (.int 1 :: st) h := (mw_at mj_162_85).trans (z_iconst (by decide))
theorem mj_162_86 : mc_P 162 86 = some (.ixor, 1, 0, 0, 0) := by decide +kernel
theorem s_162_86 {x0 x1 x2 x3 x4 : Option Value} {x w : Int32} : mw d 162 Q 86 [x0, x1, x2, x3, x4] (.int w :: .int x :: st) h = mw d 162 Q 87 [x0, x1, x2, x3, x4] (.int (x ^^^ w) :: st) h := (mw_at mj_162_86).trans (z_ixor)
theorem mj_162_87 : mc_P 162 87 = some (.laload, 1, 0, 0, 0) := by decide +kernel
theorem s_162_87 {x0 x1 x2 x3 x4 : Option Value} {o : Nat} {i : Int32} : mw d 162 Q 87 [x0, x1, x2, x3, x4] (.int i :: .ref o :: st) h = (mg h o 101 ∧ mx i (mh_l h o) ∧ mw d 162 Q 88 [x0, x1, x2, x3, x4] (.long (mh_j h o i.toNatClampNeg) :: st) h) := (mw_at mj_162_87).trans (z_lald)
theorem mj_162_88 : mc_P 162 88 = some (.aload_n 1, 1, 0, 0, 0) := by decide +kernel
theorem s_162_88 {x0 x2 x3 x4 : Option Value} {w : Value} : mw d 162 Q 88 [x0, some w, x2, x3, x4] (st) h = mv_a w (mw d 162 Q 89 [x0, some w, x2, x3, x4] (w :: st) h) := (mw_at mj_162_88).trans (z_aload_n rfl)
theorem mj_162_89 : mc_P 162 89 = some (.iload 4, 2, 0, 0, 0) := by decide +kernel
theorem s_162_89 {x0 x1 x2 x3 : Option Value} {w : Value} : mw d 162 Q 89 [x0, x1, x2, x3, some w] (st) h = mv_i w (mw d 162 Q 91 [x0, x1, x2, x3, some w] (w :: st) h) := (mw_at mj_162_89).trans (z_iload rfl)
theorem mj_162_91 : mc_P 162 91 = some (.laload, 1, 0, 0, 0) := by decide +kernel
theorem s_162_91 {x0 x1 x2 x3 x4 : Option Value} {o : Nat} {i : Int32} : mw d 162 Q 91 [x0, x1, x2, x3, x4] (.int i :: .ref o :: st) h = (mg h o 101 ∧ mx i (mh_l h o) ∧ mw d 162 Q 92 [x0, x1, x2, x3, x4] (.long (mh_j h o i.toNatClampNeg) :: st) h) := (mw_at mj_162_91).trans (z_lald)
theorem mj_162_92 : mc_P 162 92 = some (.ladd, 1, 0, 0, 0) := by decide +kernel
theorem s_162_92 {x0 x1 x2 x3 x4 : Option Value} {x w : Int64} : mw d 162 Q 92 [x0, x1, x2, x3, x4] (.long w :: .long x :: st) h = mw d 162 Q 93 [x0, x1, x2, x3, x4] (.long (x + w) :: st) h := (mw_at mj_162_92).trans (z_ladd)
theorem mj_162_93 : mc_P 162 93 = some (.invokestatic 70, 3, 0, 22, 0) := by decide +kernel
theorem s_162_93 {x0 x1 x2 x3 x4 : Option Value} {x w : Int64} : mw d 162 Q 93 [x0, x1, x2, x3, x4] (.long w :: .long x :: st) h = (mca st 8 ∧ mw d 162 Q 96 [x0, x1, x2, x3, x4] (.long (if w < x then w else x) :: st) h) := (mw_at mj_162_93).trans (z_lmin)
theorem mj_162_96 : mc_P 162 96 = some (.lastore, 1, 0, 0, 0) := by decide +kernel
theorem s_162_96 {x0 x1 x2 x3 x4 : Option Value} {o : Nat} {i : Int32} {w : Int64} : mw d 162 Q 96 [x0, x1, x2, x3, x4] (.long w :: .int i :: .ref o :: st) h = (mg h o 101 ∧ mx i (mh_l h o) ∧ mw d 162 Q 97 [x0, x1, x2, x3, x4] (st) (mh_sj h o i.toNatClampNeg w)) := (mw_at mj_162_96).trans (z_last)
theorem mj_162_97 : mc_P 162 97 = some (.iinc 4 1, 3, 0, 0, 0) := by decide +kernel
theorem s_162_97 {x0 x1 x2 x3 : Option Value} {w : Int32} : mw d 162 Q 97 [x0, x1, x2, x3, some (.int w)] (st) h = mw d 162 Q 100 [x0, x1, x2, mk2 x3, some (.int (w + 1))] (st) h := (mw_at mj_162_97).trans (z_iinc rfl (Nat.le_of_ble_eq_true rfl) (by decide) (me_s1_mk (j := 3) (w := x3) rfl))
theorem mj_162_100 : mc_P 162 100 = some (.goto (-42), 3, 0, 0, 0) := by decide +kernel
theorem s_162_100 {x0 x1 x2 x3 x4 : Option Value} : mw d 162 Q 100 [x0, x1, x2, x3, x4] (st) h = mw d 162 Q 58 [x0, x1, x2, x3, x4] (st) h := (mw_at mj_162_100).trans (z_goto (by decide))
theorem mj_162_103 : mc_P 162 103 = some (.iinc 2 1, 3, 0, 0, 0) := by decide +kernel
theorem s_162_103 {x0 x1 x3 x4 : Option Value} {w : Int32} : mw d 162 Q 103 [x0, x1, some (.int w), x3, x4] (st) h = mw d 162 Q 106 [x0, mk2 x1, some (.int (w + 1)), x3, x4] (st) h := (mw_at mj_162_103).trans (z_iinc rfl (Nat.le_of_ble_eq_true rfl) (by decide) (me_s1_mk (j := 1) (w := x1) rfl))
theorem mj_162_106 : mc_P 162 106 = some (.goto (-67), 3, 0, 0, 0) := by decide +kernel
theorem s_162_106 {x0 x1 x2 x3 x4 : Option Value} : mw d 162 Q 106 [x0, x1, x2, x3, x4] (st) h = mw d 162 Q 39 [x0, x1, x2, x3, x4] (st) h := (mw_at mj_162_106).trans (z_goto (by decide))
theorem mj_162_109 : mc_P 162 109 = some (.return_, 1, 0, 0, 0) := by decide +kernel
theorem s_162_109 {x0 x1 x2 x3 x4 : Option Value} : mw d 162 Q 109 [x0, x1, x2, x3, x4] ([]) h = Q none h := (mw_at mj_162_109).trans (z_vret)
theorem e_162 {a0 : Nat} {a1 : Nat} : mcall d 162 [.ref a0, .ref a1] h Q = mw d 162 Q 0 [some (.ref a0), some (.ref a1), none, none, none] [] h := by
  show mw d 162 Q 0 (me_en (mc_nl 162) _) [] h = _
  rw [nl_162]; rfl

/-! InvariantDeskModel$Known.other(I)I -/
theorem mj_277_0 : mc_P 277 0 = some (.iload_n 0, 1, 0, 0, 0) := by decide +kernel
theorem s_277_0 {w : Value} : mw d 277 Q 0 [some w] (st) h = mv_i w (mw d 277 Q 1 [some w] (w :: st) h) := (mw_at mj_277_0).trans (z_iload_n rfl)
theorem mj_277_1 : mc_P 277 1 = some (.iconst 1, 1, 0, 0, 0) := by decide +kernel
theorem s_277_1 {x0 : Option Value} : mw d 277 Q 1 [x0] (st) h = mw d 277 Q 2 [x0] (.int 1 :: st) h := (mw_at mj_277_1).trans (z_iconst (by decide))
theorem mj_277_2 : mc_P 277 2 = some (.ixor, 1, 0, 0, 0) := by decide +kernel
theorem s_277_2 {x0 : Option Value} {x w : Int32} : mw d 277 Q 2 [x0] (.int w :: .int x :: st) h = mw d 277 Q 3 [x0] (.int (x ^^^ w) :: st) h := (mw_at mj_277_2).trans (z_ixor)
theorem mj_277_3 : mc_P 277 3 = some (.ireturn, 1, 0, 0, 0) := by decide +kernel
theorem s_277_3 {x0 : Option Value} {x : Int32} : mw d 277 Q 3 [x0] ([.int x]) h = (Q (some (.int x)) h) := (mw_at mj_277_3).trans (z_iret)
theorem e_277 {a0 : Int32} : mcall d 277 [.int a0] h Q = mw d 277 Q 0 [some (.int a0)] [] h := by
  show mw d 277 Q 0 (me_en (mc_nl 277) _) [] h = _
  rw [nl_277]; rfl

/-! InvariantDeskModel$Known.most(I)J -/
theorem mj_278_0 : mc_P 278 0 = some (.iload_n 0, 1, 0, 0, 0) := by decide +kernel
theorem s_278_0 {w : Value} : mw d 278 Q 0 [some w] (st) h = mv_i w (mw d 278 Q 1 [some w] (w :: st) h) := (mw_at mj_278_0).trans (z_iload_n rfl)
theorem mj_278_1 : mc_P 278 1 = some (.iconst 2, 1, 0, 0, 0) := by decide +kernel
theorem s_278_1 {x0 : Option Value} : mw d 278 Q 1 [x0] (st) h = mw d 278 Q 2 [x0] (.int 2 :: st) h := (mw_at mj_278_1).trans (z_iconst (by decide))
theorem mj_278_2 : mc_P 278 2 = some (.irem, 1, 0, 0, 0) := by decide +kernel
theorem s_278_2 {x0 : Option Value} {x w : Int32} : mw d 278 Q 2 [x0] (.int w :: .int x :: st) h = (¬ w = 0 ∧ mw d 278 Q 3 [x0] (.int (x - x / w * w) :: st) h) := (mw_at mj_278_2).trans (z_irem)
theorem mj_278_3 : mc_P 278 3 = some (.ifCond .ne 9, 3, 0, 0, 0) := by decide +kernel
theorem s_278_3 {x0 : Option Value} {x : Int32} : mw d 278 Q 3 [x0] (.int x :: st) h = mB (¬ x = 0) (mw d 278 Q) 12 6 [x0] st h := (mw_at mj_278_3).trans (z_if_ne (by decide) rfl)
theorem mj_278_6 : mc_P 278 6 = some (.ldc2_w 23, 3, 0, 0, 2147483647) := by decide +kernel
theorem s_278_6 {x0 : Option Value} : mw d 278 Q 6 [x0] (st) h = mw d 278 Q 9 [x0] (.long 2147483647 :: st) h := (mw_at mj_278_6).trans (z_ldc2 (by decide))
theorem mj_278_9 : mc_P 278 9 = some (.goto 6, 3, 0, 0, 0) := by decide +kernel
theorem s_278_9 {x0 : Option Value} : mw d 278 Q 9 [x0] (st) h = mw d 278 Q 15 [x0] (st) h := (mw_at mj_278_9).trans (z_goto (by decide))
theorem mj_278_12 : mc_P 278 12 = some (.ldc2_w 25, 3, 0, 0, 2147483648) := by decide +kernel
theorem s_278_12 {x0 : Option Value} : mw d 278 Q 12 [x0] (st) h = mw d 278 Q 15 [x0] (.long 2147483648 :: st) h := (mw_at mj_278_12).trans (z_ldc2 (by decide))
theorem mj_278_15 : mc_P 278 15 = some (.lreturn, 1, 0, 0, 0) := by decide +kernel
theorem s_278_15 {x0 : Option Value} {x : Int64} : mw d 278 Q 15 [x0] ([.long x]) h = Q (some (.long x)) h := (mw_at mj_278_15).trans (z_lret)
theorem e_278 {a0 : Int32} : mcall d 278 [.int a0] h Q = mw d 278 Q 0 [some (.int a0)] [] h := by
  show mw d 278 Q 0 (me_en (mc_nl 278) _) [] h = _
  rw [nl_278]; rfl

/-! InvariantDeskModel$Known.far(II)J -/
theorem mj_279_0 : mc_P 279 0 = some (.iload_n 1, 1, 0, 0, 0) := by decide +kernel
theorem s_279_0 {x0 : Option Value} {w : Value} : mw d 279 Q 0 [x0, some w] (st) h = mv_i w (mw d 279 Q 1 [x0, some w] (w :: st) h) := (mw_at mj_279_0).trans (z_iload_n rfl)
theorem mj_279_1 : mc_P 279 1 = some (.iload_n 0, 1, 0, 0, 0) := by decide +kernel
theorem s_279_1 {x1 : Option Value} {w : Value} : mw d 279 Q 1 [some w, x1] (st) h = mv_i w (mw d 279 Q 2 [some w, x1] (w :: st) h) := (mw_at mj_279_1).trans (z_iload_n rfl)
theorem mj_279_2 : mc_P 279 2 = some (.invokestatic 27, 3, 277, 0, 1) := by decide +kernel
theorem s_279_2 {x0 x1 : Option Value} {a0 : Value} : mw (d + 1) 279 Q 2 [x0, x1] (a0 :: st) h = (mca st 8 ∧ mca [a0] 1 ∧ mcall d 277 [a0] h (mK (d + 1) 279 Q 5 [x0, x1] st)) := (mw_at mj_279_2).trans ((z_invs (As := [a0]) rfl rfl).trans (congrArg (And _) (mC_nl nl_277)))
theorem mj_279_5 : mc_P 279 5 = some (.if_icmp .ne 7, 3, 0, 0, 0) := by decide +kernel
theorem s_279_5 {x0 x1 : Option Value} {x w : Int32} : mw d 279 Q 5 [x0, x1] (.int w :: .int x :: st) h = mB (¬ x = w) (mw d 279 Q) 12 8 [x0, x1] st h := (mw_at mj_279_5).trans (z_icmp_ne (by decide) rfl)
theorem mj_279_8 : mc_P 279 8 = some (.lconst 0, 1, 0, 0, 0) := by decide +kernel
theorem s_279_8 {x0 x1 : Option Value} : mw d 279 Q 8 [x0, x1] (st) h = mw d 279 Q 9 [x0, x1] (.long 0 :: st) h := (mw_at mj_279_8).trans (z_lconst (by decide))
theorem mj_279_9 : mc_P 279 9 = some (.goto 12, 3, 0, 0, 0) := by decide +kernel
theorem s_279_9 {x0 x1 : Option Value} : mw d 279 Q 9 [x0, x1] (st) h = mw d 279 Q 21 [x0, x1] (st) h := (mw_at mj_279_9).trans (z_goto (by decide))
theorem mj_279_12 : mc_P 279 12 = some (.iload_n 0, 1, 0, 0, 0) := by decide +kernel
theorem s_279_12 {x1 : Option Value} {w : Value} : mw d 279 Q 12 [some w, x1] (st) h = mv_i w (mw d 279 Q 13 [some w, x1] (w :: st) h) := (mw_at mj_279_12).trans (z_iload_n rfl)
theorem mj_279_13 : mc_P 279 13 = some (.invokestatic 31, 3, 278, 0, 1) := by decide +kernel
theorem s_279_13 {x0 x1 : Option Value} {a0 : Value} : mw (d + 1) 279 Q 13 [x0, x1] (a0 :: st) h = (mca st 8 ∧ mca [a0] 1 ∧ mcall d 278 [a0] h (mK (d + 1) 279 Q 16 [x0, x1] st)) := (mw_at mj_279_13).trans ((z_invs (As := [a0]) rfl rfl).trans (congrArg (And _) (mC_nl nl_278)))
theorem mj_279_16 : mc_P 279 16 = some (.iload_n 1, 1, 0, 0, 0) := by decide +kernel
theorem s_279_16 {x0 : Option Value} {w : Value} : mw d 279 Q 16 [x0, some w] (st) h = mv_i w (mw d 279 Q 17 [x0, some w] (w :: st) h) := (mw_at mj_279_16).trans (z_iload_n rfl)
theorem mj_279_17 : mc_P 279 17 = some (.invokestatic 31, 3, 278, 0, 1) := by decide +kernel
theorem s_279_17 {x0 x1 : Option Value} {a0 : Value} : mw (d + 1) 279 Q 17 [x0, x1] (a0 :: st) h = (mca st 8 ∧ mca [a0] 1 ∧ mcall d 278 [a0] h (mK (d + 1) 279 Q 20 [x0, x1] st)) := (mw_at mj_279_17).trans ((z_invs (As := [a0]) rfl rfl).trans (congrArg (And _) (mC_nl nl_278)))
theorem mj_279_20 : mc_P 279 20 = some (.ladd, 1, 0, 0, 0) := by decide +kernel
theorem s_279_20 {x0 x1 : Option Value} {x w : Int64} : mw d 279 Q 20 [x0, x1] (.long w :: .long x :: st) h = mw d 279 Q 21 [x0, x1] (.long (x + w) :: st) h := (mw_at mj_279_20).trans (z_ladd)
theorem mj_279_21 : mc_P 279 21 = some (.lreturn, 1, 0, 0, 0) := by decide +kernel
theorem s_279_21 {x0 x1 : Option Value} {x : Int64} : mw d 279 Q 21 [x0, x1] ([.long x]) h = Q (some (.long x)) h := (mw_at mj_279_21).trans (z_lret)
theorem e_279 {a0 : Int32} {a1 : Int32} : mcall d 279 [.int a0, .int a1] h Q = mw d 279 Q 0 [some (.int a0), some (.int a1)] [] h := by
  show mw d 279 Q 0 (me_en (mc_nl 279) _) [] h = _
  rw [nl_279]; rfl

/-! InvariantDeskModel$Known.bound(II)J -/
theorem mj_282_0 : mc_P 282 0 = some (.aload_n 0, 1, 0, 0, 0) := by decide +kernel
theorem s_282_0 {x1 x2 x3 x4 : Option Value} {w : Value} : mw d 282 Q 0 [some w, x1, x2, x3, x4] (st) h = mv_a w (mw d 282 Q 1 [some w, x1, x2, x3, x4] (w :: st) h) := (mw_at mj_282_0).trans (z_aload_n rfl)
theorem mj_282_1 : mc_P 282 1 = some (.getfield 9, 3, 13, 3, 0) := by decide +kernel
theorem s_282_1 {x0 x1 x2 x3 x4 : Option Value} {o : Nat} : mw d 282 Q 1 [x0, x1, x2, x3, x4] (.ref o :: st) h = (mg h o 13 ∧ mw d 282 Q 4 [x0, x1, x2, x3, x4] (va_rf (mh_r h o 3) :: st) h) := (mw_at mj_282_1).trans (z_getr (by decide) (by decide) rfl)
theorem mj_282_4 : mc_P 282 4 = some (.bipush 24, 2, 0, 0, 0) := by decide +kernel
theorem s_282_4 {x0 x1 x2 x3 x4 : Option Value} : mw d 282 Q 4 [x0, x1, x2, x3, x4] (st) h = mw d 282 Q 6 [x0, x1, x2, x3, x4] (.int 24 :: st) h := (mw_at mj_282_4).trans (z_bipush (by decide))
theorem mj_282_6 : mc_P 282 6 = some (.iload_n 1, 1, 0, 0, 0) := by decide +kernel
theorem s_282_6 {x0 x2 x3 x4 : Option Value} {w : Value} : mw d 282 Q 6 [x0, some w, x2, x3, x4] (st) h = mv_i w (mw d 282 Q 7 [x0, some w, x2, x3, x4] (w :: st) h) := (mw_at mj_282_6).trans (z_iload_n rfl)
theorem mj_282_7 : mc_P 282 7 = some (.imul, 1, 0, 0, 0) := by decide +kernel
theorem s_282_7 {x0 x1 x2 x3 x4 : Option Value} {x w : Int32} : mw d 282 Q 7 [x0, x1, x2, x3, x4] (.int w :: .int x :: st) h = mw d 282 Q 8 [x0, x1, x2, x3, x4] (.int (x * w) :: st) h := (mw_at mj_282_7).trans (z_imul)
theorem mj_282_8 : mc_P 282 8 = some (.iload_n 2, 1, 0, 0, 0) := by decide +kernel
theorem s_282_8 {x0 x1 x3 x4 : Option Value} {w : Value} : mw d 282 Q 8 [x0, x1, some w, x3, x4] (st) h = mv_i w (mw d 282 Q 9 [x0, x1, some w, x3, x4] (w :: st) h) := (mw_at mj_282_8).trans (z_iload_n rfl)
theorem mj_282_9 : mc_P 282 9 = some (.iadd, 1, 0, 0, 0) := by decide +kernel
theorem s_282_9 {x0 x1 x2 x3 x4 : Option Value} {x w : Int32} : mw d 282 Q 9 [x0, x1, x2, x3, x4] (.int w :: .int x :: st) h = mw d 282 Q 10 [x0, x1, x2, x3, x4] (.int (x + w) :: st) h := (mw_at mj_282_9).trans (z_iadd)
theorem mj_282_10 : mc_P 282 10 = some (.laload, 1, 0, 0, 0) := by decide +kernel
theorem s_282_10 {x0 x1 x2 x3 x4 : Option Value} {o : Nat} {i : Int32} : mw d 282 Q 10 [x0, x1, x2, x3, x4] (.int i :: .ref o :: st) h = (mg h o 101 ∧ mx i (mh_l h o) ∧ mw d 282 Q 11 [x0, x1, x2, x3, x4] (.long (mh_j h o i.toNatClampNeg) :: st) h) := (mw_at mj_282_10).trans (z_lald)
theorem mj_282_11 : mc_P 282 11 = some (.lstore_n 3, 1, 0, 0, 0) := by decide +kernel
theorem s_282_11 {x0 x1 x2 x3 x4 : Option Value} {w : Int64} : mw d 282 Q 11 [x0, x1, x2, x3, x4] (.long w :: st) h = mw d 282 Q 12 [x0, x1, mk2 x2, some (.long w), none] (st) h := (mw_at mj_282_11).trans (z_lstore_n (Nat.le_of_ble_eq_true rfl) (me_s2_mk (j := 2) (w := x2) rfl))
theorem mj_282_12 : mc_P 282 12 = some (.iload_n 2, 1, 0, 0, 0) := by decide +kernel
theorem s_282_12 {x0 x1 x3 x4 : Option Value} {w : Value} : mw d 282 Q 12 [x0, x1, some w, x3, x4] (st) h = mv_i w (mw d 282 Q 13 [x0, x1, some w, x3, x4] (w :: st) h) := (mw_at mj_282_12).trans (z_iload_n rfl)
theorem mj_282_13 : mc_P 282 13 = some (.iload_n 1, 1, 0, 0, 0) := by decide +kernel
theorem s_282_13 {x0 x2 x3 x4 : Option Value} {w : Value} : mw d 282 Q 13 [x0, some w, x2, x3, x4] (st) h = mv_i w (mw d 282 Q 14 [x0, some w, x2, x3, x4] (w :: st) h) := (mw_at mj_282_13).trans (z_iload_n rfl)
theorem mj_282_14 : mc_P 282 14 = some (.invokestatic 27, 3, 277, 0, 1) := by decide +kernel
theorem s_282_14 {x0 x1 x2 x3 x4 : Option Value} {a0 : Value} : mw (d + 1) 282 Q 14 [x0, x1, x2, x3, x4] (a0 :: st) h = (mca st 8 ∧ mca [a0] 1 ∧ mcall d 277 [a0] h (mK (d + 1) 282 Q 17 [x0, x1, x2, x3, x4] st)) := (mw_at mj_282_14).trans ((z_invs (As := [a0]) rfl rfl).trans (congrArg (And _) (mC_nl nl_277)))
theorem mj_282_17 : mc_P 282 17 = some (.if_icmp .ne 7, 3, 0, 0, 0) := by decide +kernel
theorem s_282_17 {x0 x1 x2 x3 x4 : Option Value} {x w : Int32} : mw d 282 Q 17 [x0, x1, x2, x3, x4] (.int w :: .int x :: st) h = mB (¬ x = w) (mw d 282 Q) 24 20 [x0, x1, x2, x3, x4] st h := (mw_at mj_282_17).trans (z_icmp_ne (by decide) rfl)
theorem mj_282_20 : mc_P 282 20 = some (.lconst 0, 1, 0, 0, 0) := by decide +kernel
theorem s_282_20 {x0 x1 x2 x3 x4 : Option Value} : mw d 282 Q 20 [x0, x1, x2, x3, x4] (st) h = mw d 282 Q 21 [x0, x1, x2, x3, x4] (.long 0 :: st) h := (mw_at mj_282_20).trans (z_lconst (by decide))
theorem mj_282_21 : mc_P 282 21 = some (.goto 17, 3, 0, 0, 0) := by decide +kernel
theorem s_282_21 {x0 x1 x2 x3 x4 : Option Value} : mw d 282 Q 21 [x0, x1, x2, x3, x4] (st) h = mw d 282 Q 38 [x0, x1, x2, x3, x4] (st) h := (mw_at mj_282_21).trans (z_goto (by decide))
theorem mj_282_24 : mc_P 282 24 = some (.iload_n 1, 1, 0, 0, 0) := by decide +kernel
theorem s_282_24 {x0 x2 x3 x4 : Option Value} {w : Value} : mw d 282 Q 24 [x0, some w, x2, x3, x4] (st) h = mv_i w (mw d 282 Q 25 [x0, some w, x2, x3, x4] (w :: st) h) := (mw_at mj_282_24).trans (z_iload_n rfl)
theorem mj_282_25 : mc_P 282 25 = some (.iload_n 2, 1, 0, 0, 0) := by decide +kernel
theorem s_282_25 {x0 x1 x3 x4 : Option Value} {w : Value} : mw d 282 Q 25 [x0, x1, some w, x3, x4] (st) h = mv_i w (mw d 282 Q 26 [x0, x1, some w, x3, x4] (w :: st) h) := (mw_at mj_282_25).trans (z_iload_n rfl)
theorem mj_282_26 : mc_P 282 26 = some (.if_icmp .ne 11, 3, 0, 0, 0) := by decide +kernel
theorem s_282_26 {x0 x1 x2 x3 x4 : Option Value} {x w : Int32} : mw d 282 Q 26 [x0, x1, x2, x3, x4] (.int w :: .int x :: st) h = mB (¬ x = w) (mw d 282 Q) 37 29 [x0, x1, x2, x3, x4] st h := (mw_at mj_282_26).trans (z_icmp_ne (by decide) rfl)
theorem mj_282_29 : mc_P 282 29 = some (.lload_n 3, 1, 0, 0, 0) := by decide +kernel
theorem s_282_29 {x0 x1 x2 x4 : Option Value} {w : Value} : mw d 282 Q 29 [x0, x1, x2, some w, x4] (st) h = mv_l w (mw d 282 Q 30 [x0, x1, x2, some w, x4] (w :: st) h) := (mw_at mj_282_29).trans (z_lload_n rfl)
theorem mj_282_30 : mc_P 282 30 = some (.ldc2_w 52, 3, 0, 0, 2) := by decide +kernel
theorem s_282_30 {x0 x1 x2 x3 x4 : Option Value} : mw d 282 Q 30 [x0, x1, x2, x3, x4] (st) h = mw d 282 Q 33 [x0, x1, x2, x3, x4] (.long 2 :: st) h := (mw_at mj_282_30).trans (z_ldc2 (by decide))
theorem mj_282_33 : mc_P 282 33 = some (.ldiv, 1, 0, 0, 0) := by decide +kernel
theorem s_282_33 {x0 x1 x2 x3 x4 : Option Value} {x w : Int64} : mw d 282 Q 33 [x0, x1, x2, x3, x4] (.long w :: .long x :: st) h = (¬ w = 0 ∧ mw d 282 Q 34 [x0, x1, x2, x3, x4] (.long (x / w) :: st) h) := (mw_at mj_282_33).trans (z_ldiv)
theorem mj_282_34 : mc_P 282 34 = some (.goto 4, 3, 0, 0, 0) := by decide +kernel
theorem s_282_34 {x0 x1 x2 x3 x4 : Option Value} : mw d 282 Q 34 [x0, x1, x2, x3, x4] (st) h = mw d 282 Q 38 [x0, x1, x2, x3, x4] (st) h := (mw_at mj_282_34).trans (z_goto (by decide))
theorem mj_282_37 : mc_P 282 37 = some (.lload_n 3, 1, 0, 0, 0) := by decide +kernel
theorem s_282_37 {x0 x1 x2 x4 : Option Value} {w : Value} : mw d 282 Q 37 [x0, x1, x2, some w, x4] (st) h = mv_l w (mw d 282 Q 38 [x0, x1, x2, some w, x4] (w :: st) h) := (mw_at mj_282_37).trans (z_lload_n rfl)
theorem mj_282_38 : mc_P 282 38 = some (.lreturn, 1, 0, 0, 0) := by decide +kernel
theorem s_282_38 {x0 x1 x2 x3 x4 : Option Value} {x : Int64} : mw d 282 Q 38 [x0, x1, x2, x3, x4] ([.long x]) h = Q (some (.long x)) h := (mw_at mj_282_38).trans (z_lret)
theorem e_282 {a0 : Nat} {a1 : Int32} {a2 : Int32} : mcall d 282 [.ref a0, .int a1, .int a2] h Q = mw d 282 Q 0 [some (.ref a0), some (.int a1), some (.int a2), none, none] [] h := by
  show mw d 282 Q 0 (me_en (mc_nl 282) _) [] h = _
  rw [nl_282]; rfl

/-! InvariantDeskModel$Known.leastOf(I)J -/
theorem mj_283_0 : mc_P 283 0 = some (.aload_n 0, 1, 0, 0, 0) := by decide +kernel
theorem s_283_0 {x1 : Option Value} {w : Value} : mw d 283 Q 0 [some w, x1] (st) h = mv_a w (mw d 283 Q 1 [some w, x1] (w :: st) h) := (mw_at mj_283_0).trans (z_aload_n rfl)
theorem mj_283_1 : mc_P 283 1 = some (.iconst 2, 1, 0, 0, 0) := by decide +kernel
theorem s_283_1 {x0 x1 : Option Value} : mw d 283 Q 1 [x0, x1] (st) h = mw d 283 Q 2 [x0, x1] (.int 2 :: st) h := (mw_at mj_283_1).trans (z_iconst (by decide))
theorem mj_283_2 : mc_P 283 2 = some (.iload_n 1, 1, 0, 0, 0) := by decide +kernel
theorem s_283_2 {x0 : Option Value} {w : Value} : mw d 283 Q 2 [x0, some w] (st) h = mv_i w (mw d 283 Q 3 [x0, some w] (w :: st) h) := (mw_at mj_283_2).trans (z_iload_n rfl)
theorem mj_283_3 : mc_P 283 3 = some (.imul, 1, 0, 0, 0) := by decide +kernel
theorem s_283_3 {x0 x1 : Option Value} {x w : Int32} : mw d 283 Q 3 [x0, x1] (.int w :: .int x :: st) h = mw d 283 Q 4 [x0, x1] (.int (x * w) :: st) h := (mw_at mj_283_3).trans (z_imul)
theorem mj_283_4 : mc_P 283 4 = some (.iconst 1, 1, 0, 0, 0) := by decide +kernel
theorem s_283_4 {x0 x1 : Option Value} : mw d 283 Q 4 [x0, x1] (st) h = mw d 283 Q 5 [x0, x1] (.int 1 :: st) h := (mw_at mj_283_4).trans (z_iconst (by decide))
theorem mj_283_5 : mc_P 283 5 = some (.iadd, 1, 0, 0, 0) := by decide +kernel
theorem s_283_5 {x0 x1 : Option Value} {x w : Int32} : mw d 283 Q 5 [x0, x1] (.int w :: .int x :: st) h = mw d 283 Q 6 [x0, x1] (.int (x + w) :: st) h := (mw_at mj_283_5).trans (z_iadd)
theorem mj_283_6 : mc_P 283 6 = some (.iconst 2, 1, 0, 0, 0) := by decide +kernel
theorem s_283_6 {x0 x1 : Option Value} : mw d 283 Q 6 [x0, x1] (st) h = mw d 283 Q 7 [x0, x1] (.int 2 :: st) h := (mw_at mj_283_6).trans (z_iconst (by decide))
theorem mj_283_7 : mc_P 283 7 = some (.iload_n 1, 1, 0, 0, 0) := by decide +kernel
theorem s_283_7 {x0 : Option Value} {w : Value} : mw d 283 Q 7 [x0, some w] (st) h = mv_i w (mw d 283 Q 8 [x0, some w] (w :: st) h) := (mw_at mj_283_7).trans (z_iload_n rfl)
theorem mj_283_8 : mc_P 283 8 = some (.imul, 1, 0, 0, 0) := by decide +kernel
theorem s_283_8 {x0 x1 : Option Value} {x w : Int32} : mw d 283 Q 8 [x0, x1] (.int w :: .int x :: st) h = mw d 283 Q 9 [x0, x1] (.int (x * w) :: st) h := (mw_at mj_283_8).trans (z_imul)
theorem mj_283_9 : mc_P 283 9 = some (.iconst 1, 1, 0, 0, 0) := by decide +kernel
theorem s_283_9 {x0 x1 : Option Value} : mw d 283 Q 9 [x0, x1] (st) h = mw d 283 Q 10 [x0, x1] (.int 1 :: st) h := (mw_at mj_283_9).trans (z_iconst (by decide))
theorem mj_283_10 : mc_P 283 10 = some (.iadd, 1, 0, 0, 0) := by decide +kernel
theorem s_283_10 {x0 x1 : Option Value} {x w : Int32} : mw d 283 Q 10 [x0, x1] (.int w :: .int x :: st) h = mw d 283 Q 11 [x0, x1] (.int (x + w) :: st) h := (mw_at mj_283_10).trans (z_iadd)
theorem mj_283_11 : mc_P 283 11 = some (.invokevirtual 54, 3, 282, 13, 3) := by decide +kernel
theorem s_283_11 {x0 x1 : Option Value} {o : Nat} {a1 a2 : Value} : mw (d + 1) 283 Q 11 [x0, x1] (a2 :: a1 :: .ref o :: st) h = (mg h o 13 ∧ mca st 8 ∧ mca [.ref o, a1, a2] 5 ∧ mcall d 282 [.ref o, a1, a2] h (mK (d + 1) 283 Q 14 [x0, x1] st)) := (mw_at mj_283_11).trans ((z_invv (As := [a1, a2]) (by decide) rfl rfl).trans (congrArg (And _) (congrArg (And _) (mC_nl nl_282))))
theorem mj_283_14 : mc_P 283 14 = some (.lneg, 1, 0, 0, 0) := by decide +kernel
theorem s_283_14 {x0 x1 : Option Value} {x : Int64} : mw d 283 Q 14 [x0, x1] (.long x :: st) h = mw d 283 Q 15 [x0, x1] (.long (-x) :: st) h := (mw_at mj_283_14).trans (z_lneg)
theorem mj_283_15 : mc_P 283 15 = some (.lreturn, 1, 0, 0, 0) := by decide +kernel
theorem s_283_15 {x0 x1 : Option Value} {x : Int64} : mw d 283 Q 15 [x0, x1] ([.long x]) h = Q (some (.long x)) h := (mw_at mj_283_15).trans (z_lret)
theorem e_283 {a0 : Nat} {a1 : Int32} : mcall d 283 [.ref a0, .int a1] h Q = mw d 283 Q 0 [some (.ref a0), some (.int a1)] [] h := by
  show mw d 283 Q 0 (me_en (mc_nl 283) _) [] h = _
  rw [nl_283]; rfl

/-! InvariantDeskModel$Known.mostOf(I)J -/
theorem mj_284_0 : mc_P 284 0 = some (.aload_n 0, 1, 0, 0, 0) := by decide +kernel
theorem s_284_0 {x1 : Option Value} {w : Value} : mw d 284 Q 0 [some w, x1] (st) h = mv_a w (mw d 284 Q 1 [some w, x1] (w :: st) h) := (mw_at mj_284_0).trans (z_aload_n rfl)
theorem mj_284_1 : mc_P 284 1 = some (.iconst 2, 1, 0, 0, 0) := by decide +kernel
theorem s_284_1 {x0 x1 : Option Value} : mw d 284 Q 1 [x0, x1] (st) h = mw d 284 Q 2 [x0, x1] (.int 2 :: st) h := (mw_at mj_284_1).trans (z_iconst (by decide))
theorem mj_284_2 : mc_P 284 2 = some (.iload_n 1, 1, 0, 0, 0) := by decide +kernel
theorem s_284_2 {x0 : Option Value} {w : Value} : mw d 284 Q 2 [x0, some w] (st) h = mv_i w (mw d 284 Q 3 [x0, some w] (w :: st) h) := (mw_at mj_284_2).trans (z_iload_n rfl)
theorem mj_284_3 : mc_P 284 3 = some (.imul, 1, 0, 0, 0) := by decide +kernel
theorem s_284_3 {x0 x1 : Option Value} {x w : Int32} : mw d 284 Q 3 [x0, x1] (.int w :: .int x :: st) h = mw d 284 Q 4 [x0, x1] (.int (x * w) :: st) h := (mw_at mj_284_3).trans (z_imul)
theorem mj_284_4 : mc_P 284 4 = some (.iconst 2, 1, 0, 0, 0) := by decide +kernel
theorem s_284_4 {x0 x1 : Option Value} : mw d 284 Q 4 [x0, x1] (st) h = mw d 284 Q 5 [x0, x1] (.int 2 :: st) h := (mw_at mj_284_4).trans (z_iconst (by decide))
theorem mj_284_5 : mc_P 284 5 = some (.iload_n 1, 1, 0, 0, 0) := by decide +kernel
theorem s_284_5 {x0 : Option Value} {w : Value} : mw d 284 Q 5 [x0, some w] (st) h = mv_i w (mw d 284 Q 6 [x0, some w] (w :: st) h) := (mw_at mj_284_5).trans (z_iload_n rfl)
theorem mj_284_6 : mc_P 284 6 = some (.imul, 1, 0, 0, 0) := by decide +kernel
theorem s_284_6 {x0 x1 : Option Value} {x w : Int32} : mw d 284 Q 6 [x0, x1] (.int w :: .int x :: st) h = mw d 284 Q 7 [x0, x1] (.int (x * w) :: st) h := (mw_at mj_284_6).trans (z_imul)
theorem mj_284_7 : mc_P 284 7 = some (.invokevirtual 54, 3, 282, 13, 3) := by decide +kernel
theorem s_284_7 {x0 x1 : Option Value} {o : Nat} {a1 a2 : Value} : mw (d + 1) 284 Q 7 [x0, x1] (a2 :: a1 :: .ref o :: st) h = (mg h o 13 ∧ mca st 8 ∧ mca [.ref o, a1, a2] 5 ∧ mcall d 282 [.ref o, a1, a2] h (mK (d + 1) 284 Q 10 [x0, x1] st)) := (mw_at mj_284_7).trans ((z_invv (As := [a1, a2]) (by decide) rfl rfl).trans (congrArg (And _) (congrArg (And _) (mC_nl nl_282))))
theorem mj_284_10 : mc_P 284 10 = some (.lreturn, 1, 0, 0, 0) := by decide +kernel
theorem s_284_10 {x0 x1 : Option Value} {x : Int64} : mw d 284 Q 10 [x0, x1] ([.long x]) h = Q (some (.long x)) h := (mw_at mj_284_10).trans (z_lret)
theorem e_284 {a0 : Nat} {a1 : Int32} : mcall d 284 [.ref a0, .int a1] h Q = mw d 284 Q 0 [some (.ref a0), some (.int a1)] [] h := by
  show mw d 284 Q 0 (me_en (mc_nl 284) _) [] h = _
  rw [nl_284]; rfl

/-! InvariantDeskModel$Known.limit(IIJ)V -/
theorem mj_285_0 : mc_P 285 0 = some (.iload_n 1, 1, 0, 0, 0) := by decide +kernel
theorem s_285_0 {x0 x2 x3 x4 x5 x6 : Option Value} {w : Value} : mw d 285 Q 0 [x0, some w, x2, x3, x4, x5, x6] (st) h = mv_i w (mw d 285 Q 1 [x0, some w, x2, x3, x4, x5, x6] (w :: st) h) := (mw_at mj_285_0).trans (z_iload_n rfl)
theorem mj_285_1 : mc_P 285 1 = some (.iload_n 2, 1, 0, 0, 0) := by decide +kernel
theorem s_285_1 {x0 x1 x3 x4 x5 x6 : Option Value} {w : Value} : mw d 285 Q 1 [x0, x1, some w, x3, x4, x5, x6] (st) h = mv_i w (mw d 285 Q 2 [x0, x1, some w, x3, x4, x5, x6] (w :: st) h) := (mw_at mj_285_1).trans (z_iload_n rfl)
theorem mj_285_2 : mc_P 285 2 = some (.if_icmp .ne 11, 3, 0, 0, 0) := by decide +kernel
theorem s_285_2 {x0 x1 x2 x3 x4 x5 x6 : Option Value} {x w : Int32} : mw d 285 Q 2 [x0, x1, x2, x3, x4, x5, x6] (.int w :: .int x :: st) h = mB (¬ x = w) (mw d 285 Q) 13 5 [x0, x1, x2, x3, x4, x5, x6] st h := (mw_at mj_285_2).trans (z_icmp_ne (by decide) rfl)
theorem mj_285_5 : mc_P 285 5 = some (.ldc2_w 52, 3, 0, 0, 2) := by decide +kernel
theorem s_285_5 {x0 x1 x2 x3 x4 x5 x6 : Option Value} : mw d 285 Q 5 [x0, x1, x2, x3, x4, x5, x6] (st) h = mw d 285 Q 8 [x0, x1, x2, x3, x4, x5, x6] (.long 2 :: st) h := (mw_at mj_285_5).trans (z_ldc2 (by decide))
theorem mj_285_8 : mc_P 285 8 = some (.lload_n 3, 1, 0, 0, 0) := by decide +kernel
theorem s_285_8 {x0 x1 x2 x4 x5 x6 : Option Value} {w : Value} : mw d 285 Q 8 [x0, x1, x2, some w, x4, x5, x6] (st) h = mv_l w (mw d 285 Q 9 [x0, x1, x2, some w, x4, x5, x6] (w :: st) h) := (mw_at mj_285_8).trans (z_lload_n rfl)
theorem mj_285_9 : mc_P 285 9 = some (.lmul, 1, 0, 0, 0) := by decide +kernel
theorem s_285_9 {x0 x1 x2 x3 x4 x5 x6 : Option Value} {x w : Int64} : mw d 285 Q 9 [x0, x1, x2, x3, x4, x5, x6] (.long w :: .long x :: st) h = mw d 285 Q 10 [x0, x1, x2, x3, x4, x5, x6] (.long (x * w) :: st) h := (mw_at mj_285_9).trans (z_lmul)
theorem mj_285_10 : mc_P 285 10 = some (.goto 4, 3, 0, 0, 0) := by decide +kernel
theorem s_285_10 {x0 x1 x2 x3 x4 x5 x6 : Option Value} : mw d 285 Q 10 [x0, x1, x2, x3, x4, x5, x6] (st) h = mw d 285 Q 14 [x0, x1, x2, x3, x4, x5, x6] (st) h := (mw_at mj_285_10).trans (z_goto (by decide))
theorem mj_285_13 : mc_P 285 13 = some (.lload_n 3, 1, 0, 0, 0) := by decide +kernel
theorem s_285_13 {x0 x1 x2 x4 x5 x6 : Option Value} {w : Value} : mw d 285 Q 13 [x0, x1, x2, some w, x4, x5, x6] (st) h = mv_l w (mw d 285 Q 14 [x0, x1, x2, some w, x4, x5, x6] (w :: st) h) := (mw_at mj_285_13).trans (z_lload_n rfl)
theorem mj_285_14 : mc_P 285 14 = some (.lstore 5, 2, 0, 0, 0) := by decide +kernel
theorem s_285_14 {x0 x1 x2 x3 x4 x5 x6 : Option Value} {w : Int64} : mw d 285 Q 14 [x0, x1, x2, x3, x4, x5, x6] (.long w :: st) h = mw d 285 Q 16 [x0, x1, x2, x3, mk2 x4, some (.long w), none] (st) h := (mw_at mj_285_14).trans (z_lstore (Nat.le_of_ble_eq_true rfl) (me_s2_mk (j := 4) (w := x4) rfl))
theorem mj_285_16 : mc_P 285 16 = some (.aload_n 0, 1, 0, 0, 0) := by decide +kernel
theorem s_285_16 {x1 x2 x3 x4 x5 x6 : Option Value} {w : Value} : mw d 285 Q 16 [some w, x1, x2, x3, x4, x5, x6] (st) h = mv_a w (mw d 285 Q 17 [some w, x1, x2, x3, x4, x5, x6] (w :: st) h) := (mw_at mj_285_16).trans (z_aload_n rfl)
theorem mj_285_17 : mc_P 285 17 = some (.getfield 9, 3, 13, 3, 0) := by decide +kernel
theorem s_285_17 {x0 x1 x2 x3 x4 x5 x6 : Option Value} {o : Nat} : mw d 285 Q 17 [x0, x1, x2, x3, x4, x5, x6] (.ref o :: st) h = (mg h o 13 ∧ mw d 285 Q 20 [x0, x1, x2, x3, x4, x5, x6] (va_rf (mh_r h o 3) :: st) h) := (mw_at mj_285_17).trans (z_getr (by decide) (by decide) rfl)
theorem mj_285_20 : mc_P 285 20 = some (.bipush 24, 2, 0, 0, 0) := by decide +kernel
theorem s_285_20 {x0 x1 x2 x3 x4 x5 x6 : Option Value} : mw d 285 Q 20 [x0, x1, x2, x3, x4, x5, x6] (st) h = mw d 285 Q 22 [x0, x1, x2, x3, x4, x5, x6] (.int 24 :: st) h := (mw_at mj_285_20).trans (z_bipush (by decide))
theorem mj_285_22 : mc_P 285 22 = some (.iload_n 1, 1, 0, 0, 0) := by decide +kernel
theorem s_285_22 {x0 x2 x3 x4 x5 x6 : Option Value} {w : Value} : mw d 285 Q 22 [x0, some w, x2, x3, x4, x5, x6] (st) h = mv_i w (mw d 285 Q 23 [x0, some w, x2, x3, x4, x5, x6] (w :: st) h) := (mw_at mj_285_22).trans (z_iload_n rfl)
theorem mj_285_23 : mc_P 285 23 = some (.imul, 1, 0, 0, 0) := by decide +kernel
theorem s_285_23 {x0 x1 x2 x3 x4 x5 x6 : Option Value} {x w : Int32} : mw d 285 Q 23 [x0, x1, x2, x3, x4, x5, x6] (.int w :: .int x :: st) h = mw d 285 Q 24 [x0, x1, x2, x3, x4, x5, x6] (.int (x * w) :: st) h := (mw_at mj_285_23).trans (z_imul)
theorem mj_285_24 : mc_P 285 24 = some (.iload_n 2, 1, 0, 0, 0) := by decide +kernel
theorem s_285_24 {x0 x1 x3 x4 x5 x6 : Option Value} {w : Value} : mw d 285 Q 24 [x0, x1, some w, x3, x4, x5, x6] (st) h = mv_i w (mw d 285 Q 25 [x0, x1, some w, x3, x4, x5, x6] (w :: st) h) := (mw_at mj_285_24).trans (z_iload_n rfl)
theorem mj_285_25 : mc_P 285 25 = some (.iadd, 1, 0, 0, 0) := by decide +kernel
theorem s_285_25 {x0 x1 x2 x3 x4 x5 x6 : Option Value} {x w : Int32} : mw d 285 Q 25 [x0, x1, x2, x3, x4, x5, x6] (.int w :: .int x :: st) h = mw d 285 Q 26 [x0, x1, x2, x3, x4, x5, x6] (.int (x + w) :: st) h := (mw_at mj_285_25).trans (z_iadd)
theorem mj_285_26 : mc_P 285 26 = some (.aload_n 0, 1, 0, 0, 0) := by decide +kernel
theorem s_285_26 {x1 x2 x3 x4 x5 x6 : Option Value} {w : Value} : mw d 285 Q 26 [some w, x1, x2, x3, x4, x5, x6] (st) h = mv_a w (mw d 285 Q 27 [some w, x1, x2, x3, x4, x5, x6] (w :: st) h) := (mw_at mj_285_26).trans (z_aload_n rfl)
theorem mj_285_27 : mc_P 285 27 = some (.getfield 9, 3, 13, 3, 0) := by decide +kernel
theorem s_285_27 {x0 x1 x2 x3 x4 x5 x6 : Option Value} {o : Nat} : mw d 285 Q 27 [x0, x1, x2, x3, x4, x5, x6] (.ref o :: st) h = (mg h o 13 ∧ mw d 285 Q 30 [x0, x1, x2, x3, x4, x5, x6] (va_rf (mh_r h o 3) :: st) h) := (mw_at mj_285_27).trans (z_getr (by decide) (by decide) rfl)
theorem mj_285_30 : mc_P 285 30 = some (.bipush 24, 2, 0, 0, 0) := by decide +kernel
theorem s_285_30 {x0 x1 x2 x3 x4 x5 x6 : Option Value} : mw d 285 Q 30 [x0, x1, x2, x3, x4, x5, x6] (st) h = mw d 285 Q 32 [x0, x1, x2, x3, x4, x5, x6] (.int 24 :: st) h := (mw_at mj_285_30).trans (z_bipush (by decide))
theorem mj_285_32 : mc_P 285 32 = some (.iload_n 1, 1, 0, 0, 0) := by decide +kernel
theorem s_285_32 {x0 x2 x3 x4 x5 x6 : Option Value} {w : Value} : mw d 285 Q 32 [x0, some w, x2, x3, x4, x5, x6] (st) h = mv_i w (mw d 285 Q 33 [x0, some w, x2, x3, x4, x5, x6] (w :: st) h) := (mw_at mj_285_32).trans (z_iload_n rfl)
theorem mj_285_33 : mc_P 285 33 = some (.imul, 1, 0, 0, 0) := by decide +kernel
theorem s_285_33 {x0 x1 x2 x3 x4 x5 x6 : Option Value} {x w : Int32} : mw d 285 Q 33 [x0, x1, x2, x3, x4, x5, x6] (.int w :: .int x :: st) h = mw d 285 Q 34 [x0, x1, x2, x3, x4, x5, x6] (.int (x * w) :: st) h := (mw_at mj_285_33).trans (z_imul)
theorem mj_285_34 : mc_P 285 34 = some (.iload_n 2, 1, 0, 0, 0) := by decide +kernel
theorem s_285_34 {x0 x1 x3 x4 x5 x6 : Option Value} {w : Value} : mw d 285 Q 34 [x0, x1, some w, x3, x4, x5, x6] (st) h = mv_i w (mw d 285 Q 35 [x0, x1, some w, x3, x4, x5, x6] (w :: st) h) := (mw_at mj_285_34).trans (z_iload_n rfl)
theorem mj_285_35 : mc_P 285 35 = some (.iadd, 1, 0, 0, 0) := by decide +kernel
theorem s_285_35 {x0 x1 x2 x3 x4 x5 x6 : Option Value} {x w : Int32} : mw d 285 Q 35 [x0, x1, x2, x3, x4, x5, x6] (.int w :: .int x :: st) h = mw d 285 Q 36 [x0, x1, x2, x3, x4, x5, x6] (.int (x + w) :: st) h := (mw_at mj_285_35).trans (z_iadd)
theorem mj_285_36 : mc_P 285 36 = some (.laload, 1, 0, 0, 0) := by decide +kernel
theorem s_285_36 {x0 x1 x2 x3 x4 x5 x6 : Option Value} {o : Nat} {i : Int32} : mw d 285 Q 36 [x0, x1, x2, x3, x4, x5, x6] (.int i :: .ref o :: st) h = (mg h o 101 ∧ mx i (mh_l h o) ∧ mw d 285 Q 37 [x0, x1, x2, x3, x4, x5, x6] (.long (mh_j h o i.toNatClampNeg) :: st) h) := (mw_at mj_285_36).trans (z_lald)
theorem mj_285_37 : mc_P 285 37 = some (.lload 5, 2, 0, 0, 0) := by decide +kernel
theorem s_285_37 {x0 x1 x2 x3 x4 x6 : Option Value} {w : Value} : mw d 285 Q 37 [x0, x1, x2, x3, x4, some w, x6] (st) h = mv_l w (mw d 285 Q 39 [x0, x1, x2, x3, x4, some w, x6] (w :: st) h) := (mw_at mj_285_37).trans (z_lload rfl)
theorem mj_285_39 : mc_P 285 39 = some (.invokestatic 58, 3, 0, 22, 0) := by decide +kernel
theorem s_285_39 {x0 x1 x2 x3 x4 x5 x6 : Option Value} {x w : Int64} : mw d 285 Q 39 [x0, x1, x2, x3, x4, x5, x6] (.long w :: .long x :: st) h = (mca st 8 ∧ mw d 285 Q 42 [x0, x1, x2, x3, x4, x5, x6] (.long (if w < x then w else x) :: st) h) := (mw_at mj_285_39).trans (z_lmin)
theorem mj_285_42 : mc_P 285 42 = some (.lastore, 1, 0, 0, 0) := by decide +kernel
theorem s_285_42 {x0 x1 x2 x3 x4 x5 x6 : Option Value} {o : Nat} {i : Int32} {w : Int64} : mw d 285 Q 42 [x0, x1, x2, x3, x4, x5, x6] (.long w :: .int i :: .ref o :: st) h = (mg h o 101 ∧ mx i (mh_l h o) ∧ mw d 285 Q 43 [x0, x1, x2, x3, x4, x5, x6] (st) (mh_sj h o i.toNatClampNeg w)) := (mw_at mj_285_42).trans (z_last)
theorem mj_285_43 : mc_P 285 43 = some (.aload_n 0, 1, 0, 0, 0) := by decide +kernel
theorem s_285_43 {x1 x2 x3 x4 x5 x6 : Option Value} {w : Value} : mw d 285 Q 43 [some w, x1, x2, x3, x4, x5, x6] (st) h = mv_a w (mw d 285 Q 44 [some w, x1, x2, x3, x4, x5, x6] (w :: st) h) := (mw_at mj_285_43).trans (z_aload_n rfl)
theorem mj_285_44 : mc_P 285 44 = some (.getfield 9, 3, 13, 3, 0) := by decide +kernel
theorem s_285_44 {x0 x1 x2 x3 x4 x5 x6 : Option Value} {o : Nat} : mw d 285 Q 44 [x0, x1, x2, x3, x4, x5, x6] (.ref o :: st) h = (mg h o 13 ∧ mw d 285 Q 47 [x0, x1, x2, x3, x4, x5, x6] (va_rf (mh_r h o 3) :: st) h) := (mw_at mj_285_44).trans (z_getr (by decide) (by decide) rfl)
theorem mj_285_47 : mc_P 285 47 = some (.bipush 24, 2, 0, 0, 0) := by decide +kernel
theorem s_285_47 {x0 x1 x2 x3 x4 x5 x6 : Option Value} : mw d 285 Q 47 [x0, x1, x2, x3, x4, x5, x6] (st) h = mw d 285 Q 49 [x0, x1, x2, x3, x4, x5, x6] (.int 24 :: st) h := (mw_at mj_285_47).trans (z_bipush (by decide))
theorem mj_285_49 : mc_P 285 49 = some (.iload_n 2, 1, 0, 0, 0) := by decide +kernel
theorem s_285_49 {x0 x1 x3 x4 x5 x6 : Option Value} {w : Value} : mw d 285 Q 49 [x0, x1, some w, x3, x4, x5, x6] (st) h = mv_i w (mw d 285 Q 50 [x0, x1, some w, x3, x4, x5, x6] (w :: st) h) := (mw_at mj_285_49).trans (z_iload_n rfl)
theorem mj_285_50 : mc_P 285 50 = some (.imul, 1, 0, 0, 0) := by decide +kernel
theorem s_285_50 {x0 x1 x2 x3 x4 x5 x6 : Option Value} {x w : Int32} : mw d 285 Q 50 [x0, x1, x2, x3, x4, x5, x6] (.int w :: .int x :: st) h = mw d 285 Q 51 [x0, x1, x2, x3, x4, x5, x6] (.int (x * w) :: st) h := (mw_at mj_285_50).trans (z_imul)
theorem mj_285_51 : mc_P 285 51 = some (.iload_n 1, 1, 0, 0, 0) := by decide +kernel
theorem s_285_51 {x0 x2 x3 x4 x5 x6 : Option Value} {w : Value} : mw d 285 Q 51 [x0, some w, x2, x3, x4, x5, x6] (st) h = mv_i w (mw d 285 Q 52 [x0, some w, x2, x3, x4, x5, x6] (w :: st) h) := (mw_at mj_285_51).trans (z_iload_n rfl)
theorem mj_285_52 : mc_P 285 52 = some (.iadd, 1, 0, 0, 0) := by decide +kernel
theorem s_285_52 {x0 x1 x2 x3 x4 x5 x6 : Option Value} {x w : Int32} : mw d 285 Q 52 [x0, x1, x2, x3, x4, x5, x6] (.int w :: .int x :: st) h = mw d 285 Q 53 [x0, x1, x2, x3, x4, x5, x6] (.int (x + w) :: st) h := (mw_at mj_285_52).trans (z_iadd)
theorem mj_285_53 : mc_P 285 53 = some (.aload_n 0, 1, 0, 0, 0) := by decide +kernel
theorem s_285_53 {x1 x2 x3 x4 x5 x6 : Option Value} {w : Value} : mw d 285 Q 53 [some w, x1, x2, x3, x4, x5, x6] (st) h = mv_a w (mw d 285 Q 54 [some w, x1, x2, x3, x4, x5, x6] (w :: st) h) := (mw_at mj_285_53).trans (z_aload_n rfl)
theorem mj_285_54 : mc_P 285 54 = some (.getfield 9, 3, 13, 3, 0) := by decide +kernel
theorem s_285_54 {x0 x1 x2 x3 x4 x5 x6 : Option Value} {o : Nat} : mw d 285 Q 54 [x0, x1, x2, x3, x4, x5, x6] (.ref o :: st) h = (mg h o 13 ∧ mw d 285 Q 57 [x0, x1, x2, x3, x4, x5, x6] (va_rf (mh_r h o 3) :: st) h) := (mw_at mj_285_54).trans (z_getr (by decide) (by decide) rfl)
theorem mj_285_57 : mc_P 285 57 = some (.bipush 24, 2, 0, 0, 0) := by decide +kernel
theorem s_285_57 {x0 x1 x2 x3 x4 x5 x6 : Option Value} : mw d 285 Q 57 [x0, x1, x2, x3, x4, x5, x6] (st) h = mw d 285 Q 59 [x0, x1, x2, x3, x4, x5, x6] (.int 24 :: st) h := (mw_at mj_285_57).trans (z_bipush (by decide))
theorem mj_285_59 : mc_P 285 59 = some (.iload_n 1, 1, 0, 0, 0) := by decide +kernel
theorem s_285_59 {x0 x2 x3 x4 x5 x6 : Option Value} {w : Value} : mw d 285 Q 59 [x0, some w, x2, x3, x4, x5, x6] (st) h = mv_i w (mw d 285 Q 60 [x0, some w, x2, x3, x4, x5, x6] (w :: st) h) := (mw_at mj_285_59).trans (z_iload_n rfl)
theorem mj_285_60 : mc_P 285 60 = some (.imul, 1, 0, 0, 0) := by decide +kernel
theorem s_285_60 {x0 x1 x2 x3 x4 x5 x6 : Option Value} {x w : Int32} : mw d 285 Q 60 [x0, x1, x2, x3, x4, x5, x6] (.int w :: .int x :: st) h = mw d 285 Q 61 [x0, x1, x2, x3, x4, x5, x6] (.int (x * w) :: st) h := (mw_at mj_285_60).trans (z_imul)
theorem mj_285_61 : mc_P 285 61 = some (.iload_n 2, 1, 0, 0, 0) := by decide +kernel
theorem s_285_61 {x0 x1 x3 x4 x5 x6 : Option Value} {w : Value} : mw d 285 Q 61 [x0, x1, some w, x3, x4, x5, x6] (st) h = mv_i w (mw d 285 Q 62 [x0, x1, some w, x3, x4, x5, x6] (w :: st) h) := (mw_at mj_285_61).trans (z_iload_n rfl)
theorem mj_285_62 : mc_P 285 62 = some (.iadd, 1, 0, 0, 0) := by decide +kernel
theorem s_285_62 {x0 x1 x2 x3 x4 x5 x6 : Option Value} {x w : Int32} : mw d 285 Q 62 [x0, x1, x2, x3, x4, x5, x6] (.int w :: .int x :: st) h = mw d 285 Q 63 [x0, x1, x2, x3, x4, x5, x6] (.int (x + w) :: st) h := (mw_at mj_285_62).trans (z_iadd)
theorem mj_285_63 : mc_P 285 63 = some (.laload, 1, 0, 0, 0) := by decide +kernel
theorem s_285_63 {x0 x1 x2 x3 x4 x5 x6 : Option Value} {o : Nat} {i : Int32} : mw d 285 Q 63 [x0, x1, x2, x3, x4, x5, x6] (.int i :: .ref o :: st) h = (mg h o 101 ∧ mx i (mh_l h o) ∧ mw d 285 Q 64 [x0, x1, x2, x3, x4, x5, x6] (.long (mh_j h o i.toNatClampNeg) :: st) h) := (mw_at mj_285_63).trans (z_lald)
theorem mj_285_64 : mc_P 285 64 = some (.lastore, 1, 0, 0, 0) := by decide +kernel
theorem s_285_64 {x0 x1 x2 x3 x4 x5 x6 : Option Value} {o : Nat} {i : Int32} {w : Int64} : mw d 285 Q 64 [x0, x1, x2, x3, x4, x5, x6] (.long w :: .int i :: .ref o :: st) h = (mg h o 101 ∧ mx i (mh_l h o) ∧ mw d 285 Q 65 [x0, x1, x2, x3, x4, x5, x6] (st) (mh_sj h o i.toNatClampNeg w)) := (mw_at mj_285_64).trans (z_last)
theorem mj_285_65 : mc_P 285 65 = some (.return_, 1, 0, 0, 0) := by decide +kernel
theorem s_285_65 {x0 x1 x2 x3 x4 x5 x6 : Option Value} : mw d 285 Q 65 [x0, x1, x2, x3, x4, x5, x6] ([]) h = Q none h := (mw_at mj_285_65).trans (z_vret)
theorem e_285 {a0 : Nat} {a1 : Int32} {a2 : Int32} {a3 : Int64} : mcall d 285 [.ref a0, .int a1, .int a2, .long a3] h Q = mw d 285 Q 0 [some (.ref a0), some (.int a1), some (.int a2), some (.long a3), none, none, none] [] h := by
  show mw d 285 Q 0 (me_en (mc_nl 285) _) [] h = _
  rw [nl_285]; rfl

/-! InvariantDeskModel$Known.settle()V -/
theorem mj_286_0 : mc_P 286 0 = some (.iconst 2, 1, 0, 0, 0) := by decide +kernel
theorem s_286_0 {x0 x1 x2 x3 x4 x5 x6 x7 : Option Value} : mw d 286 Q 0 [x0, x1, x2, x3, x4, x5, x6, x7] (st) h = mw d 286 Q 1 [x0, x1, x2, x3, x4, x5, x6, x7] (.int 2 :: st) h := (mw_at mj_286_0).trans (z_iconst (by decide))
theorem mj_286_1 : mc_P 286 1 = some (.aload_n 0, 1, 0, 0, 0) := by decide +kernel
theorem s_286_1 {x1 x2 x3 x4 x5 x6 x7 : Option Value} {w : Value} : mw d 286 Q 1 [some w, x1, x2, x3, x4, x5, x6, x7] (st) h = mv_a w (mw d 286 Q 2 [some w, x1, x2, x3, x4, x5, x6, x7] (w :: st) h) := (mw_at mj_286_1).trans (z_aload_n rfl)
theorem mj_286_2 : mc_P 286 2 = some (.getfield 39, 3, 13, 1, 0) := by decide +kernel
theorem s_286_2 {x0 x1 x2 x3 x4 x5 x6 x7 : Option Value} {o : Nat} : mw d 286 Q 2 [x0, x1, x2, x3, x4, x5, x6, x7] (.ref o :: st) h = (mg h o 13 ∧ mw d 286 Q 5 [x0, x1, x2, x3, x4, x5, x6, x7] (.int (mh_i h o 1) :: st) h) := (mw_at mj_286_2).trans (z_geti (by decide) (by decide) (Or.inl rfl))
theorem mj_286_5 : mc_P 286 5 = some (.imul, 1, 0, 0, 0) := by decide +kernel
theorem s_286_5 {x0 x1 x2 x3 x4 x5 x6 x7 : Option Value} {x w : Int32} : mw d 286 Q 5 [x0, x1, x2, x3, x4, x5, x6, x7] (.int w :: .int x :: st) h = mw d 286 Q 6 [x0, x1, x2, x3, x4, x5, x6, x7] (.int (x * w) :: st) h := (mw_at mj_286_5).trans (z_imul)
theorem mj_286_6 : mc_P 286 6 = some (.istore_n 1, 1, 0, 0, 0) := by decide +kernel
theorem s_286_6 {x0 x1 x2 x3 x4 x5 x6 x7 : Option Value} {w : Int32} : mw d 286 Q 6 [x0, x1, x2, x3, x4, x5, x6, x7] (.int w :: st) h = mw d 286 Q 7 [mk2 x0, some (.int w), x2, x3, x4, x5, x6, x7] (st) h := (mw_at mj_286_6).trans (z_istore_n (Nat.le_of_ble_eq_true rfl) (me_s1_mk (j := 0) (w := x0) rfl))
theorem mj_286_7 : mc_P 286 7 = some (.aload_n 0, 1, 0, 0, 0) := by decide +kernel
theorem s_286_7 {x1 x2 x3 x4 x5 x6 x7 : Option Value} {w : Value} : mw d 286 Q 7 [some w, x1, x2, x3, x4, x5, x6, x7] (st) h = mv_a w (mw d 286 Q 8 [some w, x1, x2, x3, x4, x5, x6, x7] (w :: st) h) := (mw_at mj_286_7).trans (z_aload_n rfl)
theorem mj_286_8 : mc_P 286 8 = some (.getfield 35, 3, 13, 0, 0) := by decide +kernel
theorem s_286_8 {x0 x1 x2 x3 x4 x5 x6 x7 : Option Value} {o : Nat} : mw d 286 Q 8 [x0, x1, x2, x3, x4, x5, x6, x7] (.ref o :: st) h = (mg h o 13 ∧ mw d 286 Q 11 [x0, x1, x2, x3, x4, x5, x6, x7] (.int (mh_i h o 0) :: st) h) := (mw_at mj_286_8).trans (z_geti (by decide) (by decide) (Or.inr rfl))
theorem mj_286_11 : mc_P 286 11 = some (.ifCond .ne 7, 3, 0, 0, 0) := by decide +kernel
theorem s_286_11 {x0 x1 x2 x3 x4 x5 x6 x7 : Option Value} {x : Int32} : mw d 286 Q 11 [x0, x1, x2, x3, x4, x5, x6, x7] (.int x :: st) h = mB (¬ x = 0) (mw d 286 Q) 18 14 [x0, x1, x2, x3, x4, x5, x6, x7] st h := (mw_at mj_286_11).trans (z_if_ne (by decide) rfl)
theorem mj_286_14 : mc_P 286 14 = some (.iconst 1, 1, 0, 0, 0) := by decide +kernel
theorem s_286_14 {x0 x1 x2 x3 x4 x5 x6 x7 : Option Value} : mw d 286 Q 14 [x0, x1, x2, x3, x4, x5, x6, x7] (st) h = mw d 286 Q 15 [x0, x1, x2, x3, x4, x5, x6, x7] (.int 1 :: st) h := (mw_at mj_286_14).trans (z_iconst (by decide))
theorem mj_286_15 : mc_P 286 15 = some (.goto 4, 3, 0, 0, 0) := by decide +kernel
theorem s_286_15 {x0 x1 x2 x3 x4 x5 x6 x7 : Option Value} : mw d 286 Q 15 [x0, x1, x2, x3, x4, x5, x6, x7] (st) h = mw d 286 Q 19 [x0, x1, x2, x3, x4, x5, x6, x7] (st) h := (mw_at mj_286_15).trans (z_goto (by decide))
theorem mj_286_18 : mc_P 286 18 = some (.iconst 0, 1, 0, 0, 0) := by decide +kernel
theorem s_286_18 {x0 x1 x2 x3 x4 x5 x6 x7 : Option Value} : mw d 286 Q 18 [x0, x1, x2, x3, x4, x5, x6, x7] (st) h = mw d 286 Q 19 [x0, x1, x2, x3, x4, x5, x6, x7] (.int 0 :: st) h := (mw_at mj_286_18).trans (z_iconst (by decide))
theorem mj_286_19 : mc_P 286 19 = some (.istore_n 2, 1, 0, 0, 0) := by decide +kernel
theorem s_286_19 {x0 x1 x2 x3 x4 x5 x6 x7 : Option Value} {w : Int32} : mw d 286 Q 19 [x0, x1, x2, x3, x4, x5, x6, x7] (.int w :: st) h = mw d 286 Q 20 [x0, mk2 x1, some (.int w), x3, x4, x5, x6, x7] (st) h := (mw_at mj_286_19).trans (z_istore_n (Nat.le_of_ble_eq_true rfl) (me_s1_mk (j := 1) (w := x1) rfl))
theorem mj_286_20 : mc_P 286 20 = some (.iload_n 2, 1, 0, 0, 0) := by decide +kernel
theorem s_286_20 {x0 x1 x3 x4 x5 x6 x7 : Option Value} {w : Value} : mw d 286 Q 20 [x0, x1, some w, x3, x4, x5, x6, x7] (st) h = mv_i w (mw d 286 Q 21 [x0, x1, some w, x3, x4, x5, x6, x7] (w :: st) h) := (mw_at mj_286_20).trans (z_iload_n rfl)
theorem mj_286_21 : mc_P 286 21 = some (.ifCond .eq 244, 3, 0, 0, 0) := by decide +kernel
theorem s_286_21 {x0 x1 x2 x3 x4 x5 x6 x7 : Option Value} {x : Int32} : mw d 286 Q 21 [x0, x1, x2, x3, x4, x5, x6, x7] (.int x :: st) h = mB (x = 0) (mw d 286 Q) 265 24 [x0, x1, x2, x3, x4, x5, x6, x7] st h := (mw_at mj_286_21).trans (z_if_eq (by decide) rfl)
theorem mj_286_24 : mc_P 286 24 = some (.iconst 0, 1, 0, 0, 0) := by decide +kernel
theorem s_286_24 {x0 x1 x2 x3 x4 x5 x6 x7 : Option Value} : mw d 286 Q 24 [x0, x1, x2, x3, x4, x5, x6, x7] (st) h = mw d 286 Q 25 [x0, x1, x2, x3, x4, x5, x6, x7] (.int 0 :: st) h := (mw_at mj_286_24).trans (z_iconst (by decide))
theorem mj_286_25 : mc_P 286 25 = some (.istore_n 2, 1, 0, 0, 0) := by decide +kernel
theorem s_286_25 {x0 x1 x2 x3 x4 x5 x6 x7 : Option Value} {w : Int32} : mw d 286 Q 25 [x0, x1, x2, x3, x4, x5, x6, x7] (.int w :: st) h = mw d 286 Q 26 [x0, mk2 x1, some (.int w), x3, x4, x5, x6, x7] (st) h := (mw_at mj_286_25).trans (z_istore_n (Nat.le_of_ble_eq_true rfl) (me_s1_mk (j := 1) (w := x1) rfl))
theorem mj_286_26 : mc_P 286 26 = some (.iconst 0, 1, 0, 0, 0) := by decide +kernel
theorem s_286_26 {x0 x1 x2 x3 x4 x5 x6 x7 : Option Value} : mw d 286 Q 26 [x0, x1, x2, x3, x4, x5, x6, x7] (st) h = mw d 286 Q 27 [x0, x1, x2, x3, x4, x5, x6, x7] (.int 0 :: st) h := (mw_at mj_286_26).trans (z_iconst (by decide))
theorem mj_286_27 : mc_P 286 27 = some (.istore_n 3, 1, 0, 0, 0) := by decide +kernel
theorem s_286_27 {x0 x1 x2 x3 x4 x5 x6 x7 : Option Value} {w : Int32} : mw d 286 Q 27 [x0, x1, x2, x3, x4, x5, x6, x7] (.int w :: st) h = mw d 286 Q 28 [x0, x1, mk2 x2, some (.int w), x4, x5, x6, x7] (st) h := (mw_at mj_286_27).trans (z_istore_n (Nat.le_of_ble_eq_true rfl) (me_s1_mk (j := 2) (w := x2) rfl))
theorem mj_286_28 : mc_P 286 28 = some (.iload_n 3, 1, 0, 0, 0) := by decide +kernel
theorem s_286_28 {x0 x1 x2 x4 x5 x6 x7 : Option Value} {w : Value} : mw d 286 Q 28 [x0, x1, x2, some w, x4, x5, x6, x7] (st) h = mv_i w (mw d 286 Q 29 [x0, x1, x2, some w, x4, x5, x6, x7] (w :: st) h) := (mw_at mj_286_28).trans (z_iload_n rfl)
theorem mj_286_29 : mc_P 286 29 = some (.iload_n 1, 1, 0, 0, 0) := by decide +kernel
theorem s_286_29 {x0 x2 x3 x4 x5 x6 x7 : Option Value} {w : Value} : mw d 286 Q 29 [x0, some w, x2, x3, x4, x5, x6, x7] (st) h = mv_i w (mw d 286 Q 30 [x0, some w, x2, x3, x4, x5, x6, x7] (w :: st) h) := (mw_at mj_286_29).trans (z_iload_n rfl)
theorem mj_286_30 : mc_P 286 30 = some (.if_icmp .ge 232, 3, 0, 0, 0) := by decide +kernel
theorem s_286_30 {x0 x1 x2 x3 x4 x5 x6 x7 : Option Value} {x w : Int32} : mw d 286 Q 30 [x0, x1, x2, x3, x4, x5, x6, x7] (.int w :: .int x :: st) h = mB (w ≤ x) (mw d 286 Q) 262 33 [x0, x1, x2, x3, x4, x5, x6, x7] st h := (mw_at mj_286_30).trans (z_icmp_ge (by decide) rfl)
theorem mj_286_33 : mc_P 286 33 = some (.iconst 0, 1, 0, 0, 0) := by decide +kernel
theorem s_286_33 {x0 x1 x2 x3 x4 x5 x6 x7 : Option Value} : mw d 286 Q 33 [x0, x1, x2, x3, x4, x5, x6, x7] (st) h = mw d 286 Q 34 [x0, x1, x2, x3, x4, x5, x6, x7] (.int 0 :: st) h := (mw_at mj_286_33).trans (z_iconst (by decide))
theorem mj_286_34 : mc_P 286 34 = some (.istore 4, 2, 0, 0, 0) := by decide +kernel
theorem s_286_34 {x0 x1 x2 x3 x4 x5 x6 x7 : Option Value} {w : Int32} : mw d 286 Q 34 [x0, x1, x2, x3, x4, x5, x6, x7] (.int w :: st) h = mw d 286 Q 36 [x0, x1, x2, mk2 x3, some (.int w), x5, x6, x7] (st) h := (mw_at mj_286_34).trans (z_istore (Nat.le_of_ble_eq_true rfl) (me_s1_mk (j := 3) (w := x3) rfl))
theorem mj_286_36 : mc_P 286 36 = some (.iload 4, 2, 0, 0, 0) := by decide +kernel
theorem s_286_36 {x0 x1 x2 x3 x5 x6 x7 : Option Value} {w : Value} : mw d 286 Q 36 [x0, x1, x2, x3, some w, x5, x6, x7] (st) h = mv_i w (mw d 286 Q 38 [x0, x1, x2, x3, some w, x5, x6, x7] (w :: st) h) := (mw_at mj_286_36).trans (z_iload rfl)
theorem mj_286_38 : mc_P 286 38 = some (.iload_n 1, 1, 0, 0, 0) := by decide +kernel
theorem s_286_38 {x0 x2 x3 x4 x5 x6 x7 : Option Value} {w : Value} : mw d 286 Q 38 [x0, some w, x2, x3, x4, x5, x6, x7] (st) h = mv_i w (mw d 286 Q 39 [x0, some w, x2, x3, x4, x5, x6, x7] (w :: st) h) := (mw_at mj_286_38).trans (z_iload_n rfl)
theorem mj_286_39 : mc_P 286 39 = some (.if_icmp .ge 192, 3, 0, 0, 0) := by decide +kernel
theorem s_286_39 {x0 x1 x2 x3 x4 x5 x6 x7 : Option Value} {x w : Int32} : mw d 286 Q 39 [x0, x1, x2, x3, x4, x5, x6, x7] (.int w :: .int x :: st) h = mB (w ≤ x) (mw d 286 Q) 231 42 [x0, x1, x2, x3, x4, x5, x6, x7] st h := (mw_at mj_286_39).trans (z_icmp_ge (by decide) rfl)
theorem mj_286_42 : mc_P 286 42 = some (.aload_n 0, 1, 0, 0, 0) := by decide +kernel
theorem s_286_42 {x1 x2 x3 x4 x5 x6 x7 : Option Value} {w : Value} : mw d 286 Q 42 [some w, x1, x2, x3, x4, x5, x6, x7] (st) h = mv_a w (mw d 286 Q 43 [some w, x1, x2, x3, x4, x5, x6, x7] (w :: st) h) := (mw_at mj_286_42).trans (z_aload_n rfl)
theorem mj_286_43 : mc_P 286 43 = some (.getfield 9, 3, 13, 3, 0) := by decide +kernel
theorem s_286_43 {x0 x1 x2 x3 x4 x5 x6 x7 : Option Value} {o : Nat} : mw d 286 Q 43 [x0, x1, x2, x3, x4, x5, x6, x7] (.ref o :: st) h = (mg h o 13 ∧ mw d 286 Q 46 [x0, x1, x2, x3, x4, x5, x6, x7] (va_rf (mh_r h o 3) :: st) h) := (mw_at mj_286_43).trans (z_getr (by decide) (by decide) rfl)
theorem mj_286_46 : mc_P 286 46 = some (.bipush 24, 2, 0, 0, 0) := by decide +kernel
theorem s_286_46 {x0 x1 x2 x3 x4 x5 x6 x7 : Option Value} : mw d 286 Q 46 [x0, x1, x2, x3, x4, x5, x6, x7] (st) h = mw d 286 Q 48 [x0, x1, x2, x3, x4, x5, x6, x7] (.int 24 :: st) h := (mw_at mj_286_46).trans (z_bipush (by decide))
theorem mj_286_48 : mc_P 286 48 = some (.iload_n 3, 1, 0, 0, 0) := by decide +kernel
theorem s_286_48 {x0 x1 x2 x4 x5 x6 x7 : Option Value} {w : Value} : mw d 286 Q 48 [x0, x1, x2, some w, x4, x5, x6, x7] (st) h = mv_i w (mw d 286 Q 49 [x0, x1, x2, some w, x4, x5, x6, x7] (w :: st) h) := (mw_at mj_286_48).trans (z_iload_n rfl)
theorem mj_286_49 : mc_P 286 49 = some (.imul, 1, 0, 0, 0) := by decide +kernel
theorem s_286_49 {x0 x1 x2 x3 x4 x5 x6 x7 : Option Value} {x w : Int32} : mw d 286 Q 49 [x0, x1, x2, x3, x4, x5, x6, x7] (.int w :: .int x :: st) h = mw d 286 Q 50 [x0, x1, x2, x3, x4, x5, x6, x7] (.int (x * w) :: st) h := (mw_at mj_286_49).trans (z_imul)
theorem mj_286_50 : mc_P 286 50 = some (.iload 4, 2, 0, 0, 0) := by decide +kernel
theorem s_286_50 {x0 x1 x2 x3 x5 x6 x7 : Option Value} {w : Value} : mw d 286 Q 50 [x0, x1, x2, x3, some w, x5, x6, x7] (st) h = mv_i w (mw d 286 Q 52 [x0, x1, x2, x3, some w, x5, x6, x7] (w :: st) h) := (mw_at mj_286_50).trans (z_iload rfl)
theorem mj_286_52 : mc_P 286 52 = some (.iadd, 1, 0, 0, 0) := by decide +kernel
theorem s_286_52 {x0 x1 x2 x3 x4 x5 x6 x7 : Option Value} {x w : Int32} : mw d 286 Q 52 [x0, x1, x2, x3, x4, x5, x6, x7] (.int w :: .int x :: st) h = mw d 286 Q 53 [x0, x1, x2, x3, x4, x5, x6, x7] (.int (x + w) :: st) h := (mw_at mj_286_52).trans (z_iadd)
theorem mj_286_53 : mc_P 286 53 = some (.laload, 1, 0, 0, 0) := by decide +kernel
theorem s_286_53 {x0 x1 x2 x3 x4 x5 x6 x7 : Option Value} {o : Nat} {i : Int32} : mw d 286 Q 53 [x0, x1, x2, x3, x4, x5, x6, x7] (.int i :: .ref o :: st) h = (mg h o 101 ∧ mx i (mh_l h o) ∧ mw d 286 Q 54 [x0, x1, x2, x3, x4, x5, x6, x7] (.long (mh_j h o i.toNatClampNeg) :: st) h) := (mw_at mj_286_53).trans (z_lald)
theorem mj_286_54 : mc_P 286 54 = some (.aload_n 0, 1, 0, 0, 0) := by decide +kernel
theorem s_286_54 {x1 x2 x3 x4 x5 x6 x7 : Option Value} {w : Value} : mw d 286 Q 54 [some w, x1, x2, x3, x4, x5, x6, x7] (st) h = mv_a w (mw d 286 Q 55 [some w, x1, x2, x3, x4, x5, x6, x7] (w :: st) h) := (mw_at mj_286_54).trans (z_aload_n rfl)
theorem mj_286_55 : mc_P 286 55 = some (.getfield 9, 3, 13, 3, 0) := by decide +kernel
theorem s_286_55 {x0 x1 x2 x3 x4 x5 x6 x7 : Option Value} {o : Nat} : mw d 286 Q 55 [x0, x1, x2, x3, x4, x5, x6, x7] (.ref o :: st) h = (mg h o 13 ∧ mw d 286 Q 58 [x0, x1, x2, x3, x4, x5, x6, x7] (va_rf (mh_r h o 3) :: st) h) := (mw_at mj_286_55).trans (z_getr (by decide) (by decide) rfl)
theorem mj_286_58 : mc_P 286 58 = some (.bipush 24, 2, 0, 0, 0) := by decide +kernel
theorem s_286_58 {x0 x1 x2 x3 x4 x5 x6 x7 : Option Value} : mw d 286 Q 58 [x0, x1, x2, x3, x4, x5, x6, x7] (st) h = mw d 286 Q 60 [x0, x1, x2, x3, x4, x5, x6, x7] (.int 24 :: st) h := (mw_at mj_286_58).trans (z_bipush (by decide))
theorem mj_286_60 : mc_P 286 60 = some (.iload 4, 2, 0, 0, 0) := by decide +kernel
theorem s_286_60 {x0 x1 x2 x3 x5 x6 x7 : Option Value} {w : Value} : mw d 286 Q 60 [x0, x1, x2, x3, some w, x5, x6, x7] (st) h = mv_i w (mw d 286 Q 62 [x0, x1, x2, x3, some w, x5, x6, x7] (w :: st) h) := (mw_at mj_286_60).trans (z_iload rfl)
theorem mj_286_62 : mc_P 286 62 = some (.imul, 1, 0, 0, 0) := by decide +kernel
theorem s_286_62 {x0 x1 x2 x3 x4 x5 x6 x7 : Option Value} {x w : Int32} : mw d 286 Q 62 [x0, x1, x2, x3, x4, x5, x6, x7] (.int w :: .int x :: st) h = mw d 286 Q 63 [x0, x1, x2, x3, x4, x5, x6, x7] (.int (x * w) :: st) h := (mw_at mj_286_62).trans (z_imul)
theorem mj_286_63 : mc_P 286 63 = some (.iload_n 3, 1, 0, 0, 0) := by decide +kernel
theorem s_286_63 {x0 x1 x2 x4 x5 x6 x7 : Option Value} {w : Value} : mw d 286 Q 63 [x0, x1, x2, some w, x4, x5, x6, x7] (st) h = mv_i w (mw d 286 Q 64 [x0, x1, x2, some w, x4, x5, x6, x7] (w :: st) h) := (mw_at mj_286_63).trans (z_iload_n rfl)
theorem mj_286_64 : mc_P 286 64 = some (.iadd, 1, 0, 0, 0) := by decide +kernel
theorem s_286_64 {x0 x1 x2 x3 x4 x5 x6 x7 : Option Value} {x w : Int32} : mw d 286 Q 64 [x0, x1, x2, x3, x4, x5, x6, x7] (.int w :: .int x :: st) h = mw d 286 Q 65 [x0, x1, x2, x3, x4, x5, x6, x7] (.int (x + w) :: st) h := (mw_at mj_286_64).trans (z_iadd)
theorem mj_286_65 : mc_P 286 65 = some (.laload, 1, 0, 0, 0) := by decide +kernel
theorem s_286_65 {x0 x1 x2 x3 x4 x5 x6 x7 : Option Value} {o : Nat} {i : Int32} : mw d 286 Q 65 [x0, x1, x2, x3, x4, x5, x6, x7] (.int i :: .ref o :: st) h = (mg h o 101 ∧ mx i (mh_l h o) ∧ mw d 286 Q 66 [x0, x1, x2, x3, x4, x5, x6, x7] (.long (mh_j h o i.toNatClampNeg) :: st) h) := (mw_at mj_286_65).trans (z_lald)
theorem mj_286_66 : mc_P 286 66 = some (.invokestatic 58, 3, 0, 22, 0) := by decide +kernel
theorem s_286_66 {x0 x1 x2 x3 x4 x5 x6 x7 : Option Value} {x w : Int64} : mw d 286 Q 66 [x0, x1, x2, x3, x4, x5, x6, x7] (.long w :: .long x :: st) h = (mca st 8 ∧ mw d 286 Q 69 [x0, x1, x2, x3, x4, x5, x6, x7] (.long (if w < x then w else x) :: st) h) := (mw_at mj_286_66).trans (z_lmin)
theorem mj_286_69 : mc_P 286 69 = some (.lstore 5, 2, 0, 0, 0) := by decide +kernel
theorem s_286_69 {x0 x1 x2 x3 x4 x5 x6 x7 : Option Value} {w : Int64} : mw d 286 Q 69 [x0, x1, x2, x3, x4, x5, x6, x7] (.long w :: st) h = mw d 286 Q 71 [x0, x1, x2, x3, mk2 x4, some (.long w), none, x7] (st) h := (mw_at mj_286_69).trans (z_lstore (Nat.le_of_ble_eq_true rfl) (me_s2_mk (j := 4) (w := x4) rfl))
theorem mj_286_71 : mc_P 286 71 = some (.iconst 0, 1, 0, 0, 0) := by decide +kernel
theorem s_286_71 {x0 x1 x2 x3 x4 x5 x6 x7 : Option Value} : mw d 286 Q 71 [x0, x1, x2, x3, x4, x5, x6, x7] (st) h = mw d 286 Q 72 [x0, x1, x2, x3, x4, x5, x6, x7] (.int 0 :: st) h := (mw_at mj_286_71).trans (z_iconst (by decide))
theorem mj_286_72 : mc_P 286 72 = some (.istore 7, 2, 0, 0, 0) := by decide +kernel
theorem s_286_72 {x0 x1 x2 x3 x4 x5 x6 x7 : Option Value} {w : Int32} : mw d 286 Q 72 [x0, x1, x2, x3, x4, x5, x6, x7] (.int w :: st) h = mw d 286 Q 74 [x0, x1, x2, x3, x4, x5, mk2 x6, some (.int w)] (st) h := (mw_at mj_286_72).trans (z_istore (Nat.le_of_ble_eq_true rfl) (me_s1_mk (j := 6) (w := x6) rfl))
theorem mj_286_74 : mc_P 286 74 = some (.iload 7, 2, 0, 0, 0) := by decide +kernel
theorem s_286_74 {x0 x1 x2 x3 x4 x5 x6 : Option Value} {w : Value} : mw d 286 Q 74 [x0, x1, x2, x3, x4, x5, x6, some w] (st) h = mv_i w (mw d 286 Q 76 [x0, x1, x2, x3, x4, x5, x6, some w] (w :: st) h) := (mw_at mj_286_74).trans (z_iload rfl)
theorem mj_286_76 : mc_P 286 76 = some (.iload_n 1, 1, 0, 0, 0) := by decide +kernel
theorem s_286_76 {x0 x2 x3 x4 x5 x6 x7 : Option Value} {w : Value} : mw d 286 Q 76 [x0, some w, x2, x3, x4, x5, x6, x7] (st) h = mv_i w (mw d 286 Q 77 [x0, some w, x2, x3, x4, x5, x6, x7] (w :: st) h) := (mw_at mj_286_76).trans (z_iload_n rfl)
theorem mj_286_77 : mc_P 286 77 = some (.if_icmp .ge 45, 3, 0, 0, 0) := by decide +kernel
theorem s_286_77 {x0 x1 x2 x3 x4 x5 x6 x7 : Option Value} {x w : Int32} : mw d 286 Q 77 [x0, x1, x2, x3, x4, x5, x6, x7] (.int w :: .int x :: st) h = mB (w ≤ x) (mw d 286 Q) 122 80 [x0, x1, x2, x3, x4, x5, x6, x7] st h := (mw_at mj_286_77).trans (z_icmp_ge (by decide) rfl)
theorem mj_286_80 : mc_P 286 80 = some (.lload 5, 2, 0, 0, 0) := by decide +kernel
theorem s_286_80 {x0 x1 x2 x3 x4 x6 x7 : Option Value} {w : Value} : mw d 286 Q 80 [x0, x1, x2, x3, x4, some w, x6, x7] (st) h = mv_l w (mw d 286 Q 82 [x0, x1, x2, x3, x4, some w, x6, x7] (w :: st) h) := (mw_at mj_286_80).trans (z_lload rfl)
theorem mj_286_82 : mc_P 286 82 = some (.aload_n 0, 1, 0, 0, 0) := by decide +kernel
theorem s_286_82 {x1 x2 x3 x4 x5 x6 x7 : Option Value} {w : Value} : mw d 286 Q 82 [some w, x1, x2, x3, x4, x5, x6, x7] (st) h = mv_a w (mw d 286 Q 83 [some w, x1, x2, x3, x4, x5, x6, x7] (w :: st) h) := (mw_at mj_286_82).trans (z_aload_n rfl)
theorem mj_286_83 : mc_P 286 83 = some (.getfield 9, 3, 13, 3, 0) := by decide +kernel
theorem s_286_83 {x0 x1 x2 x3 x4 x5 x6 x7 : Option Value} {o : Nat} : mw d 286 Q 83 [x0, x1, x2, x3, x4, x5, x6, x7] (.ref o :: st) h = (mg h o 13 ∧ mw d 286 Q 86 [x0, x1, x2, x3, x4, x5, x6, x7] (va_rf (mh_r h o 3) :: st) h) := (mw_at mj_286_83).trans (z_getr (by decide) (by decide) rfl)
theorem mj_286_86 : mc_P 286 86 = some (.bipush 24, 2, 0, 0, 0) := by decide +kernel
theorem s_286_86 {x0 x1 x2 x3 x4 x5 x6 x7 : Option Value} : mw d 286 Q 86 [x0, x1, x2, x3, x4, x5, x6, x7] (st) h = mw d 286 Q 88 [x0, x1, x2, x3, x4, x5, x6, x7] (.int 24 :: st) h := (mw_at mj_286_86).trans (z_bipush (by decide))
theorem mj_286_88 : mc_P 286 88 = some (.iload_n 3, 1, 0, 0, 0) := by decide +kernel
theorem s_286_88 {x0 x1 x2 x4 x5 x6 x7 : Option Value} {w : Value} : mw d 286 Q 88 [x0, x1, x2, some w, x4, x5, x6, x7] (st) h = mv_i w (mw d 286 Q 89 [x0, x1, x2, some w, x4, x5, x6, x7] (w :: st) h) := (mw_at mj_286_88).trans (z_iload_n rfl)
theorem mj_286_89 : mc_P 286 89 = some (.imul, 1, 0, 0, 0) := by decide +kernel
theorem s_286_89 {x0 x1 x2 x3 x4 x5 x6 x7 : Option Value} {x w : Int32} : mw d 286 Q 89 [x0, x1, x2, x3, x4, x5, x6, x7] (.int w :: .int x :: st) h = mw d 286 Q 90 [x0, x1, x2, x3, x4, x5, x6, x7] (.int (x * w) :: st) h := (mw_at mj_286_89).trans (z_imul)
theorem mj_286_90 : mc_P 286 90 = some (.iload 7, 2, 0, 0, 0) := by decide +kernel
theorem s_286_90 {x0 x1 x2 x3 x4 x5 x6 : Option Value} {w : Value} : mw d 286 Q 90 [x0, x1, x2, x3, x4, x5, x6, some w] (st) h = mv_i w (mw d 286 Q 92 [x0, x1, x2, x3, x4, x5, x6, some w] (w :: st) h) := (mw_at mj_286_90).trans (z_iload rfl)
theorem mj_286_92 : mc_P 286 92 = some (.iadd, 1, 0, 0, 0) := by decide +kernel
theorem s_286_92 {x0 x1 x2 x3 x4 x5 x6 x7 : Option Value} {x w : Int32} : mw d 286 Q 92 [x0, x1, x2, x3, x4, x5, x6, x7] (.int w :: .int x :: st) h = mw d 286 Q 93 [x0, x1, x2, x3, x4, x5, x6, x7] (.int (x + w) :: st) h := (mw_at mj_286_92).trans (z_iadd)
theorem mj_286_93 : mc_P 286 93 = some (.laload, 1, 0, 0, 0) := by decide +kernel
theorem s_286_93 {x0 x1 x2 x3 x4 x5 x6 x7 : Option Value} {o : Nat} {i : Int32} : mw d 286 Q 93 [x0, x1, x2, x3, x4, x5, x6, x7] (.int i :: .ref o :: st) h = (mg h o 101 ∧ mx i (mh_l h o) ∧ mw d 286 Q 94 [x0, x1, x2, x3, x4, x5, x6, x7] (.long (mh_j h o i.toNatClampNeg) :: st) h) := (mw_at mj_286_93).trans (z_lald)
theorem mj_286_94 : mc_P 286 94 = some (.aload_n 0, 1, 0, 0, 0) := by decide +kernel
theorem s_286_94 {x1 x2 x3 x4 x5 x6 x7 : Option Value} {w : Value} : mw d 286 Q 94 [some w, x1, x2, x3, x4, x5, x6, x7] (st) h = mv_a w (mw d 286 Q 95 [some w, x1, x2, x3, x4, x5, x6, x7] (w :: st) h) := (mw_at mj_286_94).trans (z_aload_n rfl)
theorem mj_286_95 : mc_P 286 95 = some (.getfield 9, 3, 13, 3, 0) := by decide +kernel
theorem s_286_95 {x0 x1 x2 x3 x4 x5 x6 x7 : Option Value} {o : Nat} : mw d 286 Q 95 [x0, x1, x2, x3, x4, x5, x6, x7] (.ref o :: st) h = (mg h o 13 ∧ mw d 286 Q 98 [x0, x1, x2, x3, x4, x5, x6, x7] (va_rf (mh_r h o 3) :: st) h) := (mw_at mj_286_95).trans (z_getr (by decide) (by decide) rfl)
theorem mj_286_98 : mc_P 286 98 = some (.bipush 24, 2, 0, 0, 0) := by decide +kernel
theorem s_286_98 {x0 x1 x2 x3 x4 x5 x6 x7 : Option Value} : mw d 286 Q 98 [x0, x1, x2, x3, x4, x5, x6, x7] (st) h = mw d 286 Q 100 [x0, x1, x2, x3, x4, x5, x6, x7] (.int 24 :: st) h := (mw_at mj_286_98).trans (z_bipush (by decide))
theorem mj_286_100 : mc_P 286 100 = some (.iload 7, 2, 0, 0, 0) := by decide +kernel
theorem s_286_100 {x0 x1 x2 x3 x4 x5 x6 : Option Value} {w : Value} : mw d 286 Q 100 [x0, x1, x2, x3, x4, x5, x6, some w] (st) h = mv_i w (mw d 286 Q 102 [x0, x1, x2, x3, x4, x5, x6, some w] (w :: st) h) := (mw_at mj_286_100).trans (z_iload rfl)
theorem mj_286_102 : mc_P 286 102 = some (.invokestatic 27, 3, 277, 0, 1) := by decide +kernel
theorem s_286_102 {x0 x1 x2 x3 x4 x5 x6 x7 : Option Value} {a0 : Value} : mw (d + 1) 286 Q 102 [x0, x1, x2, x3, x4, x5, x6, x7] (a0 :: st) h = (mca st 8 ∧ mca [a0] 1 ∧ mcall d 277 [a0] h (mK (d + 1) 286 Q 105 [x0, x1, x2, x3, x4, x5, x6, x7] st)) := (mw_at mj_286_102).trans ((z_invs (As := [a0]) rfl rfl).trans (congrArg (And _) (mC_nl nl_277)))
theorem mj_286_105 : mc_P 286 105 = some (.imul, 1, 0, 0, 0) := by decide +kernel
theorem s_286_105 {x0 x1 x2 x3 x4 x5 x6 x7 : Option Value} {x w : Int32} : mw d 286 Q 105 [x0, x1, x2, x3, x4, x5, x6, x7] (.int w :: .int x :: st) h = mw d 286 Q 106 [x0, x1, x2, x3, x4, x5, x6, x7] (.int (x * w) :: st) h := (mw_at mj_286_105).trans (z_imul)
theorem mj_286_106 : mc_P 286 106 = some (.iload 4, 2, 0, 0, 0) := by decide +kernel
theorem s_286_106 {x0 x1 x2 x3 x5 x6 x7 : Option Value} {w : Value} : mw d 286 Q 106 [x0, x1, x2, x3, some w, x5, x6, x7] (st) h = mv_i w (mw d 286 Q 108 [x0, x1, x2, x3, some w, x5, x6, x7] (w :: st) h) := (mw_at mj_286_106).trans (z_iload rfl)
theorem mj_286_108 : mc_P 286 108 = some (.iadd, 1, 0, 0, 0) := by decide +kernel
theorem s_286_108 {x0 x1 x2 x3 x4 x5 x6 x7 : Option Value} {x w : Int32} : mw d 286 Q 108 [x0, x1, x2, x3, x4, x5, x6, x7] (.int w :: .int x :: st) h = mw d 286 Q 109 [x0, x1, x2, x3, x4, x5, x6, x7] (.int (x + w) :: st) h := (mw_at mj_286_108).trans (z_iadd)
theorem mj_286_109 : mc_P 286 109 = some (.laload, 1, 0, 0, 0) := by decide +kernel
theorem s_286_109 {x0 x1 x2 x3 x4 x5 x6 x7 : Option Value} {o : Nat} {i : Int32} : mw d 286 Q 109 [x0, x1, x2, x3, x4, x5, x6, x7] (.int i :: .ref o :: st) h = (mg h o 101 ∧ mx i (mh_l h o) ∧ mw d 286 Q 110 [x0, x1, x2, x3, x4, x5, x6, x7] (.long (mh_j h o i.toNatClampNeg) :: st) h) := (mw_at mj_286_109).trans (z_lald)
theorem mj_286_110 : mc_P 286 110 = some (.ladd, 1, 0, 0, 0) := by decide +kernel
theorem s_286_110 {x0 x1 x2 x3 x4 x5 x6 x7 : Option Value} {x w : Int64} : mw d 286 Q 110 [x0, x1, x2, x3, x4, x5, x6, x7] (.long w :: .long x :: st) h = mw d 286 Q 111 [x0, x1, x2, x3, x4, x5, x6, x7] (.long (x + w) :: st) h := (mw_at mj_286_110).trans (z_ladd)
theorem mj_286_111 : mc_P 286 111 = some (.invokestatic 58, 3, 0, 22, 0) := by decide +kernel
theorem s_286_111 {x0 x1 x2 x3 x4 x5 x6 x7 : Option Value} {x w : Int64} : mw d 286 Q 111 [x0, x1, x2, x3, x4, x5, x6, x7] (.long w :: .long x :: st) h = (mca st 8 ∧ mw d 286 Q 114 [x0, x1, x2, x3, x4, x5, x6, x7] (.long (if w < x then w else x) :: st) h) := (mw_at mj_286_111).trans (z_lmin)
theorem mj_286_114 : mc_P 286 114 = some (.lstore 5, 2, 0, 0, 0) := by decide +kernel
theorem s_286_114 {x0 x1 x2 x3 x4 x5 x6 x7 : Option Value} {w : Int64} : mw d 286 Q 114 [x0, x1, x2, x3, x4, x5, x6, x7] (.long w :: st) h = mw d 286 Q 116 [x0, x1, x2, x3, mk2 x4, some (.long w), none, x7] (st) h := (mw_at mj_286_114).trans (z_lstore (Nat.le_of_ble_eq_true rfl) (me_s2_mk (j := 4) (w := x4) rfl))
theorem mj_286_116 : mc_P 286 116 = some (.iinc 7 1, 3, 0, 0, 0) := by decide +kernel
theorem s_286_116 {x0 x1 x2 x3 x4 x5 x6 : Option Value} {w : Int32} : mw d 286 Q 116 [x0, x1, x2, x3, x4, x5, x6, some (.int w)] (st) h = mw d 286 Q 119 [x0, x1, x2, x3, x4, x5, mk2 x6, some (.int (w + 1))] (st) h := (mw_at mj_286_116).trans (z_iinc rfl (Nat.le_of_ble_eq_true rfl) (by decide) (me_s1_mk (j := 6) (w := x6) rfl))
theorem mj_286_119 : mc_P 286 119 = some (.goto (-45), 3, 0, 0, 0) := by decide +kernel
theorem s_286_119 {x0 x1 x2 x3 x4 x5 x6 x7 : Option Value} : mw d 286 Q 119 [x0, x1, x2, x3, x4, x5, x6, x7] (st) h = mw d 286 Q 74 [x0, x1, x2, x3, x4, x5, x6, x7] (st) h := (mw_at mj_286_119).trans (z_goto (by decide))
theorem mj_286_122 : mc_P 286 122 = some (.lload 5, 2, 0, 0, 0) := by decide +kernel
theorem s_286_122 {x0 x1 x2 x3 x4 x6 x7 : Option Value} {w : Value} : mw d 286 Q 122 [x0, x1, x2, x3, x4, some w, x6, x7] (st) h = mv_l w (mw d 286 Q 124 [x0, x1, x2, x3, x4, some w, x6, x7] (w :: st) h) := (mw_at mj_286_122).trans (z_lload rfl)
theorem mj_286_124 : mc_P 286 124 = some (.aload_n 0, 1, 0, 0, 0) := by decide +kernel
theorem s_286_124 {x1 x2 x3 x4 x5 x6 x7 : Option Value} {w : Value} : mw d 286 Q 124 [some w, x1, x2, x3, x4, x5, x6, x7] (st) h = mv_a w (mw d 286 Q 125 [some w, x1, x2, x3, x4, x5, x6, x7] (w :: st) h) := (mw_at mj_286_124).trans (z_aload_n rfl)
theorem mj_286_125 : mc_P 286 125 = some (.getfield 9, 3, 13, 3, 0) := by decide +kernel
theorem s_286_125 {x0 x1 x2 x3 x4 x5 x6 x7 : Option Value} {o : Nat} : mw d 286 Q 125 [x0, x1, x2, x3, x4, x5, x6, x7] (.ref o :: st) h = (mg h o 13 ∧ mw d 286 Q 128 [x0, x1, x2, x3, x4, x5, x6, x7] (va_rf (mh_r h o 3) :: st) h) := (mw_at mj_286_125).trans (z_getr (by decide) (by decide) rfl)
theorem mj_286_128 : mc_P 286 128 = some (.bipush 24, 2, 0, 0, 0) := by decide +kernel
theorem s_286_128 {x0 x1 x2 x3 x4 x5 x6 x7 : Option Value} : mw d 286 Q 128 [x0, x1, x2, x3, x4, x5, x6, x7] (st) h = mw d 286 Q 130 [x0, x1, x2, x3, x4, x5, x6, x7] (.int 24 :: st) h := (mw_at mj_286_128).trans (z_bipush (by decide))
theorem mj_286_130 : mc_P 286 130 = some (.iload_n 3, 1, 0, 0, 0) := by decide +kernel
theorem s_286_130 {x0 x1 x2 x4 x5 x6 x7 : Option Value} {w : Value} : mw d 286 Q 130 [x0, x1, x2, some w, x4, x5, x6, x7] (st) h = mv_i w (mw d 286 Q 131 [x0, x1, x2, some w, x4, x5, x6, x7] (w :: st) h) := (mw_at mj_286_130).trans (z_iload_n rfl)
theorem mj_286_131 : mc_P 286 131 = some (.imul, 1, 0, 0, 0) := by decide +kernel
theorem s_286_131 {x0 x1 x2 x3 x4 x5 x6 x7 : Option Value} {x w : Int32} : mw d 286 Q 131 [x0, x1, x2, x3, x4, x5, x6, x7] (.int w :: .int x :: st) h = mw d 286 Q 132 [x0, x1, x2, x3, x4, x5, x6, x7] (.int (x * w) :: st) h := (mw_at mj_286_131).trans (z_imul)
theorem mj_286_132 : mc_P 286 132 = some (.iload_n 3, 1, 0, 0, 0) := by decide +kernel
theorem s_286_132 {x0 x1 x2 x4 x5 x6 x7 : Option Value} {w : Value} : mw d 286 Q 132 [x0, x1, x2, some w, x4, x5, x6, x7] (st) h = mv_i w (mw d 286 Q 133 [x0, x1, x2, some w, x4, x5, x6, x7] (w :: st) h) := (mw_at mj_286_132).trans (z_iload_n rfl)
theorem mj_286_133 : mc_P 286 133 = some (.iadd, 1, 0, 0, 0) := by decide +kernel
theorem s_286_133 {x0 x1 x2 x3 x4 x5 x6 x7 : Option Value} {x w : Int32} : mw d 286 Q 133 [x0, x1, x2, x3, x4, x5, x6, x7] (.int w :: .int x :: st) h = mw d 286 Q 134 [x0, x1, x2, x3, x4, x5, x6, x7] (.int (x + w) :: st) h := (mw_at mj_286_133).trans (z_iadd)
theorem mj_286_134 : mc_P 286 134 = some (.laload, 1, 0, 0, 0) := by decide +kernel
theorem s_286_134 {x0 x1 x2 x3 x4 x5 x6 x7 : Option Value} {o : Nat} {i : Int32} : mw d 286 Q 134 [x0, x1, x2, x3, x4, x5, x6, x7] (.int i :: .ref o :: st) h = (mg h o 101 ∧ mx i (mh_l h o) ∧ mw d 286 Q 135 [x0, x1, x2, x3, x4, x5, x6, x7] (.long (mh_j h o i.toNatClampNeg) :: st) h) := (mw_at mj_286_134).trans (z_lald)
theorem mj_286_135 : mc_P 286 135 = some (.aload_n 0, 1, 0, 0, 0) := by decide +kernel
theorem s_286_135 {x1 x2 x3 x4 x5 x6 x7 : Option Value} {w : Value} : mw d 286 Q 135 [some w, x1, x2, x3, x4, x5, x6, x7] (st) h = mv_a w (mw d 286 Q 136 [some w, x1, x2, x3, x4, x5, x6, x7] (w :: st) h) := (mw_at mj_286_135).trans (z_aload_n rfl)
theorem mj_286_136 : mc_P 286 136 = some (.getfield 9, 3, 13, 3, 0) := by decide +kernel
theorem s_286_136 {x0 x1 x2 x3 x4 x5 x6 x7 : Option Value} {o : Nat} : mw d 286 Q 136 [x0, x1, x2, x3, x4, x5, x6, x7] (.ref o :: st) h = (mg h o 13 ∧ mw d 286 Q 139 [x0, x1, x2, x3, x4, x5, x6, x7] (va_rf (mh_r h o 3) :: st) h) := (mw_at mj_286_136).trans (z_getr (by decide) (by decide) rfl)
theorem mj_286_139 : mc_P 286 139 = some (.bipush 24, 2, 0, 0, 0) := by decide +kernel
theorem s_286_139 {x0 x1 x2 x3 x4 x5 x6 x7 : Option Value} : mw d 286 Q 139 [x0, x1, x2, x3, x4, x5, x6, x7] (st) h = mw d 286 Q 141 [x0, x1, x2, x3, x4, x5, x6, x7] (.int 24 :: st) h := (mw_at mj_286_139).trans (z_bipush (by decide))
theorem mj_286_141 : mc_P 286 141 = some (.iload 4, 2, 0, 0, 0) := by decide +kernel
theorem s_286_141 {x0 x1 x2 x3 x5 x6 x7 : Option Value} {w : Value} : mw d 286 Q 141 [x0, x1, x2, x3, some w, x5, x6, x7] (st) h = mv_i w (mw d 286 Q 143 [x0, x1, x2, x3, some w, x5, x6, x7] (w :: st) h) := (mw_at mj_286_141).trans (z_iload rfl)
theorem mj_286_143 : mc_P 286 143 = some (.imul, 1, 0, 0, 0) := by decide +kernel
theorem s_286_143 {x0 x1 x2 x3 x4 x5 x6 x7 : Option Value} {x w : Int32} : mw d 286 Q 143 [x0, x1, x2, x3, x4, x5, x6, x7] (.int w :: .int x :: st) h = mw d 286 Q 144 [x0, x1, x2, x3, x4, x5, x6, x7] (.int (x * w) :: st) h := (mw_at mj_286_143).trans (z_imul)
theorem mj_286_144 : mc_P 286 144 = some (.iload 4, 2, 0, 0, 0) := by decide +kernel
theorem s_286_144 {x0 x1 x2 x3 x5 x6 x7 : Option Value} {w : Value} : mw d 286 Q 144 [x0, x1, x2, x3, some w, x5, x6, x7] (st) h = mv_i w (mw d 286 Q 146 [x0, x1, x2, x3, some w, x5, x6, x7] (w :: st) h) := (mw_at mj_286_144).trans (z_iload rfl)
theorem mj_286_146 : mc_P 286 146 = some (.iadd, 1, 0, 0, 0) := by decide +kernel
theorem s_286_146 {x0 x1 x2 x3 x4 x5 x6 x7 : Option Value} {x w : Int32} : mw d 286 Q 146 [x0, x1, x2, x3, x4, x5, x6, x7] (.int w :: .int x :: st) h = mw d 286 Q 147 [x0, x1, x2, x3, x4, x5, x6, x7] (.int (x + w) :: st) h := (mw_at mj_286_146).trans (z_iadd)
theorem mj_286_147 : mc_P 286 147 = some (.laload, 1, 0, 0, 0) := by decide +kernel
theorem s_286_147 {x0 x1 x2 x3 x4 x5 x6 x7 : Option Value} {o : Nat} {i : Int32} : mw d 286 Q 147 [x0, x1, x2, x3, x4, x5, x6, x7] (.int i :: .ref o :: st) h = (mg h o 101 ∧ mx i (mh_l h o) ∧ mw d 286 Q 148 [x0, x1, x2, x3, x4, x5, x6, x7] (.long (mh_j h o i.toNatClampNeg) :: st) h) := (mw_at mj_286_147).trans (z_lald)
theorem mj_286_148 : mc_P 286 148 = some (.ladd, 1, 0, 0, 0) := by decide +kernel
theorem s_286_148 {x0 x1 x2 x3 x4 x5 x6 x7 : Option Value} {x w : Int64} : mw d 286 Q 148 [x0, x1, x2, x3, x4, x5, x6, x7] (.long w :: .long x :: st) h = mw d 286 Q 149 [x0, x1, x2, x3, x4, x5, x6, x7] (.long (x + w) :: st) h := (mw_at mj_286_148).trans (z_ladd)
theorem mj_286_149 : mc_P 286 149 = some (.ldc2_w 52, 3, 0, 0, 2) := by decide +kernel
theorem s_286_149 {x0 x1 x2 x3 x4 x5 x6 x7 : Option Value} : mw d 286 Q 149 [x0, x1, x2, x3, x4, x5, x6, x7] (st) h = mw d 286 Q 152 [x0, x1, x2, x3, x4, x5, x6, x7] (.long 2 :: st) h := (mw_at mj_286_149).trans (z_ldc2 (by decide))
theorem mj_286_152 : mc_P 286 152 = some (.invokestatic 64, 3, 0, 25, 0) := by decide +kernel
theorem s_286_152 {x0 x1 x2 x3 x4 x5 x6 x7 : Option Value} {x w : Int64} : mw d 286 Q 152 [x0, x1, x2, x3, x4, x5, x6, x7] (.long w :: .long x :: st) h = (¬ w = 0 ∧ mca st 8 ∧ mw d 286 Q 155 [x0, x1, x2, x3, x4, x5, x6, x7] (.long (fd_v x w) :: st) h) := (mw_at mj_286_152).trans (z_fd)
theorem mj_286_155 : mc_P 286 155 = some (.invokestatic 58, 3, 0, 22, 0) := by decide +kernel
theorem s_286_155 {x0 x1 x2 x3 x4 x5 x6 x7 : Option Value} {x w : Int64} : mw d 286 Q 155 [x0, x1, x2, x3, x4, x5, x6, x7] (.long w :: .long x :: st) h = (mca st 8 ∧ mw d 286 Q 158 [x0, x1, x2, x3, x4, x5, x6, x7] (.long (if w < x then w else x) :: st) h) := (mw_at mj_286_155).trans (z_lmin)
theorem mj_286_158 : mc_P 286 158 = some (.lstore 5, 2, 0, 0, 0) := by decide +kernel
theorem s_286_158 {x0 x1 x2 x3 x4 x5 x6 x7 : Option Value} {w : Int64} : mw d 286 Q 158 [x0, x1, x2, x3, x4, x5, x6, x7] (.long w :: st) h = mw d 286 Q 160 [x0, x1, x2, x3, mk2 x4, some (.long w), none, x7] (st) h := (mw_at mj_286_158).trans (z_lstore (Nat.le_of_ble_eq_true rfl) (me_s2_mk (j := 4) (w := x4) rfl))
theorem mj_286_160 : mc_P 286 160 = some (.iload_n 3, 1, 0, 0, 0) := by decide +kernel
theorem s_286_160 {x0 x1 x2 x4 x5 x6 x7 : Option Value} {w : Value} : mw d 286 Q 160 [x0, x1, x2, some w, x4, x5, x6, x7] (st) h = mv_i w (mw d 286 Q 161 [x0, x1, x2, some w, x4, x5, x6, x7] (w :: st) h) := (mw_at mj_286_160).trans (z_iload_n rfl)
theorem mj_286_161 : mc_P 286 161 = some (.iload 4, 2, 0, 0, 0) := by decide +kernel
theorem s_286_161 {x0 x1 x2 x3 x5 x6 x7 : Option Value} {w : Value} : mw d 286 Q 161 [x0, x1, x2, x3, some w, x5, x6, x7] (st) h = mv_i w (mw d 286 Q 163 [x0, x1, x2, x3, some w, x5, x6, x7] (w :: st) h) := (mw_at mj_286_161).trans (z_iload rfl)
theorem mj_286_163 : mc_P 286 163 = some (.if_icmp .ne 18, 3, 0, 0, 0) := by decide +kernel
theorem s_286_163 {x0 x1 x2 x3 x4 x5 x6 x7 : Option Value} {x w : Int32} : mw d 286 Q 163 [x0, x1, x2, x3, x4, x5, x6, x7] (.int w :: .int x :: st) h = mB (¬ x = w) (mw d 286 Q) 181 166 [x0, x1, x2, x3, x4, x5, x6, x7] st h := (mw_at mj_286_163).trans (z_icmp_ne (by decide) rfl)
theorem mj_286_166 : mc_P 286 166 = some (.ldc2_w 52, 3, 0, 0, 2) := by decide +kernel
theorem s_286_166 {x0 x1 x2 x3 x4 x5 x6 x7 : Option Value} : mw d 286 Q 166 [x0, x1, x2, x3, x4, x5, x6, x7] (st) h = mw d 286 Q 169 [x0, x1, x2, x3, x4, x5, x6, x7] (.long 2 :: st) h := (mw_at mj_286_166).trans (z_ldc2 (by decide))
theorem mj_286_169 : mc_P 286 169 = some (.lload 5, 2, 0, 0, 0) := by decide +kernel
theorem s_286_169 {x0 x1 x2 x3 x4 x6 x7 : Option Value} {w : Value} : mw d 286 Q 169 [x0, x1, x2, x3, x4, some w, x6, x7] (st) h = mv_l w (mw d 286 Q 171 [x0, x1, x2, x3, x4, some w, x6, x7] (w :: st) h) := (mw_at mj_286_169).trans (z_lload rfl)
theorem mj_286_171 : mc_P 286 171 = some (.ldc2_w 52, 3, 0, 0, 2) := by decide +kernel
theorem s_286_171 {x0 x1 x2 x3 x4 x5 x6 x7 : Option Value} : mw d 286 Q 171 [x0, x1, x2, x3, x4, x5, x6, x7] (st) h = mw d 286 Q 174 [x0, x1, x2, x3, x4, x5, x6, x7] (.long 2 :: st) h := (mw_at mj_286_171).trans (z_ldc2 (by decide))
theorem mj_286_174 : mc_P 286 174 = some (.invokestatic 64, 3, 0, 25, 0) := by decide +kernel
theorem s_286_174 {x0 x1 x2 x3 x4 x5 x6 x7 : Option Value} {x w : Int64} : mw d 286 Q 174 [x0, x1, x2, x3, x4, x5, x6, x7] (.long w :: .long x :: st) h = (¬ w = 0 ∧ mca st 8 ∧ mw d 286 Q 177 [x0, x1, x2, x3, x4, x5, x6, x7] (.long (fd_v x w) :: st) h) := (mw_at mj_286_174).trans (z_fd)
theorem mj_286_177 : mc_P 286 177 = some (.lmul, 1, 0, 0, 0) := by decide +kernel
theorem s_286_177 {x0 x1 x2 x3 x4 x5 x6 x7 : Option Value} {x w : Int64} : mw d 286 Q 177 [x0, x1, x2, x3, x4, x5, x6, x7] (.long w :: .long x :: st) h = mw d 286 Q 178 [x0, x1, x2, x3, x4, x5, x6, x7] (.long (x * w) :: st) h := (mw_at mj_286_177).trans (z_lmul)
theorem mj_286_178 : mc_P 286 178 = some (.goto 5, 3, 0, 0, 0) := by decide +kernel
theorem s_286_178 {x0 x1 x2 x3 x4 x5 x6 x7 : Option Value} : mw d 286 Q 178 [x0, x1, x2, x3, x4, x5, x6, x7] (st) h = mw d 286 Q 183 [x0, x1, x2, x3, x4, x5, x6, x7] (st) h := (mw_at mj_286_178).trans (z_goto (by decide))
theorem mj_286_181 : mc_P 286 181 = some (.lload 5, 2, 0, 0, 0) := by decide +kernel
theorem s_286_181 {x0 x1 x2 x3 x4 x6 x7 : Option Value} {w : Value} : mw d 286 Q 181 [x0, x1, x2, x3, x4, some w, x6, x7] (st) h = mv_l w (mw d 286 Q 183 [x0, x1, x2, x3, x4, some w, x6, x7] (w :: st) h) := (mw_at mj_286_181).trans (z_lload rfl)
theorem mj_286_183 : mc_P 286 183 = some (.lstore 5, 2, 0, 0, 0) := by decide +kernel
theorem s_286_183 {x0 x1 x2 x3 x4 x5 x6 x7 : Option Value} {w : Int64} : mw d 286 Q 183 [x0, x1, x2, x3, x4, x5, x6, x7] (.long w :: st) h = mw d 286 Q 185 [x0, x1, x2, x3, mk2 x4, some (.long w), none, x7] (st) h := (mw_at mj_286_183).trans (z_lstore (Nat.le_of_ble_eq_true rfl) (me_s2_mk (j := 4) (w := x4) rfl))
theorem mj_286_185 : mc_P 286 185 = some (.iload_n 2, 1, 0, 0, 0) := by decide +kernel
theorem s_286_185 {x0 x1 x3 x4 x5 x6 x7 : Option Value} {w : Value} : mw d 286 Q 185 [x0, x1, some w, x3, x4, x5, x6, x7] (st) h = mv_i w (mw d 286 Q 186 [x0, x1, some w, x3, x4, x5, x6, x7] (w :: st) h) := (mw_at mj_286_185).trans (z_iload_n rfl)
theorem mj_286_186 : mc_P 286 186 = some (.lload 5, 2, 0, 0, 0) := by decide +kernel
theorem s_286_186 {x0 x1 x2 x3 x4 x6 x7 : Option Value} {w : Value} : mw d 286 Q 186 [x0, x1, x2, x3, x4, some w, x6, x7] (st) h = mv_l w (mw d 286 Q 188 [x0, x1, x2, x3, x4, some w, x6, x7] (w :: st) h) := (mw_at mj_286_186).trans (z_lload rfl)
theorem mj_286_188 : mc_P 286 188 = some (.aload_n 0, 1, 0, 0, 0) := by decide +kernel
theorem s_286_188 {x1 x2 x3 x4 x5 x6 x7 : Option Value} {w : Value} : mw d 286 Q 188 [some w, x1, x2, x3, x4, x5, x6, x7] (st) h = mv_a w (mw d 286 Q 189 [some w, x1, x2, x3, x4, x5, x6, x7] (w :: st) h) := (mw_at mj_286_188).trans (z_aload_n rfl)
theorem mj_286_189 : mc_P 286 189 = some (.getfield 9, 3, 13, 3, 0) := by decide +kernel
theorem s_286_189 {x0 x1 x2 x3 x4 x5 x6 x7 : Option Value} {o : Nat} : mw d 286 Q 189 [x0, x1, x2, x3, x4, x5, x6, x7] (.ref o :: st) h = (mg h o 13 ∧ mw d 286 Q 192 [x0, x1, x2, x3, x4, x5, x6, x7] (va_rf (mh_r h o 3) :: st) h) := (mw_at mj_286_189).trans (z_getr (by decide) (by decide) rfl)
theorem mj_286_192 : mc_P 286 192 = some (.bipush 24, 2, 0, 0, 0) := by decide +kernel
theorem s_286_192 {x0 x1 x2 x3 x4 x5 x6 x7 : Option Value} : mw d 286 Q 192 [x0, x1, x2, x3, x4, x5, x6, x7] (st) h = mw d 286 Q 194 [x0, x1, x2, x3, x4, x5, x6, x7] (.int 24 :: st) h := (mw_at mj_286_192).trans (z_bipush (by decide))
theorem mj_286_194 : mc_P 286 194 = some (.iload_n 3, 1, 0, 0, 0) := by decide +kernel
theorem s_286_194 {x0 x1 x2 x4 x5 x6 x7 : Option Value} {w : Value} : mw d 286 Q 194 [x0, x1, x2, some w, x4, x5, x6, x7] (st) h = mv_i w (mw d 286 Q 195 [x0, x1, x2, some w, x4, x5, x6, x7] (w :: st) h) := (mw_at mj_286_194).trans (z_iload_n rfl)
theorem mj_286_195 : mc_P 286 195 = some (.imul, 1, 0, 0, 0) := by decide +kernel
theorem s_286_195 {x0 x1 x2 x3 x4 x5 x6 x7 : Option Value} {x w : Int32} : mw d 286 Q 195 [x0, x1, x2, x3, x4, x5, x6, x7] (.int w :: .int x :: st) h = mw d 286 Q 196 [x0, x1, x2, x3, x4, x5, x6, x7] (.int (x * w) :: st) h := (mw_at mj_286_195).trans (z_imul)
theorem mj_286_196 : mc_P 286 196 = some (.iload 4, 2, 0, 0, 0) := by decide +kernel
theorem s_286_196 {x0 x1 x2 x3 x5 x6 x7 : Option Value} {w : Value} : mw d 286 Q 196 [x0, x1, x2, x3, some w, x5, x6, x7] (st) h = mv_i w (mw d 286 Q 198 [x0, x1, x2, x3, some w, x5, x6, x7] (w :: st) h) := (mw_at mj_286_196).trans (z_iload rfl)
theorem mj_286_198 : mc_P 286 198 = some (.iadd, 1, 0, 0, 0) := by decide +kernel
theorem s_286_198 {x0 x1 x2 x3 x4 x5 x6 x7 : Option Value} {x w : Int32} : mw d 286 Q 198 [x0, x1, x2, x3, x4, x5, x6, x7] (.int w :: .int x :: st) h = mw d 286 Q 199 [x0, x1, x2, x3, x4, x5, x6, x7] (.int (x + w) :: st) h := (mw_at mj_286_198).trans (z_iadd)
theorem mj_286_199 : mc_P 286 199 = some (.laload, 1, 0, 0, 0) := by decide +kernel
theorem s_286_199 {x0 x1 x2 x3 x4 x5 x6 x7 : Option Value} {o : Nat} {i : Int32} : mw d 286 Q 199 [x0, x1, x2, x3, x4, x5, x6, x7] (.int i :: .ref o :: st) h = (mg h o 101 ∧ mx i (mh_l h o) ∧ mw d 286 Q 200 [x0, x1, x2, x3, x4, x5, x6, x7] (.long (mh_j h o i.toNatClampNeg) :: st) h) := (mw_at mj_286_199).trans (z_lald)
theorem mj_286_200 : mc_P 286 200 = some (.lcmp, 1, 0, 0, 0) := by decide +kernel
theorem s_286_200 {x0 x1 x2 x3 x4 x5 x6 x7 : Option Value} {x w : Int64} : mw d 286 Q 200 [x0, x1, x2, x3, x4, x5, x6, x7] (.long w :: .long x :: st) h = mw d 286 Q 201 [x0, x1, x2, x3, x4, x5, x6, x7] (.int (lg_cmp x w) :: st) h := (mw_at mj_286_200).trans (z_lcmp)
theorem mj_286_201 : mc_P 286 201 = some (.ifCond .ge 7, 3, 0, 0, 0) := by decide +kernel
theorem s_286_201 {x0 x1 x2 x3 x4 x5 x6 x7 : Option Value} {x : Int32} : mw d 286 Q 201 [x0, x1, x2, x3, x4, x5, x6, x7] (.int x :: st) h = mB (0 ≤ x) (mw d 286 Q) 208 204 [x0, x1, x2, x3, x4, x5, x6, x7] st h := (mw_at mj_286_201).trans (z_if_ge (by decide) rfl)
theorem mj_286_204 : mc_P 286 204 = some (.iconst 1, 1, 0, 0, 0) := by decide +kernel
theorem s_286_204 {x0 x1 x2 x3 x4 x5 x6 x7 : Option Value} : mw d 286 Q 204 [x0, x1, x2, x3, x4, x5, x6, x7] (st) h = mw d 286 Q 205 [x0, x1, x2, x3, x4, x5, x6, x7] (.int 1 :: st) h := (mw_at mj_286_204).trans (z_iconst (by decide))
theorem mj_286_205 : mc_P 286 205 = some (.goto 4, 3, 0, 0, 0) := by decide +kernel
theorem s_286_205 {x0 x1 x2 x3 x4 x5 x6 x7 : Option Value} : mw d 286 Q 205 [x0, x1, x2, x3, x4, x5, x6, x7] (st) h = mw d 286 Q 209 [x0, x1, x2, x3, x4, x5, x6, x7] (st) h := (mw_at mj_286_205).trans (z_goto (by decide))
theorem mj_286_208 : mc_P 286 208 = some (.iconst 0, 1, 0, 0, 0) := by decide +kernel
theorem s_286_208 {x0 x1 x2 x3 x4 x5 x6 x7 : Option Value} : mw d 286 Q 208 [x0, x1, x2, x3, x4, x5, x6, x7] (st) h = mw d 286 Q 209 [x0, x1, x2, x3, x4, x5, x6, x7] (.int 0 :: st) h := (mw_at mj_286_208).trans (z_iconst (by decide))
theorem mj_286_209 : mc_P 286 209 = some (.ior, 1, 0, 0, 0) := by decide +kernel
theorem s_286_209 {x0 x1 x2 x3 x4 x5 x6 x7 : Option Value} {x w : Int32} : mw d 286 Q 209 [x0, x1, x2, x3, x4, x5, x6, x7] (.int w :: .int x :: st) h = mw d 286 Q 210 [x0, x1, x2, x3, x4, x5, x6, x7] (.int (x ||| w) :: st) h := (mw_at mj_286_209).trans (z_ior)
theorem mj_286_210 : mc_P 286 210 = some (.istore_n 2, 1, 0, 0, 0) := by decide +kernel
theorem s_286_210 {x0 x1 x2 x3 x4 x5 x6 x7 : Option Value} {w : Int32} : mw d 286 Q 210 [x0, x1, x2, x3, x4, x5, x6, x7] (.int w :: st) h = mw d 286 Q 211 [x0, mk2 x1, some (.int w), x3, x4, x5, x6, x7] (st) h := (mw_at mj_286_210).trans (z_istore_n (Nat.le_of_ble_eq_true rfl) (me_s1_mk (j := 1) (w := x1) rfl))
theorem mj_286_211 : mc_P 286 211 = some (.aload_n 0, 1, 0, 0, 0) := by decide +kernel
theorem s_286_211 {x1 x2 x3 x4 x5 x6 x7 : Option Value} {w : Value} : mw d 286 Q 211 [some w, x1, x2, x3, x4, x5, x6, x7] (st) h = mv_a w (mw d 286 Q 212 [some w, x1, x2, x3, x4, x5, x6, x7] (w :: st) h) := (mw_at mj_286_211).trans (z_aload_n rfl)
theorem mj_286_212 : mc_P 286 212 = some (.getfield 9, 3, 13, 3, 0) := by decide +kernel
theorem s_286_212 {x0 x1 x2 x3 x4 x5 x6 x7 : Option Value} {o : Nat} : mw d 286 Q 212 [x0, x1, x2, x3, x4, x5, x6, x7] (.ref o :: st) h = (mg h o 13 ∧ mw d 286 Q 215 [x0, x1, x2, x3, x4, x5, x6, x7] (va_rf (mh_r h o 3) :: st) h) := (mw_at mj_286_212).trans (z_getr (by decide) (by decide) rfl)
theorem mj_286_215 : mc_P 286 215 = some (.bipush 24, 2, 0, 0, 0) := by decide +kernel
theorem s_286_215 {x0 x1 x2 x3 x4 x5 x6 x7 : Option Value} : mw d 286 Q 215 [x0, x1, x2, x3, x4, x5, x6, x7] (st) h = mw d 286 Q 217 [x0, x1, x2, x3, x4, x5, x6, x7] (.int 24 :: st) h := (mw_at mj_286_215).trans (z_bipush (by decide))
theorem mj_286_217 : mc_P 286 217 = some (.iload_n 3, 1, 0, 0, 0) := by decide +kernel
theorem s_286_217 {x0 x1 x2 x4 x5 x6 x7 : Option Value} {w : Value} : mw d 286 Q 217 [x0, x1, x2, some w, x4, x5, x6, x7] (st) h = mv_i w (mw d 286 Q 218 [x0, x1, x2, some w, x4, x5, x6, x7] (w :: st) h) := (mw_at mj_286_217).trans (z_iload_n rfl)
theorem mj_286_218 : mc_P 286 218 = some (.imul, 1, 0, 0, 0) := by decide +kernel
theorem s_286_218 {x0 x1 x2 x3 x4 x5 x6 x7 : Option Value} {x w : Int32} : mw d 286 Q 218 [x0, x1, x2, x3, x4, x5, x6, x7] (.int w :: .int x :: st) h = mw d 286 Q 219 [x0, x1, x2, x3, x4, x5, x6, x7] (.int (x * w) :: st) h := (mw_at mj_286_218).trans (z_imul)
theorem mj_286_219 : mc_P 286 219 = some (.iload 4, 2, 0, 0, 0) := by decide +kernel
theorem s_286_219 {x0 x1 x2 x3 x5 x6 x7 : Option Value} {w : Value} : mw d 286 Q 219 [x0, x1, x2, x3, some w, x5, x6, x7] (st) h = mv_i w (mw d 286 Q 221 [x0, x1, x2, x3, some w, x5, x6, x7] (w :: st) h) := (mw_at mj_286_219).trans (z_iload rfl)
theorem mj_286_221 : mc_P 286 221 = some (.iadd, 1, 0, 0, 0) := by decide +kernel
theorem s_286_221 {x0 x1 x2 x3 x4 x5 x6 x7 : Option Value} {x w : Int32} : mw d 286 Q 221 [x0, x1, x2, x3, x4, x5, x6, x7] (.int w :: .int x :: st) h = mw d 286 Q 222 [x0, x1, x2, x3, x4, x5, x6, x7] (.int (x + w) :: st) h := (mw_at mj_286_221).trans (z_iadd)
theorem mj_286_222 : mc_P 286 222 = some (.lload 5, 2, 0, 0, 0) := by decide +kernel
theorem s_286_222 {x0 x1 x2 x3 x4 x6 x7 : Option Value} {w : Value} : mw d 286 Q 222 [x0, x1, x2, x3, x4, some w, x6, x7] (st) h = mv_l w (mw d 286 Q 224 [x0, x1, x2, x3, x4, some w, x6, x7] (w :: st) h) := (mw_at mj_286_222).trans (z_lload rfl)
theorem mj_286_224 : mc_P 286 224 = some (.lastore, 1, 0, 0, 0) := by decide +kernel
theorem s_286_224 {x0 x1 x2 x3 x4 x5 x6 x7 : Option Value} {o : Nat} {i : Int32} {w : Int64} : mw d 286 Q 224 [x0, x1, x2, x3, x4, x5, x6, x7] (.long w :: .int i :: .ref o :: st) h = (mg h o 101 ∧ mx i (mh_l h o) ∧ mw d 286 Q 225 [x0, x1, x2, x3, x4, x5, x6, x7] (st) (mh_sj h o i.toNatClampNeg w)) := (mw_at mj_286_224).trans (z_last)
theorem mj_286_225 : mc_P 286 225 = some (.iinc 4 1, 3, 0, 0, 0) := by decide +kernel
theorem s_286_225 {x0 x1 x2 x3 x5 x6 x7 : Option Value} {w : Int32} : mw d 286 Q 225 [x0, x1, x2, x3, some (.int w), x5, x6, x7] (st) h = mw d 286 Q 228 [x0, x1, x2, mk2 x3, some (.int (w + 1)), x5, x6, x7] (st) h := (mw_at mj_286_225).trans (z_iinc rfl (Nat.le_of_ble_eq_true rfl) (by decide) (me_s1_mk (j := 3) (w := x3) rfl))
theorem mj_286_228 : mc_P 286 228 = some (.goto (-192), 3, 0, 0, 0) := by decide +kernel
theorem s_286_228 {x0 x1 x2 x3 x4 x5 x6 x7 : Option Value} : mw d 286 Q 228 [x0, x1, x2, x3, x4, x5, x6, x7] (st) h = mw d 286 Q 36 [x0, x1, x2, x3, x4, x5, x6, x7] (st) h := (mw_at mj_286_228).trans (z_goto (by decide))
theorem mj_286_231 : mc_P 286 231 = some (.aload_n 0, 1, 0, 0, 0) := by decide +kernel
theorem s_286_231 {x1 x2 x3 x4 x5 x6 x7 : Option Value} {w : Value} : mw d 286 Q 231 [some w, x1, x2, x3, x4, x5, x6, x7] (st) h = mv_a w (mw d 286 Q 232 [some w, x1, x2, x3, x4, x5, x6, x7] (w :: st) h) := (mw_at mj_286_231).trans (z_aload_n rfl)
theorem mj_286_232 : mc_P 286 232 = some (.getfield 9, 3, 13, 3, 0) := by decide +kernel
theorem s_286_232 {x0 x1 x2 x3 x4 x5 x6 x7 : Option Value} {o : Nat} : mw d 286 Q 232 [x0, x1, x2, x3, x4, x5, x6, x7] (.ref o :: st) h = (mg h o 13 ∧ mw d 286 Q 235 [x0, x1, x2, x3, x4, x5, x6, x7] (va_rf (mh_r h o 3) :: st) h) := (mw_at mj_286_232).trans (z_getr (by decide) (by decide) rfl)
theorem mj_286_235 : mc_P 286 235 = some (.bipush 24, 2, 0, 0, 0) := by decide +kernel
theorem s_286_235 {x0 x1 x2 x3 x4 x5 x6 x7 : Option Value} : mw d 286 Q 235 [x0, x1, x2, x3, x4, x5, x6, x7] (st) h = mw d 286 Q 237 [x0, x1, x2, x3, x4, x5, x6, x7] (.int 24 :: st) h := (mw_at mj_286_235).trans (z_bipush (by decide))
theorem mj_286_237 : mc_P 286 237 = some (.iload_n 3, 1, 0, 0, 0) := by decide +kernel
theorem s_286_237 {x0 x1 x2 x4 x5 x6 x7 : Option Value} {w : Value} : mw d 286 Q 237 [x0, x1, x2, some w, x4, x5, x6, x7] (st) h = mv_i w (mw d 286 Q 238 [x0, x1, x2, some w, x4, x5, x6, x7] (w :: st) h) := (mw_at mj_286_237).trans (z_iload_n rfl)
theorem mj_286_238 : mc_P 286 238 = some (.imul, 1, 0, 0, 0) := by decide +kernel
theorem s_286_238 {x0 x1 x2 x3 x4 x5 x6 x7 : Option Value} {x w : Int32} : mw d 286 Q 238 [x0, x1, x2, x3, x4, x5, x6, x7] (.int w :: .int x :: st) h = mw d 286 Q 239 [x0, x1, x2, x3, x4, x5, x6, x7] (.int (x * w) :: st) h := (mw_at mj_286_238).trans (z_imul)
theorem mj_286_239 : mc_P 286 239 = some (.iload_n 3, 1, 0, 0, 0) := by decide +kernel
theorem s_286_239 {x0 x1 x2 x4 x5 x6 x7 : Option Value} {w : Value} : mw d 286 Q 239 [x0, x1, x2, some w, x4, x5, x6, x7] (st) h = mv_i w (mw d 286 Q 240 [x0, x1, x2, some w, x4, x5, x6, x7] (w :: st) h) := (mw_at mj_286_239).trans (z_iload_n rfl)
theorem mj_286_240 : mc_P 286 240 = some (.invokestatic 27, 3, 277, 0, 1) := by decide +kernel
theorem s_286_240 {x0 x1 x2 x3 x4 x5 x6 x7 : Option Value} {a0 : Value} : mw (d + 1) 286 Q 240 [x0, x1, x2, x3, x4, x5, x6, x7] (a0 :: st) h = (mca st 8 ∧ mca [a0] 1 ∧ mcall d 277 [a0] h (mK (d + 1) 286 Q 243 [x0, x1, x2, x3, x4, x5, x6, x7] st)) := (mw_at mj_286_240).trans ((z_invs (As := [a0]) rfl rfl).trans (congrArg (And _) (mC_nl nl_277)))
theorem mj_286_243 : mc_P 286 243 = some (.iadd, 1, 0, 0, 0) := by decide +kernel
theorem s_286_243 {x0 x1 x2 x3 x4 x5 x6 x7 : Option Value} {x w : Int32} : mw d 286 Q 243 [x0, x1, x2, x3, x4, x5, x6, x7] (.int w :: .int x :: st) h = mw d 286 Q 244 [x0, x1, x2, x3, x4, x5, x6, x7] (.int (x + w) :: st) h := (mw_at mj_286_243).trans (z_iadd)
theorem mj_286_244 : mc_P 286 244 = some (.laload, 1, 0, 0, 0) := by decide +kernel
theorem s_286_244 {x0 x1 x2 x3 x4 x5 x6 x7 : Option Value} {o : Nat} {i : Int32} : mw d 286 Q 244 [x0, x1, x2, x3, x4, x5, x6, x7] (.int i :: .ref o :: st) h = (mg h o 101 ∧ mx i (mh_l h o) ∧ mw d 286 Q 245 [x0, x1, x2, x3, x4, x5, x6, x7] (.long (mh_j h o i.toNatClampNeg) :: st) h) := (mw_at mj_286_244).trans (z_lald)
theorem mj_286_245 : mc_P 286 245 = some (.lconst 0, 1, 0, 0, 0) := by decide +kernel
theorem s_286_245 {x0 x1 x2 x3 x4 x5 x6 x7 : Option Value} : mw d 286 Q 245 [x0, x1, x2, x3, x4, x5, x6, x7] (st) h = mw d 286 Q 246 [x0, x1, x2, x3, x4, x5, x6, x7] (.long 0 :: st) h := (mw_at mj_286_245).trans (z_lconst (by decide))
theorem mj_286_246 : mc_P 286 246 = some (.lcmp, 1, 0, 0, 0) := by decide +kernel
theorem s_286_246 {x0 x1 x2 x3 x4 x5 x6 x7 : Option Value} {x w : Int64} : mw d 286 Q 246 [x0, x1, x2, x3, x4, x5, x6, x7] (.long w :: .long x :: st) h = mw d 286 Q 247 [x0, x1, x2, x3, x4, x5, x6, x7] (.int (lg_cmp x w) :: st) h := (mw_at mj_286_246).trans (z_lcmp)
theorem mj_286_247 : mc_P 286 247 = some (.ifCond .ge 9, 3, 0, 0, 0) := by decide +kernel
theorem s_286_247 {x0 x1 x2 x3 x4 x5 x6 x7 : Option Value} {x : Int32} : mw d 286 Q 247 [x0, x1, x2, x3, x4, x5, x6, x7] (.int x :: st) h = mB (0 ≤ x) (mw d 286 Q) 256 250 [x0, x1, x2, x3, x4, x5, x6, x7] st h := (mw_at mj_286_247).trans (z_if_ge (by decide) rfl)
theorem mj_286_250 : mc_P 286 250 = some (.aload_n 0, 1, 0, 0, 0) := by decide +kernel
theorem s_286_250 {x1 x2 x3 x4 x5 x6 x7 : Option Value} {w : Value} : mw d 286 Q 250 [some w, x1, x2, x3, x4, x5, x6, x7] (st) h = mv_a w (mw d 286 Q 251 [some w, x1, x2, x3, x4, x5, x6, x7] (w :: st) h) := (mw_at mj_286_250).trans (z_aload_n rfl)
theorem mj_286_251 : mc_P 286 251 = some (.iconst 1, 1, 0, 0, 0) := by decide +kernel
theorem s_286_251 {x0 x1 x2 x3 x4 x5 x6 x7 : Option Value} : mw d 286 Q 251 [x0, x1, x2, x3, x4, x5, x6, x7] (st) h = mw d 286 Q 252 [x0, x1, x2, x3, x4, x5, x6, x7] (.int 1 :: st) h := (mw_at mj_286_251).trans (z_iconst (by decide))
theorem mj_286_252 : mc_P 286 252 = some (.putfield 35, 3, 13, 0, 0) := by decide +kernel
theorem s_286_252 {x0 x1 x2 x3 x4 x5 x6 x7 : Option Value} {o : Nat} {w : Int32} : mw d 286 Q 252 [x0, x1, x2, x3, x4, x5, x6, x7] (.int w :: .ref o :: st) h = (mg h o 13 ∧ (w = 0 ∨ w = 1) ∧ mw d 286 Q 255 [x0, x1, x2, x3, x4, x5, x6, x7] (st) (mh_si h o 0 w)) := (mw_at mj_286_252).trans (z_putz (by decide) (by decide) rfl)
theorem mj_286_255 : mc_P 286 255 = some (.return_, 1, 0, 0, 0) := by decide +kernel
theorem s_286_255 {x0 x1 x2 x3 x4 x5 x6 x7 : Option Value} : mw d 286 Q 255 [x0, x1, x2, x3, x4, x5, x6, x7] ([]) h = Q none h := (mw_at mj_286_255).trans (z_vret)
theorem mj_286_256 : mc_P 286 256 = some (.iinc 3 1, 3, 0, 0, 0) := by decide +kernel
theorem s_286_256 {x0 x1 x2 x4 x5 x6 x7 : Option Value} {w : Int32} : mw d 286 Q 256 [x0, x1, x2, some (.int w), x4, x5, x6, x7] (st) h = mw d 286 Q 259 [x0, x1, mk2 x2, some (.int (w + 1)), x4, x5, x6, x7] (st) h := (mw_at mj_286_256).trans (z_iinc rfl (Nat.le_of_ble_eq_true rfl) (by decide) (me_s1_mk (j := 2) (w := x2) rfl))
theorem mj_286_259 : mc_P 286 259 = some (.goto (-231), 3, 0, 0, 0) := by decide +kernel
theorem s_286_259 {x0 x1 x2 x3 x4 x5 x6 x7 : Option Value} : mw d 286 Q 259 [x0, x1, x2, x3, x4, x5, x6, x7] (st) h = mw d 286 Q 28 [x0, x1, x2, x3, x4, x5, x6, x7] (st) h := (mw_at mj_286_259).trans (z_goto (by decide))
theorem mj_286_262 : mc_P 286 262 = some (.goto (-242), 3, 0, 0, 0) := by decide +kernel
theorem s_286_262 {x0 x1 x2 x3 x4 x5 x6 x7 : Option Value} : mw d 286 Q 262 [x0, x1, x2, x3, x4, x5, x6, x7] (st) h = mw d 286 Q 20 [x0, x1, x2, x3, x4, x5, x6, x7] (st) h := (mw_at mj_286_262).trans (z_goto (by decide))
theorem mj_286_265 : mc_P 286 265 = some (.return_, 1, 0, 0, 0) := by decide +kernel
theorem s_286_265 {x0 x1 x2 x3 x4 x5 x6 x7 : Option Value} : mw d 286 Q 265 [x0, x1, x2, x3, x4, x5, x6, x7] ([]) h = Q none h := (mw_at mj_286_265).trans (z_vret)
theorem e_286 {a0 : Nat} : mcall d 286 [.ref a0] h Q = mw d 286 Q 0 [some (.ref a0), none, none, none, none, none, none, none] [] h := by
  show mw d 286 Q 0 (me_en (mc_nl 286) _) [] h = _
  rw [nl_286]; rfl

/-! InvariantDeskModel$Known.free(I)V -/
theorem mj_287_0 : mc_P 287 0 = some (.iconst 2, 1, 0, 0, 0) := by decide +kernel
theorem s_287_0 {x0 x1 x2 x3 x4 x5 x6 : Option Value} : mw d 287 Q 0 [x0, x1, x2, x3, x4, x5, x6] (st) h = mw d 287 Q 1 [x0, x1, x2, x3, x4, x5, x6] (.int 2 :: st) h := (mw_at mj_287_0).trans (z_iconst (by decide))
theorem mj_287_1 : mc_P 287 1 = some (.aload_n 0, 1, 0, 0, 0) := by decide +kernel
theorem s_287_1 {x1 x2 x3 x4 x5 x6 : Option Value} {w : Value} : mw d 287 Q 1 [some w, x1, x2, x3, x4, x5, x6] (st) h = mv_a w (mw d 287 Q 2 [some w, x1, x2, x3, x4, x5, x6] (w :: st) h) := (mw_at mj_287_1).trans (z_aload_n rfl)
theorem mj_287_2 : mc_P 287 2 = some (.getfield 39, 3, 13, 1, 0) := by decide +kernel
theorem s_287_2 {x0 x1 x2 x3 x4 x5 x6 : Option Value} {o : Nat} : mw d 287 Q 2 [x0, x1, x2, x3, x4, x5, x6] (.ref o :: st) h = (mg h o 13 ∧ mw d 287 Q 5 [x0, x1, x2, x3, x4, x5, x6] (.int (mh_i h o 1) :: st) h) := (mw_at mj_287_2).trans (z_geti (by decide) (by decide) (Or.inl rfl))
theorem mj_287_5 : mc_P 287 5 = some (.imul, 1, 0, 0, 0) := by decide +kernel
theorem s_287_5 {x0 x1 x2 x3 x4 x5 x6 : Option Value} {x w : Int32} : mw d 287 Q 5 [x0, x1, x2, x3, x4, x5, x6] (.int w :: .int x :: st) h = mw d 287 Q 6 [x0, x1, x2, x3, x4, x5, x6] (.int (x * w) :: st) h := (mw_at mj_287_5).trans (z_imul)
theorem mj_287_6 : mc_P 287 6 = some (.istore_n 2, 1, 0, 0, 0) := by decide +kernel
theorem s_287_6 {x0 x1 x2 x3 x4 x5 x6 : Option Value} {w : Int32} : mw d 287 Q 6 [x0, x1, x2, x3, x4, x5, x6] (.int w :: st) h = mw d 287 Q 7 [x0, mk2 x1, some (.int w), x3, x4, x5, x6] (st) h := (mw_at mj_287_6).trans (z_istore_n (Nat.le_of_ble_eq_true rfl) (me_s1_mk (j := 1) (w := x1) rfl))
theorem mj_287_7 : mc_P 287 7 = some (.iconst 2, 1, 0, 0, 0) := by decide +kernel
theorem s_287_7 {x0 x1 x2 x3 x4 x5 x6 : Option Value} : mw d 287 Q 7 [x0, x1, x2, x3, x4, x5, x6] (st) h = mw d 287 Q 8 [x0, x1, x2, x3, x4, x5, x6] (.int 2 :: st) h := (mw_at mj_287_7).trans (z_iconst (by decide))
theorem mj_287_8 : mc_P 287 8 = some (.iload_n 1, 1, 0, 0, 0) := by decide +kernel
theorem s_287_8 {x0 x2 x3 x4 x5 x6 : Option Value} {w : Value} : mw d 287 Q 8 [x0, some w, x2, x3, x4, x5, x6] (st) h = mv_i w (mw d 287 Q 9 [x0, some w, x2, x3, x4, x5, x6] (w :: st) h) := (mw_at mj_287_8).trans (z_iload_n rfl)
theorem mj_287_9 : mc_P 287 9 = some (.imul, 1, 0, 0, 0) := by decide +kernel
theorem s_287_9 {x0 x1 x2 x3 x4 x5 x6 : Option Value} {x w : Int32} : mw d 287 Q 9 [x0, x1, x2, x3, x4, x5, x6] (.int w :: .int x :: st) h = mw d 287 Q 10 [x0, x1, x2, x3, x4, x5, x6] (.int (x * w) :: st) h := (mw_at mj_287_9).trans (z_imul)
theorem mj_287_10 : mc_P 287 10 = some (.istore_n 3, 1, 0, 0, 0) := by decide +kernel
theorem s_287_10 {x0 x1 x2 x3 x4 x5 x6 : Option Value} {w : Int32} : mw d 287 Q 10 [x0, x1, x2, x3, x4, x5, x6] (.int w :: st) h = mw d 287 Q 11 [x0, x1, mk2 x2, some (.int w), x4, x5, x6] (st) h := (mw_at mj_287_10).trans (z_istore_n (Nat.le_of_ble_eq_true rfl) (me_s1_mk (j := 2) (w := x2) rfl))
theorem mj_287_11 : mc_P 287 11 = some (.iload_n 3, 1, 0, 0, 0) := by decide +kernel
theorem s_287_11 {x0 x1 x2 x4 x5 x6 : Option Value} {w : Value} : mw d 287 Q 11 [x0, x1, x2, some w, x4, x5, x6] (st) h = mv_i w (mw d 287 Q 12 [x0, x1, x2, some w, x4, x5, x6] (w :: st) h) := (mw_at mj_287_11).trans (z_iload_n rfl)
theorem mj_287_12 : mc_P 287 12 = some (.iconst 2, 1, 0, 0, 0) := by decide +kernel
theorem s_287_12 {x0 x1 x2 x3 x4 x5 x6 : Option Value} : mw d 287 Q 12 [x0, x1, x2, x3, x4, x5, x6] (st) h = mw d 287 Q 13 [x0, x1, x2, x3, x4, x5, x6] (.int 2 :: st) h := (mw_at mj_287_12).trans (z_iconst (by decide))
theorem mj_287_13 : mc_P 287 13 = some (.iload_n 1, 1, 0, 0, 0) := by decide +kernel
theorem s_287_13 {x0 x2 x3 x4 x5 x6 : Option Value} {w : Value} : mw d 287 Q 13 [x0, some w, x2, x3, x4, x5, x6] (st) h = mv_i w (mw d 287 Q 14 [x0, some w, x2, x3, x4, x5, x6] (w :: st) h) := (mw_at mj_287_13).trans (z_iload_n rfl)
theorem mj_287_14 : mc_P 287 14 = some (.imul, 1, 0, 0, 0) := by decide +kernel
theorem s_287_14 {x0 x1 x2 x3 x4 x5 x6 : Option Value} {x w : Int32} : mw d 287 Q 14 [x0, x1, x2, x3, x4, x5, x6] (.int w :: .int x :: st) h = mw d 287 Q 15 [x0, x1, x2, x3, x4, x5, x6] (.int (x * w) :: st) h := (mw_at mj_287_14).trans (z_imul)
theorem mj_287_15 : mc_P 287 15 = some (.iconst 2, 1, 0, 0, 0) := by decide +kernel
theorem s_287_15 {x0 x1 x2 x3 x4 x5 x6 : Option Value} : mw d 287 Q 15 [x0, x1, x2, x3, x4, x5, x6] (st) h = mw d 287 Q 16 [x0, x1, x2, x3, x4, x5, x6] (.int 2 :: st) h := (mw_at mj_287_15).trans (z_iconst (by decide))
theorem mj_287_16 : mc_P 287 16 = some (.iadd, 1, 0, 0, 0) := by decide +kernel
theorem s_287_16 {x0 x1 x2 x3 x4 x5 x6 : Option Value} {x w : Int32} : mw d 287 Q 16 [x0, x1, x2, x3, x4, x5, x6] (.int w :: .int x :: st) h = mw d 287 Q 17 [x0, x1, x2, x3, x4, x5, x6] (.int (x + w) :: st) h := (mw_at mj_287_16).trans (z_iadd)
theorem mj_287_17 : mc_P 287 17 = some (.if_icmp .ge 92, 3, 0, 0, 0) := by decide +kernel
theorem s_287_17 {x0 x1 x2 x3 x4 x5 x6 : Option Value} {x w : Int32} : mw d 287 Q 17 [x0, x1, x2, x3, x4, x5, x6] (.int w :: .int x :: st) h = mB (w ≤ x) (mw d 287 Q) 109 20 [x0, x1, x2, x3, x4, x5, x6] st h := (mw_at mj_287_17).trans (z_icmp_ge (by decide) rfl)
theorem mj_287_20 : mc_P 287 20 = some (.iconst 0, 1, 0, 0, 0) := by decide +kernel
theorem s_287_20 {x0 x1 x2 x3 x4 x5 x6 : Option Value} : mw d 287 Q 20 [x0, x1, x2, x3, x4, x5, x6] (st) h = mw d 287 Q 21 [x0, x1, x2, x3, x4, x5, x6] (.int 0 :: st) h := (mw_at mj_287_20).trans (z_iconst (by decide))
theorem mj_287_21 : mc_P 287 21 = some (.istore 4, 2, 0, 0, 0) := by decide +kernel
theorem s_287_21 {x0 x1 x2 x3 x4 x5 x6 : Option Value} {w : Int32} : mw d 287 Q 21 [x0, x1, x2, x3, x4, x5, x6] (.int w :: st) h = mw d 287 Q 23 [x0, x1, x2, mk2 x3, some (.int w), x5, x6] (st) h := (mw_at mj_287_21).trans (z_istore (Nat.le_of_ble_eq_true rfl) (me_s1_mk (j := 3) (w := x3) rfl))
theorem mj_287_23 : mc_P 287 23 = some (.iload 4, 2, 0, 0, 0) := by decide +kernel
theorem s_287_23 {x0 x1 x2 x3 x5 x6 : Option Value} {w : Value} : mw d 287 Q 23 [x0, x1, x2, x3, some w, x5, x6] (st) h = mv_i w (mw d 287 Q 25 [x0, x1, x2, x3, some w, x5, x6] (w :: st) h) := (mw_at mj_287_23).trans (z_iload rfl)
theorem mj_287_25 : mc_P 287 25 = some (.iload_n 2, 1, 0, 0, 0) := by decide +kernel
theorem s_287_25 {x0 x1 x3 x4 x5 x6 : Option Value} {w : Value} : mw d 287 Q 25 [x0, x1, some w, x3, x4, x5, x6] (st) h = mv_i w (mw d 287 Q 26 [x0, x1, some w, x3, x4, x5, x6] (w :: st) h) := (mw_at mj_287_25).trans (z_iload_n rfl)
theorem mj_287_26 : mc_P 287 26 = some (.if_icmp .ge 77, 3, 0, 0, 0) := by decide +kernel
theorem s_287_26 {x0 x1 x2 x3 x4 x5 x6 : Option Value} {x w : Int32} : mw d 287 Q 26 [x0, x1, x2, x3, x4, x5, x6] (.int w :: .int x :: st) h = mB (w ≤ x) (mw d 287 Q) 103 29 [x0, x1, x2, x3, x4, x5, x6] st h := (mw_at mj_287_26).trans (z_icmp_ge (by decide) rfl)
theorem mj_287_29 : mc_P 287 29 = some (.iload_n 3, 1, 0, 0, 0) := by decide +kernel
theorem s_287_29 {x0 x1 x2 x4 x5 x6 : Option Value} {w : Value} : mw d 287 Q 29 [x0, x1, x2, some w, x4, x5, x6] (st) h = mv_i w (mw d 287 Q 30 [x0, x1, x2, some w, x4, x5, x6] (w :: st) h) := (mw_at mj_287_29).trans (z_iload_n rfl)
theorem mj_287_30 : mc_P 287 30 = some (.iload 4, 2, 0, 0, 0) := by decide +kernel
theorem s_287_30 {x0 x1 x2 x3 x5 x6 : Option Value} {w : Value} : mw d 287 Q 30 [x0, x1, x2, x3, some w, x5, x6] (st) h = mv_i w (mw d 287 Q 32 [x0, x1, x2, x3, some w, x5, x6] (w :: st) h) := (mw_at mj_287_30).trans (z_iload rfl)
theorem mj_287_32 : mc_P 287 32 = some (.invokestatic 67, 3, 279, 0, 2) := by decide +kernel
theorem s_287_32 {x0 x1 x2 x3 x4 x5 x6 : Option Value} {a0 a1 : Value} : mw (d + 1) 287 Q 32 [x0, x1, x2, x3, x4, x5, x6] (a1 :: a0 :: st) h = (mca st 8 ∧ mca [a0, a1] 2 ∧ mcall d 279 [a0, a1] h (mK (d + 1) 287 Q 35 [x0, x1, x2, x3, x4, x5, x6] st)) := (mw_at mj_287_32).trans ((z_invs (As := [a0, a1]) rfl rfl).trans (congrArg (And _) (mC_nl nl_279)))
theorem mj_287_35 : mc_P 287 35 = some (.lstore 5, 2, 0, 0, 0) := by decide +kernel
theorem s_287_35 {x0 x1 x2 x3 x4 x5 x6 : Option Value} {w : Int64} : mw d 287 Q 35 [x0, x1, x2, x3, x4, x5, x6] (.long w :: st) h = mw d 287 Q 37 [x0, x1, x2, x3, mk2 x4, some (.long w), none] (st) h := (mw_at mj_287_35).trans (z_lstore (Nat.le_of_ble_eq_true rfl) (me_s2_mk (j := 4) (w := x4) rfl))
theorem mj_287_37 : mc_P 287 37 = some (.iload 4, 2, 0, 0, 0) := by decide +kernel
theorem s_287_37 {x0 x1 x2 x3 x5 x6 : Option Value} {w : Value} : mw d 287 Q 37 [x0, x1, x2, x3, some w, x5, x6] (st) h = mv_i w (mw d 287 Q 39 [x0, x1, x2, x3, some w, x5, x6] (w :: st) h) := (mw_at mj_287_37).trans (z_iload rfl)
theorem mj_287_39 : mc_P 287 39 = some (.iconst 2, 1, 0, 0, 0) := by decide +kernel
theorem s_287_39 {x0 x1 x2 x3 x4 x5 x6 : Option Value} : mw d 287 Q 39 [x0, x1, x2, x3, x4, x5, x6] (st) h = mw d 287 Q 40 [x0, x1, x2, x3, x4, x5, x6] (.int 2 :: st) h := (mw_at mj_287_39).trans (z_iconst (by decide))
theorem mj_287_40 : mc_P 287 40 = some (.idiv, 1, 0, 0, 0) := by decide +kernel
theorem s_287_40 {x0 x1 x2 x3 x4 x5 x6 : Option Value} {x w : Int32} : mw d 287 Q 40 [x0, x1, x2, x3, x4, x5, x6] (.int w :: .int x :: st) h = (¬ w = 0 ∧ mw d 287 Q 41 [x0, x1, x2, x3, x4, x5, x6] (.int (x / w) :: st) h) := (mw_at mj_287_40).trans (z_idiv)
theorem mj_287_41 : mc_P 287 41 = some (.iload_n 1, 1, 0, 0, 0) := by decide +kernel
theorem s_287_41 {x0 x2 x3 x4 x5 x6 : Option Value} {w : Value} : mw d 287 Q 41 [x0, some w, x2, x3, x4, x5, x6] (st) h = mv_i w (mw d 287 Q 42 [x0, some w, x2, x3, x4, x5, x6] (w :: st) h) := (mw_at mj_287_41).trans (z_iload_n rfl)
theorem mj_287_42 : mc_P 287 42 = some (.if_icmp .eq 27, 3, 0, 0, 0) := by decide +kernel
theorem s_287_42 {x0 x1 x2 x3 x4 x5 x6 : Option Value} {x w : Int32} : mw d 287 Q 42 [x0, x1, x2, x3, x4, x5, x6] (.int w :: .int x :: st) h = mB (x = w) (mw d 287 Q) 69 45 [x0, x1, x2, x3, x4, x5, x6] st h := (mw_at mj_287_42).trans (z_icmp_eq (by decide) rfl)
theorem mj_287_45 : mc_P 287 45 = some (.iload_n 3, 1, 0, 0, 0) := by decide +kernel
theorem s_287_45 {x0 x1 x2 x4 x5 x6 : Option Value} {w : Value} : mw d 287 Q 45 [x0, x1, x2, some w, x4, x5, x6] (st) h = mv_i w (mw d 287 Q 46 [x0, x1, x2, some w, x4, x5, x6] (w :: st) h) := (mw_at mj_287_45).trans (z_iload_n rfl)
theorem mj_287_46 : mc_P 287 46 = some (.invokestatic 31, 3, 278, 0, 1) := by decide +kernel
theorem s_287_46 {x0 x1 x2 x3 x4 x5 x6 : Option Value} {a0 : Value} : mw (d + 1) 287 Q 46 [x0, x1, x2, x3, x4, x5, x6] (a0 :: st) h = (mca st 8 ∧ mca [a0] 1 ∧ mcall d 278 [a0] h (mK (d + 1) 287 Q 49 [x0, x1, x2, x3, x4, x5, x6] st)) := (mw_at mj_287_46).trans ((z_invs (As := [a0]) rfl rfl).trans (congrArg (And _) (mC_nl nl_278)))
theorem mj_287_49 : mc_P 287 49 = some (.aload_n 0, 1, 0, 0, 0) := by decide +kernel
theorem s_287_49 {x1 x2 x3 x4 x5 x6 : Option Value} {w : Value} : mw d 287 Q 49 [some w, x1, x2, x3, x4, x5, x6] (st) h = mv_a w (mw d 287 Q 50 [some w, x1, x2, x3, x4, x5, x6] (w :: st) h) := (mw_at mj_287_49).trans (z_aload_n rfl)
theorem mj_287_50 : mc_P 287 50 = some (.getfield 9, 3, 13, 3, 0) := by decide +kernel
theorem s_287_50 {x0 x1 x2 x3 x4 x5 x6 : Option Value} {o : Nat} : mw d 287 Q 50 [x0, x1, x2, x3, x4, x5, x6] (.ref o :: st) h = (mg h o 13 ∧ mw d 287 Q 53 [x0, x1, x2, x3, x4, x5, x6] (va_rf (mh_r h o 3) :: st) h) := (mw_at mj_287_50).trans (z_getr (by decide) (by decide) rfl)
theorem mj_287_53 : mc_P 287 53 = some (.bipush 24, 2, 0, 0, 0) := by decide +kernel
theorem s_287_53 {x0 x1 x2 x3 x4 x5 x6 : Option Value} : mw d 287 Q 53 [x0, x1, x2, x3, x4, x5, x6] (st) h = mw d 287 Q 55 [x0, x1, x2, x3, x4, x5, x6] (.int 24 :: st) h := (mw_at mj_287_53).trans (z_bipush (by decide))
theorem mj_287_55 : mc_P 287 55 = some (.iload 4, 2, 0, 0, 0) := by decide +kernel
theorem s_287_55 {x0 x1 x2 x3 x5 x6 : Option Value} {w : Value} : mw d 287 Q 55 [x0, x1, x2, x3, some w, x5, x6] (st) h = mv_i w (mw d 287 Q 57 [x0, x1, x2, x3, some w, x5, x6] (w :: st) h) := (mw_at mj_287_55).trans (z_iload rfl)
theorem mj_287_57 : mc_P 287 57 = some (.imul, 1, 0, 0, 0) := by decide +kernel
theorem s_287_57 {x0 x1 x2 x3 x4 x5 x6 : Option Value} {x w : Int32} : mw d 287 Q 57 [x0, x1, x2, x3, x4, x5, x6] (.int w :: .int x :: st) h = mw d 287 Q 58 [x0, x1, x2, x3, x4, x5, x6] (.int (x * w) :: st) h := (mw_at mj_287_57).trans (z_imul)
theorem mj_287_58 : mc_P 287 58 = some (.iload 4, 2, 0, 0, 0) := by decide +kernel
theorem s_287_58 {x0 x1 x2 x3 x5 x6 : Option Value} {w : Value} : mw d 287 Q 58 [x0, x1, x2, x3, some w, x5, x6] (st) h = mv_i w (mw d 287 Q 60 [x0, x1, x2, x3, some w, x5, x6] (w :: st) h) := (mw_at mj_287_58).trans (z_iload rfl)
theorem mj_287_60 : mc_P 287 60 = some (.iadd, 1, 0, 0, 0) := by decide +kernel
theorem s_287_60 {x0 x1 x2 x3 x4 x5 x6 : Option Value} {x w : Int32} : mw d 287 Q 60 [x0, x1, x2, x3, x4, x5, x6] (.int w :: .int x :: st) h = mw d 287 Q 61 [x0, x1, x2, x3, x4, x5, x6] (.int (x + w) :: st) h := (mw_at mj_287_60).trans (z_iadd)
theorem mj_287_61 : mc_P 287 61 = some (.laload, 1, 0, 0, 0) := by decide +kernel
theorem s_287_61 {x0 x1 x2 x3 x4 x5 x6 : Option Value} {o : Nat} {i : Int32} : mw d 287 Q 61 [x0, x1, x2, x3, x4, x5, x6] (.int i :: .ref o :: st) h = (mg h o 101 ∧ mx i (mh_l h o) ∧ mw d 287 Q 62 [x0, x1, x2, x3, x4, x5, x6] (.long (mh_j h o i.toNatClampNeg) :: st) h) := (mw_at mj_287_61).trans (z_lald)
theorem mj_287_62 : mc_P 287 62 = some (.ldc2_w 52, 3, 0, 0, 2) := by decide +kernel
theorem s_287_62 {x0 x1 x2 x3 x4 x5 x6 : Option Value} : mw d 287 Q 62 [x0, x1, x2, x3, x4, x5, x6] (st) h = mw d 287 Q 65 [x0, x1, x2, x3, x4, x5, x6] (.long 2 :: st) h := (mw_at mj_287_62).trans (z_ldc2 (by decide))
theorem mj_287_65 : mc_P 287 65 = some (.ldiv, 1, 0, 0, 0) := by decide +kernel
theorem s_287_65 {x0 x1 x2 x3 x4 x5 x6 : Option Value} {x w : Int64} : mw d 287 Q 65 [x0, x1, x2, x3, x4, x5, x6] (.long w :: .long x :: st) h = (¬ w = 0 ∧ mw d 287 Q 66 [x0, x1, x2, x3, x4, x5, x6] (.long (x / w) :: st) h) := (mw_at mj_287_65).trans (z_ldiv)
theorem mj_287_66 : mc_P 287 66 = some (.ladd, 1, 0, 0, 0) := by decide +kernel
theorem s_287_66 {x0 x1 x2 x3 x4 x5 x6 : Option Value} {x w : Int64} : mw d 287 Q 66 [x0, x1, x2, x3, x4, x5, x6] (.long w :: .long x :: st) h = mw d 287 Q 67 [x0, x1, x2, x3, x4, x5, x6] (.long (x + w) :: st) h := (mw_at mj_287_66).trans (z_ladd)
theorem mj_287_67 : mc_P 287 67 = some (.lstore 5, 2, 0, 0, 0) := by decide +kernel
theorem s_287_67 {x0 x1 x2 x3 x4 x5 x6 : Option Value} {w : Int64} : mw d 287 Q 67 [x0, x1, x2, x3, x4, x5, x6] (.long w :: st) h = mw d 287 Q 69 [x0, x1, x2, x3, mk2 x4, some (.long w), none] (st) h := (mw_at mj_287_67).trans (z_lstore (Nat.le_of_ble_eq_true rfl) (me_s2_mk (j := 4) (w := x4) rfl))
theorem mj_287_69 : mc_P 287 69 = some (.aload_n 0, 1, 0, 0, 0) := by decide +kernel
theorem s_287_69 {x1 x2 x3 x4 x5 x6 : Option Value} {w : Value} : mw d 287 Q 69 [some w, x1, x2, x3, x4, x5, x6] (st) h = mv_a w (mw d 287 Q 70 [some w, x1, x2, x3, x4, x5, x6] (w :: st) h) := (mw_at mj_287_69).trans (z_aload_n rfl)
theorem mj_287_70 : mc_P 287 70 = some (.getfield 9, 3, 13, 3, 0) := by decide +kernel
theorem s_287_70 {x0 x1 x2 x3 x4 x5 x6 : Option Value} {o : Nat} : mw d 287 Q 70 [x0, x1, x2, x3, x4, x5, x6] (.ref o :: st) h = (mg h o 13 ∧ mw d 287 Q 73 [x0, x1, x2, x3, x4, x5, x6] (va_rf (mh_r h o 3) :: st) h) := (mw_at mj_287_70).trans (z_getr (by decide) (by decide) rfl)
theorem mj_287_73 : mc_P 287 73 = some (.bipush 24, 2, 0, 0, 0) := by decide +kernel
theorem s_287_73 {x0 x1 x2 x3 x4 x5 x6 : Option Value} : mw d 287 Q 73 [x0, x1, x2, x3, x4, x5, x6] (st) h = mw d 287 Q 75 [x0, x1, x2, x3, x4, x5, x6] (.int 24 :: st) h := (mw_at mj_287_73).trans (z_bipush (by decide))
theorem mj_287_75 : mc_P 287 75 = some (.iload_n 3, 1, 0, 0, 0) := by decide +kernel
theorem s_287_75 {x0 x1 x2 x4 x5 x6 : Option Value} {w : Value} : mw d 287 Q 75 [x0, x1, x2, some w, x4, x5, x6] (st) h = mv_i w (mw d 287 Q 76 [x0, x1, x2, some w, x4, x5, x6] (w :: st) h) := (mw_at mj_287_75).trans (z_iload_n rfl)
theorem mj_287_76 : mc_P 287 76 = some (.imul, 1, 0, 0, 0) := by decide +kernel
theorem s_287_76 {x0 x1 x2 x3 x4 x5 x6 : Option Value} {x w : Int32} : mw d 287 Q 76 [x0, x1, x2, x3, x4, x5, x6] (.int w :: .int x :: st) h = mw d 287 Q 77 [x0, x1, x2, x3, x4, x5, x6] (.int (x * w) :: st) h := (mw_at mj_287_76).trans (z_imul)
theorem mj_287_77 : mc_P 287 77 = some (.iload 4, 2, 0, 0, 0) := by decide +kernel
theorem s_287_77 {x0 x1 x2 x3 x5 x6 : Option Value} {w : Value} : mw d 287 Q 77 [x0, x1, x2, x3, some w, x5, x6] (st) h = mv_i w (mw d 287 Q 79 [x0, x1, x2, x3, some w, x5, x6] (w :: st) h) := (mw_at mj_287_77).trans (z_iload rfl)
theorem mj_287_79 : mc_P 287 79 = some (.iadd, 1, 0, 0, 0) := by decide +kernel
theorem s_287_79 {x0 x1 x2 x3 x4 x5 x6 : Option Value} {x w : Int32} : mw d 287 Q 79 [x0, x1, x2, x3, x4, x5, x6] (.int w :: .int x :: st) h = mw d 287 Q 80 [x0, x1, x2, x3, x4, x5, x6] (.int (x + w) :: st) h := (mw_at mj_287_79).trans (z_iadd)
theorem mj_287_80 : mc_P 287 80 = some (.lload 5, 2, 0, 0, 0) := by decide +kernel
theorem s_287_80 {x0 x1 x2 x3 x4 x6 : Option Value} {w : Value} : mw d 287 Q 80 [x0, x1, x2, x3, x4, some w, x6] (st) h = mv_l w (mw d 287 Q 82 [x0, x1, x2, x3, x4, some w, x6] (w :: st) h) := (mw_at mj_287_80).trans (z_lload rfl)
theorem mj_287_82 : mc_P 287 82 = some (.lastore, 1, 0, 0, 0) := by decide +kernel
theorem s_287_82 {x0 x1 x2 x3 x4 x5 x6 : Option Value} {o : Nat} {i : Int32} {w : Int64} : mw d 287 Q 82 [x0, x1, x2, x3, x4, x5, x6] (.long w :: .int i :: .ref o :: st) h = (mg h o 101 ∧ mx i (mh_l h o) ∧ mw d 287 Q 83 [x0, x1, x2, x3, x4, x5, x6] (st) (mh_sj h o i.toNatClampNeg w)) := (mw_at mj_287_82).trans (z_last)
theorem mj_287_83 : mc_P 287 83 = some (.aload_n 0, 1, 0, 0, 0) := by decide +kernel
theorem s_287_83 {x1 x2 x3 x4 x5 x6 : Option Value} {w : Value} : mw d 287 Q 83 [some w, x1, x2, x3, x4, x5, x6] (st) h = mv_a w (mw d 287 Q 84 [some w, x1, x2, x3, x4, x5, x6] (w :: st) h) := (mw_at mj_287_83).trans (z_aload_n rfl)
theorem mj_287_84 : mc_P 287 84 = some (.getfield 9, 3, 13, 3, 0) := by decide +kernel
theorem s_287_84 {x0 x1 x2 x3 x4 x5 x6 : Option Value} {o : Nat} : mw d 287 Q 84 [x0, x1, x2, x3, x4, x5, x6] (.ref o :: st) h = (mg h o 13 ∧ mw d 287 Q 87 [x0, x1, x2, x3, x4, x5, x6] (va_rf (mh_r h o 3) :: st) h) := (mw_at mj_287_84).trans (z_getr (by decide) (by decide) rfl)
theorem mj_287_87 : mc_P 287 87 = some (.bipush 24, 2, 0, 0, 0) := by decide +kernel
theorem s_287_87 {x0 x1 x2 x3 x4 x5 x6 : Option Value} : mw d 287 Q 87 [x0, x1, x2, x3, x4, x5, x6] (st) h = mw d 287 Q 89 [x0, x1, x2, x3, x4, x5, x6] (.int 24 :: st) h := (mw_at mj_287_87).trans (z_bipush (by decide))
theorem mj_287_89 : mc_P 287 89 = some (.iload 4, 2, 0, 0, 0) := by decide +kernel
theorem s_287_89 {x0 x1 x2 x3 x5 x6 : Option Value} {w : Value} : mw d 287 Q 89 [x0, x1, x2, x3, some w, x5, x6] (st) h = mv_i w (mw d 287 Q 91 [x0, x1, x2, x3, some w, x5, x6] (w :: st) h) := (mw_at mj_287_89).trans (z_iload rfl)
theorem mj_287_91 : mc_P 287 91 = some (.imul, 1, 0, 0, 0) := by decide +kernel
theorem s_287_91 {x0 x1 x2 x3 x4 x5 x6 : Option Value} {x w : Int32} : mw d 287 Q 91 [x0, x1, x2, x3, x4, x5, x6] (.int w :: .int x :: st) h = mw d 287 Q 92 [x0, x1, x2, x3, x4, x5, x6] (.int (x * w) :: st) h := (mw_at mj_287_91).trans (z_imul)
theorem mj_287_92 : mc_P 287 92 = some (.iload_n 3, 1, 0, 0, 0) := by decide +kernel
theorem s_287_92 {x0 x1 x2 x4 x5 x6 : Option Value} {w : Value} : mw d 287 Q 92 [x0, x1, x2, some w, x4, x5, x6] (st) h = mv_i w (mw d 287 Q 93 [x0, x1, x2, some w, x4, x5, x6] (w :: st) h) := (mw_at mj_287_92).trans (z_iload_n rfl)
theorem mj_287_93 : mc_P 287 93 = some (.iadd, 1, 0, 0, 0) := by decide +kernel
theorem s_287_93 {x0 x1 x2 x3 x4 x5 x6 : Option Value} {x w : Int32} : mw d 287 Q 93 [x0, x1, x2, x3, x4, x5, x6] (.int w :: .int x :: st) h = mw d 287 Q 94 [x0, x1, x2, x3, x4, x5, x6] (.int (x + w) :: st) h := (mw_at mj_287_93).trans (z_iadd)
theorem mj_287_94 : mc_P 287 94 = some (.lload 5, 2, 0, 0, 0) := by decide +kernel
theorem s_287_94 {x0 x1 x2 x3 x4 x6 : Option Value} {w : Value} : mw d 287 Q 94 [x0, x1, x2, x3, x4, some w, x6] (st) h = mv_l w (mw d 287 Q 96 [x0, x1, x2, x3, x4, some w, x6] (w :: st) h) := (mw_at mj_287_94).trans (z_lload rfl)
theorem mj_287_96 : mc_P 287 96 = some (.lastore, 1, 0, 0, 0) := by decide +kernel
theorem s_287_96 {x0 x1 x2 x3 x4 x5 x6 : Option Value} {o : Nat} {i : Int32} {w : Int64} : mw d 287 Q 96 [x0, x1, x2, x3, x4, x5, x6] (.long w :: .int i :: .ref o :: st) h = (mg h o 101 ∧ mx i (mh_l h o) ∧ mw d 287 Q 97 [x0, x1, x2, x3, x4, x5, x6] (st) (mh_sj h o i.toNatClampNeg w)) := (mw_at mj_287_96).trans (z_last)
theorem mj_287_97 : mc_P 287 97 = some (.iinc 4 1, 3, 0, 0, 0) := by decide +kernel
theorem s_287_97 {x0 x1 x2 x3 x5 x6 : Option Value} {w : Int32} : mw d 287 Q 97 [x0, x1, x2, x3, some (.int w), x5, x6] (st) h = mw d 287 Q 100 [x0, x1, x2, mk2 x3, some (.int (w + 1)), x5, x6] (st) h := (mw_at mj_287_97).trans (z_iinc rfl (Nat.le_of_ble_eq_true rfl) (by decide) (me_s1_mk (j := 3) (w := x3) rfl))
theorem mj_287_100 : mc_P 287 100 = some (.goto (-77), 3, 0, 0, 0) := by decide +kernel
theorem s_287_100 {x0 x1 x2 x3 x4 x5 x6 : Option Value} : mw d 287 Q 100 [x0, x1, x2, x3, x4, x5, x6] (st) h = mw d 287 Q 23 [x0, x1, x2, x3, x4, x5, x6] (st) h := (mw_at mj_287_100).trans (z_goto (by decide))
theorem mj_287_103 : mc_P 287 103 = some (.iinc 3 1, 3, 0, 0, 0) := by decide +kernel
theorem s_287_103 {x0 x1 x2 x4 x5 x6 : Option Value} {w : Int32} : mw d 287 Q 103 [x0, x1, x2, some (.int w), x4, x5, x6] (st) h = mw d 287 Q 106 [x0, x1, mk2 x2, some (.int (w + 1)), x4, x5, x6] (st) h := (mw_at mj_287_103).trans (z_iinc rfl (Nat.le_of_ble_eq_true rfl) (by decide) (me_s1_mk (j := 2) (w := x2) rfl))
theorem mj_287_106 : mc_P 287 106 = some (.goto (-95), 3, 0, 0, 0) := by decide +kernel
theorem s_287_106 {x0 x1 x2 x3 x4 x5 x6 : Option Value} : mw d 287 Q 106 [x0, x1, x2, x3, x4, x5, x6] (st) h = mw d 287 Q 11 [x0, x1, x2, x3, x4, x5, x6] (st) h := (mw_at mj_287_106).trans (z_goto (by decide))
theorem mj_287_109 : mc_P 287 109 = some (.return_, 1, 0, 0, 0) := by decide +kernel
theorem s_287_109 {x0 x1 x2 x3 x4 x5 x6 : Option Value} : mw d 287 Q 109 [x0, x1, x2, x3, x4, x5, x6] ([]) h = Q none h := (mw_at mj_287_109).trans (z_vret)
theorem e_287 {a0 : Nat} {a1 : Int32} : mcall d 287 [.ref a0, .int a1] h Q = mw d 287 Q 0 [some (.ref a0), some (.int a1), none, none, none, none, none] [] h := by
  show mw d 287 Q 0 (me_en (mc_nl 287) _) [] h = _
  rw [nl_287]; rfl

/-! InvariantDeskModel$Known.addNumber()V -/
theorem mj_288_0 : mc_P 288 0 = some (.aload_n 0, 1, 0, 0, 0) := by decide +kernel
theorem s_288_0 {w : Value} : mw d 288 Q 0 [some w] (st) h = mv_a w (mw d 288 Q 1 [some w] (w :: st) h) := (mw_at mj_288_0).trans (z_aload_n rfl)
theorem mj_288_1 : mc_P 288 1 = some (.dup, 1, 0, 0, 0) := by decide +kernel
theorem s_288_1 {x0 : Option Value} {w : Value} : mw d 288 Q 1 [x0] (w :: st) h = (w.category = 1 ∧ mw d 288 Q 2 [x0] (w :: w :: st) h) := (mw_at mj_288_1).trans (z_dup)
theorem mj_288_2 : mc_P 288 2 = some (.getfield 39, 3, 13, 1, 0) := by decide +kernel
theorem s_288_2 {x0 : Option Value} {o : Nat} : mw d 288 Q 2 [x0] (.ref o :: st) h = (mg h o 13 ∧ mw d 288 Q 5 [x0] (.int (mh_i h o 1) :: st) h) := (mw_at mj_288_2).trans (z_geti (by decide) (by decide) (Or.inl rfl))
theorem mj_288_5 : mc_P 288 5 = some (.iconst 1, 1, 0, 0, 0) := by decide +kernel
theorem s_288_5 {x0 : Option Value} : mw d 288 Q 5 [x0] (st) h = mw d 288 Q 6 [x0] (.int 1 :: st) h := (mw_at mj_288_5).trans (z_iconst (by decide))
theorem mj_288_6 : mc_P 288 6 = some (.iadd, 1, 0, 0, 0) := by decide +kernel
theorem s_288_6 {x0 : Option Value} {x w : Int32} : mw d 288 Q 6 [x0] (.int w :: .int x :: st) h = mw d 288 Q 7 [x0] (.int (x + w) :: st) h := (mw_at mj_288_6).trans (z_iadd)
theorem mj_288_7 : mc_P 288 7 = some (.putfield 39, 3, 13, 1, 0) := by decide +kernel
theorem s_288_7 {x0 : Option Value} {o : Nat} {w : Int32} : mw d 288 Q 7 [x0] (.int w :: .ref o :: st) h = (mg h o 13 ∧ mw d 288 Q 10 [x0] (st) (mh_si h o 1 w)) := (mw_at mj_288_7).trans (z_puti (by decide) (by decide) rfl)
theorem mj_288_10 : mc_P 288 10 = some (.aload_n 0, 1, 0, 0, 0) := by decide +kernel
theorem s_288_10 {w : Value} : mw d 288 Q 10 [some w] (st) h = mv_a w (mw d 288 Q 11 [some w] (w :: st) h) := (mw_at mj_288_10).trans (z_aload_n rfl)
theorem mj_288_11 : mc_P 288 11 = some (.aload_n 0, 1, 0, 0, 0) := by decide +kernel
theorem s_288_11 {w : Value} : mw d 288 Q 11 [some w] (st) h = mv_a w (mw d 288 Q 12 [some w] (w :: st) h) := (mw_at mj_288_11).trans (z_aload_n rfl)
theorem mj_288_12 : mc_P 288 12 = some (.getfield 39, 3, 13, 1, 0) := by decide +kernel
theorem s_288_12 {x0 : Option Value} {o : Nat} : mw d 288 Q 12 [x0] (.ref o :: st) h = (mg h o 13 ∧ mw d 288 Q 15 [x0] (.int (mh_i h o 1) :: st) h) := (mw_at mj_288_12).trans (z_geti (by decide) (by decide) (Or.inl rfl))
theorem mj_288_15 : mc_P 288 15 = some (.iconst 1, 1, 0, 0, 0) := by decide +kernel
theorem s_288_15 {x0 : Option Value} : mw d 288 Q 15 [x0] (st) h = mw d 288 Q 16 [x0] (.int 1 :: st) h := (mw_at mj_288_15).trans (z_iconst (by decide))
theorem mj_288_16 : mc_P 288 16 = some (.isub, 1, 0, 0, 0) := by decide +kernel
theorem s_288_16 {x0 : Option Value} {x w : Int32} : mw d 288 Q 16 [x0] (.int w :: .int x :: st) h = mw d 288 Q 17 [x0] (.int (x - w) :: st) h := (mw_at mj_288_16).trans (z_isub)
theorem mj_288_17 : mc_P 288 17 = some (.invokevirtual 70, 3, 287, 13, 2) := by decide +kernel
theorem s_288_17 {x0 : Option Value} {o : Nat} {a1 : Value} : mw (d + 1) 288 Q 17 [x0] (a1 :: .ref o :: st) h = (mg h o 13 ∧ mca st 8 ∧ mca [.ref o, a1] 7 ∧ mcall d 287 [.ref o, a1] h (mK (d + 1) 288 Q 20 [x0] st)) := (mw_at mj_288_17).trans ((z_invv (As := [a1]) (by decide) rfl rfl).trans (congrArg (And _) (congrArg (And _) (mC_nl nl_287))))
theorem mj_288_20 : mc_P 288 20 = some (.return_, 1, 0, 0, 0) := by decide +kernel
theorem s_288_20 {x0 : Option Value} : mw d 288 Q 20 [x0] ([]) h = Q none h := (mw_at mj_288_20).trans (z_vret)
theorem e_288 {a0 : Nat} : mcall d 288 [.ref a0] h Q = mw d 288 Q 0 [some (.ref a0)] [] h := by
  show mw d 288 Q 0 (me_en (mc_nl 288) _) [] h = _
  rw [nl_288]; rfl

/-! InvariantDeskModel$Known.addArray(I)V -/
theorem mj_289_0 : mc_P 289 0 = some (.aload_n 0, 1, 0, 0, 0) := by decide +kernel
theorem s_289_0 {x1 : Option Value} {w : Value} : mw d 289 Q 0 [some w, x1] (st) h = mv_a w (mw d 289 Q 1 [some w, x1] (w :: st) h) := (mw_at mj_289_0).trans (z_aload_n rfl)
theorem mj_289_1 : mc_P 289 1 = some (.getfield 13, 3, 13, 4, 0) := by decide +kernel
theorem s_289_1 {x0 x1 : Option Value} {o : Nat} : mw d 289 Q 1 [x0, x1] (.ref o :: st) h = (mg h o 13 ∧ mw d 289 Q 4 [x0, x1] (va_rf (mh_r h o 4) :: st) h) := (mw_at mj_289_1).trans (z_getr (by decide) (by decide) rfl)
theorem mj_289_4 : mc_P 289 4 = some (.aload_n 0, 1, 0, 0, 0) := by decide +kernel
theorem s_289_4 {x1 : Option Value} {w : Value} : mw d 289 Q 4 [some w, x1] (st) h = mv_a w (mw d 289 Q 5 [some w, x1] (w :: st) h) := (mw_at mj_289_4).trans (z_aload_n rfl)
theorem mj_289_5 : mc_P 289 5 = some (.getfield 43, 3, 13, 2, 0) := by decide +kernel
theorem s_289_5 {x0 x1 : Option Value} {o : Nat} : mw d 289 Q 5 [x0, x1] (.ref o :: st) h = (mg h o 13 ∧ mw d 289 Q 8 [x0, x1] (.int (mh_i h o 2) :: st) h) := (mw_at mj_289_5).trans (z_geti (by decide) (by decide) (Or.inl rfl))
theorem mj_289_8 : mc_P 289 8 = some (.lconst 0, 1, 0, 0, 0) := by decide +kernel
theorem s_289_8 {x0 x1 : Option Value} : mw d 289 Q 8 [x0, x1] (st) h = mw d 289 Q 9 [x0, x1] (.long 0 :: st) h := (mw_at mj_289_8).trans (z_lconst (by decide))
theorem mj_289_9 : mc_P 289 9 = some (.lastore, 1, 0, 0, 0) := by decide +kernel
theorem s_289_9 {x0 x1 : Option Value} {o : Nat} {i : Int32} {w : Int64} : mw d 289 Q 9 [x0, x1] (.long w :: .int i :: .ref o :: st) h = (mg h o 101 ∧ mx i (mh_l h o) ∧ mw d 289 Q 10 [x0, x1] (st) (mh_sj h o i.toNatClampNeg w)) := (mw_at mj_289_9).trans (z_last)
theorem mj_289_10 : mc_P 289 10 = some (.aload_n 0, 1, 0, 0, 0) := by decide +kernel
theorem s_289_10 {x1 : Option Value} {w : Value} : mw d 289 Q 10 [some w, x1] (st) h = mv_a w (mw d 289 Q 11 [some w, x1] (w :: st) h) := (mw_at mj_289_10).trans (z_aload_n rfl)
theorem mj_289_11 : mc_P 289 11 = some (.getfield 16, 3, 13, 5, 0) := by decide +kernel
theorem s_289_11 {x0 x1 : Option Value} {o : Nat} : mw d 289 Q 11 [x0, x1] (.ref o :: st) h = (mg h o 13 ∧ mw d 289 Q 14 [x0, x1] (va_rf (mh_r h o 5) :: st) h) := (mw_at mj_289_11).trans (z_getr (by decide) (by decide) rfl)
theorem mj_289_14 : mc_P 289 14 = some (.aload_n 0, 1, 0, 0, 0) := by decide +kernel
theorem s_289_14 {x1 : Option Value} {w : Value} : mw d 289 Q 14 [some w, x1] (st) h = mv_a w (mw d 289 Q 15 [some w, x1] (w :: st) h) := (mw_at mj_289_14).trans (z_aload_n rfl)
theorem mj_289_15 : mc_P 289 15 = some (.getfield 43, 3, 13, 2, 0) := by decide +kernel
theorem s_289_15 {x0 x1 : Option Value} {o : Nat} : mw d 289 Q 15 [x0, x1] (.ref o :: st) h = (mg h o 13 ∧ mw d 289 Q 18 [x0, x1] (.int (mh_i h o 2) :: st) h) := (mw_at mj_289_15).trans (z_geti (by decide) (by decide) (Or.inl rfl))
theorem mj_289_18 : mc_P 289 18 = some (.lconst 0, 1, 0, 0, 0) := by decide +kernel
theorem s_289_18 {x0 x1 : Option Value} : mw d 289 Q 18 [x0, x1] (st) h = mw d 289 Q 19 [x0, x1] (.long 0 :: st) h := (mw_at mj_289_18).trans (z_lconst (by decide))
theorem mj_289_19 : mc_P 289 19 = some (.lastore, 1, 0, 0, 0) := by decide +kernel
theorem s_289_19 {x0 x1 : Option Value} {o : Nat} {i : Int32} {w : Int64} : mw d 289 Q 19 [x0, x1] (.long w :: .int i :: .ref o :: st) h = (mg h o 101 ∧ mx i (mh_l h o) ∧ mw d 289 Q 20 [x0, x1] (st) (mh_sj h o i.toNatClampNeg w)) := (mw_at mj_289_19).trans (z_last)
theorem mj_289_20 : mc_P 289 20 = some (.aload_n 0, 1, 0, 0, 0) := by decide +kernel
theorem s_289_20 {x1 : Option Value} {w : Value} : mw d 289 Q 20 [some w, x1] (st) h = mv_a w (mw d 289 Q 21 [some w, x1] (w :: st) h) := (mw_at mj_289_20).trans (z_aload_n rfl)
theorem mj_289_21 : mc_P 289 21 = some (.getfield 19, 3, 13, 6, 0) := by decide +kernel
theorem s_289_21 {x0 x1 : Option Value} {o : Nat} : mw d 289 Q 21 [x0, x1] (.ref o :: st) h = (mg h o 13 ∧ mw d 289 Q 24 [x0, x1] (va_rf (mh_r h o 6) :: st) h) := (mw_at mj_289_21).trans (z_getr (by decide) (by decide) rfl)
theorem mj_289_24 : mc_P 289 24 = some (.aload_n 0, 1, 0, 0, 0) := by decide +kernel
theorem s_289_24 {x1 : Option Value} {w : Value} : mw d 289 Q 24 [some w, x1] (st) h = mv_a w (mw d 289 Q 25 [some w, x1] (w :: st) h) := (mw_at mj_289_24).trans (z_aload_n rfl)
theorem mj_289_25 : mc_P 289 25 = some (.getfield 43, 3, 13, 2, 0) := by decide +kernel
theorem s_289_25 {x0 x1 : Option Value} {o : Nat} : mw d 289 Q 25 [x0, x1] (.ref o :: st) h = (mg h o 13 ∧ mw d 289 Q 28 [x0, x1] (.int (mh_i h o 2) :: st) h) := (mw_at mj_289_25).trans (z_geti (by decide) (by decide) (Or.inl rfl))
theorem mj_289_28 : mc_P 289 28 = some (.iload_n 1, 1, 0, 0, 0) := by decide +kernel
theorem s_289_28 {x0 : Option Value} {w : Value} : mw d 289 Q 28 [x0, some w] (st) h = mv_i w (mw d 289 Q 29 [x0, some w] (w :: st) h) := (mw_at mj_289_28).trans (z_iload_n rfl)
theorem mj_289_29 : mc_P 289 29 = some (.iastore, 1, 0, 0, 0) := by decide +kernel
theorem s_289_29 {x0 x1 : Option Value} {o : Nat} {i w : Int32} : mw d 289 Q 29 [x0, x1] (.int w :: .int i :: .ref o :: st) h = (mg h o 100 ∧ mx i (mh_l h o) ∧ mw d 289 Q 30 [x0, x1] (st) (mh_si h o i.toNatClampNeg w)) := (mw_at mj_289_29).trans (z_iast)
theorem mj_289_30 : mc_P 289 30 = some (.aload_n 0, 1, 0, 0, 0) := by decide +kernel
theorem s_289_30 {x1 : Option Value} {w : Value} : mw d 289 Q 30 [some w, x1] (st) h = mv_a w (mw d 289 Q 31 [some w, x1] (w :: st) h) := (mw_at mj_289_30).trans (z_aload_n rfl)
theorem mj_289_31 : mc_P 289 31 = some (.dup, 1, 0, 0, 0) := by decide +kernel
theorem s_289_31 {x0 x1 : Option Value} {w : Value} : mw d 289 Q 31 [x0, x1] (w :: st) h = (w.category = 1 ∧ mw d 289 Q 32 [x0, x1] (w :: w :: st) h) := (mw_at mj_289_31).trans (z_dup)
theorem mj_289_32 : mc_P 289 32 = some (.getfield 43, 3, 13, 2, 0) := by decide +kernel
theorem s_289_32 {x0 x1 : Option Value} {o : Nat} : mw d 289 Q 32 [x0, x1] (.ref o :: st) h = (mg h o 13 ∧ mw d 289 Q 35 [x0, x1] (.int (mh_i h o 2) :: st) h) := (mw_at mj_289_32).trans (z_geti (by decide) (by decide) (Or.inl rfl))
theorem mj_289_35 : mc_P 289 35 = some (.iconst 1, 1, 0, 0, 0) := by decide +kernel
theorem s_289_35 {x0 x1 : Option Value} : mw d 289 Q 35 [x0, x1] (st) h = mw d 289 Q 36 [x0, x1] (.int 1 :: st) h := (mw_at mj_289_35).trans (z_iconst (by decide))
theorem mj_289_36 : mc_P 289 36 = some (.iadd, 1, 0, 0, 0) := by decide +kernel
theorem s_289_36 {x0 x1 : Option Value} {x w : Int32} : mw d 289 Q 36 [x0, x1] (.int w :: .int x :: st) h = mw d 289 Q 37 [x0, x1] (.int (x + w) :: st) h := (mw_at mj_289_36).trans (z_iadd)
theorem mj_289_37 : mc_P 289 37 = some (.putfield 43, 3, 13, 2, 0) := by decide +kernel
theorem s_289_37 {x0 x1 : Option Value} {o : Nat} {w : Int32} : mw d 289 Q 37 [x0, x1] (.int w :: .ref o :: st) h = (mg h o 13 ∧ mw d 289 Q 40 [x0, x1] (st) (mh_si h o 2 w)) := (mw_at mj_289_37).trans (z_puti (by decide) (by decide) rfl)
theorem mj_289_40 : mc_P 289 40 = some (.return_, 1, 0, 0, 0) := by decide +kernel
theorem s_289_40 {x0 x1 : Option Value} : mw d 289 Q 40 [x0, x1] ([]) h = Q none h := (mw_at mj_289_40).trans (z_vret)
theorem e_289 {a0 : Nat} {a1 : Int32} : mcall d 289 [.ref a0, .int a1] h Q = mw d 289 Q 0 [some (.ref a0), some (.int a1)] [] h := by
  show mw d 289 Q 0 (me_en (mc_nl 289) _) [] h = _
  rw [nl_289]; rfl

/-! InvariantDeskModel$Known.cut(II)V -/
theorem mj_290_0 : mc_P 290 0 = some (.aload_n 0, 1, 0, 0, 0) := by decide +kernel
theorem s_290_0 {x1 x2 : Option Value} {w : Value} : mw d 290 Q 0 [some w, x1, x2] (st) h = mv_a w (mw d 290 Q 1 [some w, x1, x2] (w :: st) h) := (mw_at mj_290_0).trans (z_aload_n rfl)
theorem mj_290_1 : mc_P 290 1 = some (.iload_n 1, 1, 0, 0, 0) := by decide +kernel
theorem s_290_1 {x0 x2 : Option Value} {w : Value} : mw d 290 Q 1 [x0, some w, x2] (st) h = mv_i w (mw d 290 Q 2 [x0, some w, x2] (w :: st) h) := (mw_at mj_290_1).trans (z_iload_n rfl)
theorem mj_290_2 : mc_P 290 2 = some (.putfield 39, 3, 13, 1, 0) := by decide +kernel
theorem s_290_2 {x0 x1 x2 : Option Value} {o : Nat} {w : Int32} : mw d 290 Q 2 [x0, x1, x2] (.int w :: .ref o :: st) h = (mg h o 13 ∧ mw d 290 Q 5 [x0, x1, x2] (st) (mh_si h o 1 w)) := (mw_at mj_290_2).trans (z_puti (by decide) (by decide) rfl)
theorem mj_290_5 : mc_P 290 5 = some (.aload_n 0, 1, 0, 0, 0) := by decide +kernel
theorem s_290_5 {x1 x2 : Option Value} {w : Value} : mw d 290 Q 5 [some w, x1, x2] (st) h = mv_a w (mw d 290 Q 6 [some w, x1, x2] (w :: st) h) := (mw_at mj_290_5).trans (z_aload_n rfl)
theorem mj_290_6 : mc_P 290 6 = some (.iload_n 2, 1, 0, 0, 0) := by decide +kernel
theorem s_290_6 {x0 x1 : Option Value} {w : Value} : mw d 290 Q 6 [x0, x1, some w] (st) h = mv_i w (mw d 290 Q 7 [x0, x1, some w] (w :: st) h) := (mw_at mj_290_6).trans (z_iload_n rfl)
theorem mj_290_7 : mc_P 290 7 = some (.putfield 43, 3, 13, 2, 0) := by decide +kernel
theorem s_290_7 {x0 x1 x2 : Option Value} {o : Nat} {w : Int32} : mw d 290 Q 7 [x0, x1, x2] (.int w :: .ref o :: st) h = (mg h o 13 ∧ mw d 290 Q 10 [x0, x1, x2] (st) (mh_si h o 2 w)) := (mw_at mj_290_7).trans (z_puti (by decide) (by decide) rfl)
theorem mj_290_10 : mc_P 290 10 = some (.return_, 1, 0, 0, 0) := by decide +kernel
theorem s_290_10 {x0 x1 x2 : Option Value} : mw d 290 Q 10 [x0, x1, x2] ([]) h = Q none h := (mw_at mj_290_10).trans (z_vret)
theorem e_290 {a0 : Nat} {a1 : Int32} {a2 : Int32} : mcall d 290 [.ref a0, .int a1, .int a2] h Q = mw d 290 Q 0 [some (.ref a0), some (.int a1), some (.int a2)] [] h := by
  show mw d 290 Q 0 (me_en (mc_nl 290) _) [] h = _
  rw [nl_290]; rfl

/-! InvariantDeskModel$Known.turn(I)V -/
theorem mj_291_0 : mc_P 291 0 = some (.iconst 2, 1, 0, 0, 0) := by decide +kernel
theorem s_291_0 {x0 x1 x2 x3 x4 x5 : Option Value} : mw d 291 Q 0 [x0, x1, x2, x3, x4, x5] (st) h = mw d 291 Q 1 [x0, x1, x2, x3, x4, x5] (.int 2 :: st) h := (mw_at mj_291_0).trans (z_iconst (by decide))
theorem mj_291_1 : mc_P 291 1 = some (.aload_n 0, 1, 0, 0, 0) := by decide +kernel
theorem s_291_1 {x1 x2 x3 x4 x5 : Option Value} {w : Value} : mw d 291 Q 1 [some w, x1, x2, x3, x4, x5] (st) h = mv_a w (mw d 291 Q 2 [some w, x1, x2, x3, x4, x5] (w :: st) h) := (mw_at mj_291_1).trans (z_aload_n rfl)
theorem mj_291_2 : mc_P 291 2 = some (.getfield 39, 3, 13, 1, 0) := by decide +kernel
theorem s_291_2 {x0 x1 x2 x3 x4 x5 : Option Value} {o : Nat} : mw d 291 Q 2 [x0, x1, x2, x3, x4, x5] (.ref o :: st) h = (mg h o 13 ∧ mw d 291 Q 5 [x0, x1, x2, x3, x4, x5] (.int (mh_i h o 1) :: st) h) := (mw_at mj_291_2).trans (z_geti (by decide) (by decide) (Or.inl rfl))
theorem mj_291_5 : mc_P 291 5 = some (.imul, 1, 0, 0, 0) := by decide +kernel
theorem s_291_5 {x0 x1 x2 x3 x4 x5 : Option Value} {x w : Int32} : mw d 291 Q 5 [x0, x1, x2, x3, x4, x5] (.int w :: .int x :: st) h = mw d 291 Q 6 [x0, x1, x2, x3, x4, x5] (.int (x * w) :: st) h := (mw_at mj_291_5).trans (z_imul)
theorem mj_291_6 : mc_P 291 6 = some (.istore_n 2, 1, 0, 0, 0) := by decide +kernel
theorem s_291_6 {x0 x1 x2 x3 x4 x5 : Option Value} {w : Int32} : mw d 291 Q 6 [x0, x1, x2, x3, x4, x5] (.int w :: st) h = mw d 291 Q 7 [x0, mk2 x1, some (.int w), x3, x4, x5] (st) h := (mw_at mj_291_6).trans (z_istore_n (Nat.le_of_ble_eq_true rfl) (me_s1_mk (j := 1) (w := x1) rfl))
theorem mj_291_7 : mc_P 291 7 = some (.iconst 0, 1, 0, 0, 0) := by decide +kernel
theorem s_291_7 {x0 x1 x2 x3 x4 x5 : Option Value} : mw d 291 Q 7 [x0, x1, x2, x3, x4, x5] (st) h = mw d 291 Q 8 [x0, x1, x2, x3, x4, x5] (.int 0 :: st) h := (mw_at mj_291_7).trans (z_iconst (by decide))
theorem mj_291_8 : mc_P 291 8 = some (.istore_n 3, 1, 0, 0, 0) := by decide +kernel
theorem s_291_8 {x0 x1 x2 x3 x4 x5 : Option Value} {w : Int32} : mw d 291 Q 8 [x0, x1, x2, x3, x4, x5] (.int w :: st) h = mw d 291 Q 9 [x0, x1, mk2 x2, some (.int w), x4, x5] (st) h := (mw_at mj_291_8).trans (z_istore_n (Nat.le_of_ble_eq_true rfl) (me_s1_mk (j := 2) (w := x2) rfl))
theorem mj_291_9 : mc_P 291 9 = some (.iload_n 3, 1, 0, 0, 0) := by decide +kernel
theorem s_291_9 {x0 x1 x2 x4 x5 : Option Value} {w : Value} : mw d 291 Q 9 [x0, x1, x2, some w, x4, x5] (st) h = mv_i w (mw d 291 Q 10 [x0, x1, x2, some w, x4, x5] (w :: st) h) := (mw_at mj_291_9).trans (z_iload_n rfl)
theorem mj_291_10 : mc_P 291 10 = some (.iload_n 2, 1, 0, 0, 0) := by decide +kernel
theorem s_291_10 {x0 x1 x3 x4 x5 : Option Value} {w : Value} : mw d 291 Q 10 [x0, x1, some w, x3, x4, x5] (st) h = mv_i w (mw d 291 Q 11 [x0, x1, some w, x3, x4, x5] (w :: st) h) := (mw_at mj_291_10).trans (z_iload_n rfl)
theorem mj_291_11 : mc_P 291 11 = some (.if_icmp .ge 69, 3, 0, 0, 0) := by decide +kernel
theorem s_291_11 {x0 x1 x2 x3 x4 x5 : Option Value} {x w : Int32} : mw d 291 Q 11 [x0, x1, x2, x3, x4, x5] (.int w :: .int x :: st) h = mB (w ≤ x) (mw d 291 Q) 80 14 [x0, x1, x2, x3, x4, x5] st h := (mw_at mj_291_11).trans (z_icmp_ge (by decide) rfl)
theorem mj_291_14 : mc_P 291 14 = some (.aload_n 0, 1, 0, 0, 0) := by decide +kernel
theorem s_291_14 {x1 x2 x3 x4 x5 : Option Value} {w : Value} : mw d 291 Q 14 [some w, x1, x2, x3, x4, x5] (st) h = mv_a w (mw d 291 Q 15 [some w, x1, x2, x3, x4, x5] (w :: st) h) := (mw_at mj_291_14).trans (z_aload_n rfl)
theorem mj_291_15 : mc_P 291 15 = some (.getfield 9, 3, 13, 3, 0) := by decide +kernel
theorem s_291_15 {x0 x1 x2 x3 x4 x5 : Option Value} {o : Nat} : mw d 291 Q 15 [x0, x1, x2, x3, x4, x5] (.ref o :: st) h = (mg h o 13 ∧ mw d 291 Q 18 [x0, x1, x2, x3, x4, x5] (va_rf (mh_r h o 3) :: st) h) := (mw_at mj_291_15).trans (z_getr (by decide) (by decide) rfl)
theorem mj_291_18 : mc_P 291 18 = some (.bipush 24, 2, 0, 0, 0) := by decide +kernel
theorem s_291_18 {x0 x1 x2 x3 x4 x5 : Option Value} : mw d 291 Q 18 [x0, x1, x2, x3, x4, x5] (st) h = mw d 291 Q 20 [x0, x1, x2, x3, x4, x5] (.int 24 :: st) h := (mw_at mj_291_18).trans (z_bipush (by decide))
theorem mj_291_20 : mc_P 291 20 = some (.iconst 2, 1, 0, 0, 0) := by decide +kernel
theorem s_291_20 {x0 x1 x2 x3 x4 x5 : Option Value} : mw d 291 Q 20 [x0, x1, x2, x3, x4, x5] (st) h = mw d 291 Q 21 [x0, x1, x2, x3, x4, x5] (.int 2 :: st) h := (mw_at mj_291_20).trans (z_iconst (by decide))
theorem mj_291_21 : mc_P 291 21 = some (.iload_n 1, 1, 0, 0, 0) := by decide +kernel
theorem s_291_21 {x0 x2 x3 x4 x5 : Option Value} {w : Value} : mw d 291 Q 21 [x0, some w, x2, x3, x4, x5] (st) h = mv_i w (mw d 291 Q 22 [x0, some w, x2, x3, x4, x5] (w :: st) h) := (mw_at mj_291_21).trans (z_iload_n rfl)
theorem mj_291_22 : mc_P 291 22 = some (.imul, 1, 0, 0, 0) := by decide +kernel
theorem s_291_22 {x0 x1 x2 x3 x4 x5 : Option Value} {x w : Int32} : mw d 291 Q 22 [x0, x1, x2, x3, x4, x5] (.int w :: .int x :: st) h = mw d 291 Q 23 [x0, x1, x2, x3, x4, x5] (.int (x * w) :: st) h := (mw_at mj_291_22).trans (z_imul)
theorem mj_291_23 : mc_P 291 23 = some (.imul, 1, 0, 0, 0) := by decide +kernel
theorem s_291_23 {x0 x1 x2 x3 x4 x5 : Option Value} {x w : Int32} : mw d 291 Q 23 [x0, x1, x2, x3, x4, x5] (.int w :: .int x :: st) h = mw d 291 Q 24 [x0, x1, x2, x3, x4, x5] (.int (x * w) :: st) h := (mw_at mj_291_23).trans (z_imul)
theorem mj_291_24 : mc_P 291 24 = some (.iload_n 3, 1, 0, 0, 0) := by decide +kernel
theorem s_291_24 {x0 x1 x2 x4 x5 : Option Value} {w : Value} : mw d 291 Q 24 [x0, x1, x2, some w, x4, x5] (st) h = mv_i w (mw d 291 Q 25 [x0, x1, x2, some w, x4, x5] (w :: st) h) := (mw_at mj_291_24).trans (z_iload_n rfl)
theorem mj_291_25 : mc_P 291 25 = some (.iadd, 1, 0, 0, 0) := by decide +kernel
theorem s_291_25 {x0 x1 x2 x3 x4 x5 : Option Value} {x w : Int32} : mw d 291 Q 25 [x0, x1, x2, x3, x4, x5] (.int w :: .int x :: st) h = mw d 291 Q 26 [x0, x1, x2, x3, x4, x5] (.int (x + w) :: st) h := (mw_at mj_291_25).trans (z_iadd)
theorem mj_291_26 : mc_P 291 26 = some (.laload, 1, 0, 0, 0) := by decide +kernel
theorem s_291_26 {x0 x1 x2 x3 x4 x5 : Option Value} {o : Nat} {i : Int32} : mw d 291 Q 26 [x0, x1, x2, x3, x4, x5] (.int i :: .ref o :: st) h = (mg h o 101 ∧ mx i (mh_l h o) ∧ mw d 291 Q 27 [x0, x1, x2, x3, x4, x5] (.long (mh_j h o i.toNatClampNeg) :: st) h) := (mw_at mj_291_26).trans (z_lald)
theorem mj_291_27 : mc_P 291 27 = some (.lstore 4, 2, 0, 0, 0) := by decide +kernel
theorem s_291_27 {x0 x1 x2 x3 x4 x5 : Option Value} {w : Int64} : mw d 291 Q 27 [x0, x1, x2, x3, x4, x5] (.long w :: st) h = mw d 291 Q 29 [x0, x1, x2, mk2 x3, some (.long w), none] (st) h := (mw_at mj_291_27).trans (z_lstore (Nat.le_of_ble_eq_true rfl) (me_s2_mk (j := 3) (w := x3) rfl))
theorem mj_291_29 : mc_P 291 29 = some (.aload_n 0, 1, 0, 0, 0) := by decide +kernel
theorem s_291_29 {x1 x2 x3 x4 x5 : Option Value} {w : Value} : mw d 291 Q 29 [some w, x1, x2, x3, x4, x5] (st) h = mv_a w (mw d 291 Q 30 [some w, x1, x2, x3, x4, x5] (w :: st) h) := (mw_at mj_291_29).trans (z_aload_n rfl)
theorem mj_291_30 : mc_P 291 30 = some (.getfield 9, 3, 13, 3, 0) := by decide +kernel
theorem s_291_30 {x0 x1 x2 x3 x4 x5 : Option Value} {o : Nat} : mw d 291 Q 30 [x0, x1, x2, x3, x4, x5] (.ref o :: st) h = (mg h o 13 ∧ mw d 291 Q 33 [x0, x1, x2, x3, x4, x5] (va_rf (mh_r h o 3) :: st) h) := (mw_at mj_291_30).trans (z_getr (by decide) (by decide) rfl)
theorem mj_291_33 : mc_P 291 33 = some (.bipush 24, 2, 0, 0, 0) := by decide +kernel
theorem s_291_33 {x0 x1 x2 x3 x4 x5 : Option Value} : mw d 291 Q 33 [x0, x1, x2, x3, x4, x5] (st) h = mw d 291 Q 35 [x0, x1, x2, x3, x4, x5] (.int 24 :: st) h := (mw_at mj_291_33).trans (z_bipush (by decide))
theorem mj_291_35 : mc_P 291 35 = some (.iconst 2, 1, 0, 0, 0) := by decide +kernel
theorem s_291_35 {x0 x1 x2 x3 x4 x5 : Option Value} : mw d 291 Q 35 [x0, x1, x2, x3, x4, x5] (st) h = mw d 291 Q 36 [x0, x1, x2, x3, x4, x5] (.int 2 :: st) h := (mw_at mj_291_35).trans (z_iconst (by decide))
theorem mj_291_36 : mc_P 291 36 = some (.iload_n 1, 1, 0, 0, 0) := by decide +kernel
theorem s_291_36 {x0 x2 x3 x4 x5 : Option Value} {w : Value} : mw d 291 Q 36 [x0, some w, x2, x3, x4, x5] (st) h = mv_i w (mw d 291 Q 37 [x0, some w, x2, x3, x4, x5] (w :: st) h) := (mw_at mj_291_36).trans (z_iload_n rfl)
theorem mj_291_37 : mc_P 291 37 = some (.imul, 1, 0, 0, 0) := by decide +kernel
theorem s_291_37 {x0 x1 x2 x3 x4 x5 : Option Value} {x w : Int32} : mw d 291 Q 37 [x0, x1, x2, x3, x4, x5] (.int w :: .int x :: st) h = mw d 291 Q 38 [x0, x1, x2, x3, x4, x5] (.int (x * w) :: st) h := (mw_at mj_291_37).trans (z_imul)
theorem mj_291_38 : mc_P 291 38 = some (.imul, 1, 0, 0, 0) := by decide +kernel
theorem s_291_38 {x0 x1 x2 x3 x4 x5 : Option Value} {x w : Int32} : mw d 291 Q 38 [x0, x1, x2, x3, x4, x5] (.int w :: .int x :: st) h = mw d 291 Q 39 [x0, x1, x2, x3, x4, x5] (.int (x * w) :: st) h := (mw_at mj_291_38).trans (z_imul)
theorem mj_291_39 : mc_P 291 39 = some (.iload_n 3, 1, 0, 0, 0) := by decide +kernel
theorem s_291_39 {x0 x1 x2 x4 x5 : Option Value} {w : Value} : mw d 291 Q 39 [x0, x1, x2, some w, x4, x5] (st) h = mv_i w (mw d 291 Q 40 [x0, x1, x2, some w, x4, x5] (w :: st) h) := (mw_at mj_291_39).trans (z_iload_n rfl)
theorem mj_291_40 : mc_P 291 40 = some (.iadd, 1, 0, 0, 0) := by decide +kernel
theorem s_291_40 {x0 x1 x2 x3 x4 x5 : Option Value} {x w : Int32} : mw d 291 Q 40 [x0, x1, x2, x3, x4, x5] (.int w :: .int x :: st) h = mw d 291 Q 41 [x0, x1, x2, x3, x4, x5] (.int (x + w) :: st) h := (mw_at mj_291_40).trans (z_iadd)
theorem mj_291_41 : mc_P 291 41 = some (.aload_n 0, 1, 0, 0, 0) := by decide +kernel
theorem s_291_41 {x1 x2 x3 x4 x5 : Option Value} {w : Value} : mw d 291 Q 41 [some w, x1, x2, x3, x4, x5] (st) h = mv_a w (mw d 291 Q 42 [some w, x1, x2, x3, x4, x5] (w :: st) h) := (mw_at mj_291_41).trans (z_aload_n rfl)
theorem mj_291_42 : mc_P 291 42 = some (.getfield 9, 3, 13, 3, 0) := by decide +kernel
theorem s_291_42 {x0 x1 x2 x3 x4 x5 : Option Value} {o : Nat} : mw d 291 Q 42 [x0, x1, x2, x3, x4, x5] (.ref o :: st) h = (mg h o 13 ∧ mw d 291 Q 45 [x0, x1, x2, x3, x4, x5] (va_rf (mh_r h o 3) :: st) h) := (mw_at mj_291_42).trans (z_getr (by decide) (by decide) rfl)
theorem mj_291_45 : mc_P 291 45 = some (.bipush 24, 2, 0, 0, 0) := by decide +kernel
theorem s_291_45 {x0 x1 x2 x3 x4 x5 : Option Value} : mw d 291 Q 45 [x0, x1, x2, x3, x4, x5] (st) h = mw d 291 Q 47 [x0, x1, x2, x3, x4, x5] (.int 24 :: st) h := (mw_at mj_291_45).trans (z_bipush (by decide))
theorem mj_291_47 : mc_P 291 47 = some (.iconst 2, 1, 0, 0, 0) := by decide +kernel
theorem s_291_47 {x0 x1 x2 x3 x4 x5 : Option Value} : mw d 291 Q 47 [x0, x1, x2, x3, x4, x5] (st) h = mw d 291 Q 48 [x0, x1, x2, x3, x4, x5] (.int 2 :: st) h := (mw_at mj_291_47).trans (z_iconst (by decide))
theorem mj_291_48 : mc_P 291 48 = some (.iload_n 1, 1, 0, 0, 0) := by decide +kernel
theorem s_291_48 {x0 x2 x3 x4 x5 : Option Value} {w : Value} : mw d 291 Q 48 [x0, some w, x2, x3, x4, x5] (st) h = mv_i w (mw d 291 Q 49 [x0, some w, x2, x3, x4, x5] (w :: st) h) := (mw_at mj_291_48).trans (z_iload_n rfl)
theorem mj_291_49 : mc_P 291 49 = some (.imul, 1, 0, 0, 0) := by decide +kernel
theorem s_291_49 {x0 x1 x2 x3 x4 x5 : Option Value} {x w : Int32} : mw d 291 Q 49 [x0, x1, x2, x3, x4, x5] (.int w :: .int x :: st) h = mw d 291 Q 50 [x0, x1, x2, x3, x4, x5] (.int (x * w) :: st) h := (mw_at mj_291_49).trans (z_imul)
theorem mj_291_50 : mc_P 291 50 = some (.iconst 1, 1, 0, 0, 0) := by decide +kernel
theorem s_291_50 {x0 x1 x2 x3 x4 x5 : Option Value} : mw d 291 Q 50 [x0, x1, x2, x3, x4, x5] (st) h = mw d 291 Q 51 [x0, x1, x2, x3, x4, x5] (.int 1 :: st) h := (mw_at mj_291_50).trans (z_iconst (by decide))
theorem mj_291_51 : mc_P 291 51 = some (.iadd, 1, 0, 0, 0) := by decide +kernel
theorem s_291_51 {x0 x1 x2 x3 x4 x5 : Option Value} {x w : Int32} : mw d 291 Q 51 [x0, x1, x2, x3, x4, x5] (.int w :: .int x :: st) h = mw d 291 Q 52 [x0, x1, x2, x3, x4, x5] (.int (x + w) :: st) h := (mw_at mj_291_51).trans (z_iadd)
theorem mj_291_52 : mc_P 291 52 = some (.imul, 1, 0, 0, 0) := by decide +kernel
theorem s_291_52 {x0 x1 x2 x3 x4 x5 : Option Value} {x w : Int32} : mw d 291 Q 52 [x0, x1, x2, x3, x4, x5] (.int w :: .int x :: st) h = mw d 291 Q 53 [x0, x1, x2, x3, x4, x5] (.int (x * w) :: st) h := (mw_at mj_291_52).trans (z_imul)
theorem mj_291_53 : mc_P 291 53 = some (.iload_n 3, 1, 0, 0, 0) := by decide +kernel
theorem s_291_53 {x0 x1 x2 x4 x5 : Option Value} {w : Value} : mw d 291 Q 53 [x0, x1, x2, some w, x4, x5] (st) h = mv_i w (mw d 291 Q 54 [x0, x1, x2, some w, x4, x5] (w :: st) h) := (mw_at mj_291_53).trans (z_iload_n rfl)
theorem mj_291_54 : mc_P 291 54 = some (.iadd, 1, 0, 0, 0) := by decide +kernel
theorem s_291_54 {x0 x1 x2 x3 x4 x5 : Option Value} {x w : Int32} : mw d 291 Q 54 [x0, x1, x2, x3, x4, x5] (.int w :: .int x :: st) h = mw d 291 Q 55 [x0, x1, x2, x3, x4, x5] (.int (x + w) :: st) h := (mw_at mj_291_54).trans (z_iadd)
theorem mj_291_55 : mc_P 291 55 = some (.laload, 1, 0, 0, 0) := by decide +kernel
theorem s_291_55 {x0 x1 x2 x3 x4 x5 : Option Value} {o : Nat} {i : Int32} : mw d 291 Q 55 [x0, x1, x2, x3, x4, x5] (.int i :: .ref o :: st) h = (mg h o 101 ∧ mx i (mh_l h o) ∧ mw d 291 Q 56 [x0, x1, x2, x3, x4, x5] (.long (mh_j h o i.toNatClampNeg) :: st) h) := (mw_at mj_291_55).trans (z_lald)
theorem mj_291_56 : mc_P 291 56 = some (.lastore, 1, 0, 0, 0) := by decide +kernel
theorem s_291_56 {x0 x1 x2 x3 x4 x5 : Option Value} {o : Nat} {i : Int32} {w : Int64} : mw d 291 Q 56 [x0, x1, x2, x3, x4, x5] (.long w :: .int i :: .ref o :: st) h = (mg h o 101 ∧ mx i (mh_l h o) ∧ mw d 291 Q 57 [x0, x1, x2, x3, x4, x5] (st) (mh_sj h o i.toNatClampNeg w)) := (mw_at mj_291_56).trans (z_last)
theorem mj_291_57 : mc_P 291 57 = some (.aload_n 0, 1, 0, 0, 0) := by decide +kernel
theorem s_291_57 {x1 x2 x3 x4 x5 : Option Value} {w : Value} : mw d 291 Q 57 [some w, x1, x2, x3, x4, x5] (st) h = mv_a w (mw d 291 Q 58 [some w, x1, x2, x3, x4, x5] (w :: st) h) := (mw_at mj_291_57).trans (z_aload_n rfl)
theorem mj_291_58 : mc_P 291 58 = some (.getfield 9, 3, 13, 3, 0) := by decide +kernel
theorem s_291_58 {x0 x1 x2 x3 x4 x5 : Option Value} {o : Nat} : mw d 291 Q 58 [x0, x1, x2, x3, x4, x5] (.ref o :: st) h = (mg h o 13 ∧ mw d 291 Q 61 [x0, x1, x2, x3, x4, x5] (va_rf (mh_r h o 3) :: st) h) := (mw_at mj_291_58).trans (z_getr (by decide) (by decide) rfl)
theorem mj_291_61 : mc_P 291 61 = some (.bipush 24, 2, 0, 0, 0) := by decide +kernel
theorem s_291_61 {x0 x1 x2 x3 x4 x5 : Option Value} : mw d 291 Q 61 [x0, x1, x2, x3, x4, x5] (st) h = mw d 291 Q 63 [x0, x1, x2, x3, x4, x5] (.int 24 :: st) h := (mw_at mj_291_61).trans (z_bipush (by decide))
theorem mj_291_63 : mc_P 291 63 = some (.iconst 2, 1, 0, 0, 0) := by decide +kernel
theorem s_291_63 {x0 x1 x2 x3 x4 x5 : Option Value} : mw d 291 Q 63 [x0, x1, x2, x3, x4, x5] (st) h = mw d 291 Q 64 [x0, x1, x2, x3, x4, x5] (.int 2 :: st) h := (mw_at mj_291_63).trans (z_iconst (by decide))
theorem mj_291_64 : mc_P 291 64 = some (.iload_n 1, 1, 0, 0, 0) := by decide +kernel
theorem s_291_64 {x0 x2 x3 x4 x5 : Option Value} {w : Value} : mw d 291 Q 64 [x0, some w, x2, x3, x4, x5] (st) h = mv_i w (mw d 291 Q 65 [x0, some w, x2, x3, x4, x5] (w :: st) h) := (mw_at mj_291_64).trans (z_iload_n rfl)
theorem mj_291_65 : mc_P 291 65 = some (.imul, 1, 0, 0, 0) := by decide +kernel
theorem s_291_65 {x0 x1 x2 x3 x4 x5 : Option Value} {x w : Int32} : mw d 291 Q 65 [x0, x1, x2, x3, x4, x5] (.int w :: .int x :: st) h = mw d 291 Q 66 [x0, x1, x2, x3, x4, x5] (.int (x * w) :: st) h := (mw_at mj_291_65).trans (z_imul)
theorem mj_291_66 : mc_P 291 66 = some (.iconst 1, 1, 0, 0, 0) := by decide +kernel
theorem s_291_66 {x0 x1 x2 x3 x4 x5 : Option Value} : mw d 291 Q 66 [x0, x1, x2, x3, x4, x5] (st) h = mw d 291 Q 67 [x0, x1, x2, x3, x4, x5] (.int 1 :: st) h := (mw_at mj_291_66).trans (z_iconst (by decide))
theorem mj_291_67 : mc_P 291 67 = some (.iadd, 1, 0, 0, 0) := by decide +kernel
theorem s_291_67 {x0 x1 x2 x3 x4 x5 : Option Value} {x w : Int32} : mw d 291 Q 67 [x0, x1, x2, x3, x4, x5] (.int w :: .int x :: st) h = mw d 291 Q 68 [x0, x1, x2, x3, x4, x5] (.int (x + w) :: st) h := (mw_at mj_291_67).trans (z_iadd)
theorem mj_291_68 : mc_P 291 68 = some (.imul, 1, 0, 0, 0) := by decide +kernel
theorem s_291_68 {x0 x1 x2 x3 x4 x5 : Option Value} {x w : Int32} : mw d 291 Q 68 [x0, x1, x2, x3, x4, x5] (.int w :: .int x :: st) h = mw d 291 Q 69 [x0, x1, x2, x3, x4, x5] (.int (x * w) :: st) h := (mw_at mj_291_68).trans (z_imul)
theorem mj_291_69 : mc_P 291 69 = some (.iload_n 3, 1, 0, 0, 0) := by decide +kernel
theorem s_291_69 {x0 x1 x2 x4 x5 : Option Value} {w : Value} : mw d 291 Q 69 [x0, x1, x2, some w, x4, x5] (st) h = mv_i w (mw d 291 Q 70 [x0, x1, x2, some w, x4, x5] (w :: st) h) := (mw_at mj_291_69).trans (z_iload_n rfl)
theorem mj_291_70 : mc_P 291 70 = some (.iadd, 1, 0, 0, 0) := by decide +kernel
theorem s_291_70 {x0 x1 x2 x3 x4 x5 : Option Value} {x w : Int32} : mw d 291 Q 70 [x0, x1, x2, x3, x4, x5] (.int w :: .int x :: st) h = mw d 291 Q 71 [x0, x1, x2, x3, x4, x5] (.int (x + w) :: st) h := (mw_at mj_291_70).trans (z_iadd)
theorem mj_291_71 : mc_P 291 71 = some (.lload 4, 2, 0, 0, 0) := by decide +kernel
theorem s_291_71 {x0 x1 x2 x3 x5 : Option Value} {w : Value} : mw d 291 Q 71 [x0, x1, x2, x3, some w, x5] (st) h = mv_l w (mw d 291 Q 73 [x0, x1, x2, x3, some w, x5] (w :: st) h) := (mw_at mj_291_71).trans (z_lload rfl)
theorem mj_291_73 : mc_P 291 73 = some (.lastore, 1, 0, 0, 0) := by decide +kernel
theorem s_291_73 {x0 x1 x2 x3 x4 x5 : Option Value} {o : Nat} {i : Int32} {w : Int64} : mw d 291 Q 73 [x0, x1, x2, x3, x4, x5] (.long w :: .int i :: .ref o :: st) h = (mg h o 101 ∧ mx i (mh_l h o) ∧ mw d 291 Q 74 [x0, x1, x2, x3, x4, x5] (st) (mh_sj h o i.toNatClampNeg w)) := (mw_at mj_291_73).trans (z_last)
theorem mj_291_74 : mc_P 291 74 = some (.iinc 3 1, 3, 0, 0, 0) := by decide +kernel
theorem s_291_74 {x0 x1 x2 x4 x5 : Option Value} {w : Int32} : mw d 291 Q 74 [x0, x1, x2, some (.int w), x4, x5] (st) h = mw d 291 Q 77 [x0, x1, mk2 x2, some (.int (w + 1)), x4, x5] (st) h := (mw_at mj_291_74).trans (z_iinc rfl (Nat.le_of_ble_eq_true rfl) (by decide) (me_s1_mk (j := 2) (w := x2) rfl))
theorem mj_291_77 : mc_P 291 77 = some (.goto (-68), 3, 0, 0, 0) := by decide +kernel
theorem s_291_77 {x0 x1 x2 x3 x4 x5 : Option Value} : mw d 291 Q 77 [x0, x1, x2, x3, x4, x5] (st) h = mw d 291 Q 9 [x0, x1, x2, x3, x4, x5] (st) h := (mw_at mj_291_77).trans (z_goto (by decide))
theorem mj_291_80 : mc_P 291 80 = some (.iconst 0, 1, 0, 0, 0) := by decide +kernel
theorem s_291_80 {x0 x1 x2 x3 x4 x5 : Option Value} : mw d 291 Q 80 [x0, x1, x2, x3, x4, x5] (st) h = mw d 291 Q 81 [x0, x1, x2, x3, x4, x5] (.int 0 :: st) h := (mw_at mj_291_80).trans (z_iconst (by decide))
theorem mj_291_81 : mc_P 291 81 = some (.istore_n 3, 1, 0, 0, 0) := by decide +kernel
theorem s_291_81 {x0 x1 x2 x3 x4 x5 : Option Value} {w : Int32} : mw d 291 Q 81 [x0, x1, x2, x3, x4, x5] (.int w :: st) h = mw d 291 Q 82 [x0, x1, mk2 x2, some (.int w), x4, x5] (st) h := (mw_at mj_291_81).trans (z_istore_n (Nat.le_of_ble_eq_true rfl) (me_s1_mk (j := 2) (w := x2) rfl))
theorem mj_291_82 : mc_P 291 82 = some (.iload_n 3, 1, 0, 0, 0) := by decide +kernel
theorem s_291_82 {x0 x1 x2 x4 x5 : Option Value} {w : Value} : mw d 291 Q 82 [x0, x1, x2, some w, x4, x5] (st) h = mv_i w (mw d 291 Q 83 [x0, x1, x2, some w, x4, x5] (w :: st) h) := (mw_at mj_291_82).trans (z_iload_n rfl)
theorem mj_291_83 : mc_P 291 83 = some (.iload_n 2, 1, 0, 0, 0) := by decide +kernel
theorem s_291_83 {x0 x1 x3 x4 x5 : Option Value} {w : Value} : mw d 291 Q 83 [x0, x1, some w, x3, x4, x5] (st) h = mv_i w (mw d 291 Q 84 [x0, x1, some w, x3, x4, x5] (w :: st) h) := (mw_at mj_291_83).trans (z_iload_n rfl)
theorem mj_291_84 : mc_P 291 84 = some (.if_icmp .ge 69, 3, 0, 0, 0) := by decide +kernel
theorem s_291_84 {x0 x1 x2 x3 x4 x5 : Option Value} {x w : Int32} : mw d 291 Q 84 [x0, x1, x2, x3, x4, x5] (.int w :: .int x :: st) h = mB (w ≤ x) (mw d 291 Q) 153 87 [x0, x1, x2, x3, x4, x5] st h := (mw_at mj_291_84).trans (z_icmp_ge (by decide) rfl)
theorem mj_291_87 : mc_P 291 87 = some (.aload_n 0, 1, 0, 0, 0) := by decide +kernel
theorem s_291_87 {x1 x2 x3 x4 x5 : Option Value} {w : Value} : mw d 291 Q 87 [some w, x1, x2, x3, x4, x5] (st) h = mv_a w (mw d 291 Q 88 [some w, x1, x2, x3, x4, x5] (w :: st) h) := (mw_at mj_291_87).trans (z_aload_n rfl)
theorem mj_291_88 : mc_P 291 88 = some (.getfield 9, 3, 13, 3, 0) := by decide +kernel
theorem s_291_88 {x0 x1 x2 x3 x4 x5 : Option Value} {o : Nat} : mw d 291 Q 88 [x0, x1, x2, x3, x4, x5] (.ref o :: st) h = (mg h o 13 ∧ mw d 291 Q 91 [x0, x1, x2, x3, x4, x5] (va_rf (mh_r h o 3) :: st) h) := (mw_at mj_291_88).trans (z_getr (by decide) (by decide) rfl)
theorem mj_291_91 : mc_P 291 91 = some (.bipush 24, 2, 0, 0, 0) := by decide +kernel
theorem s_291_91 {x0 x1 x2 x3 x4 x5 : Option Value} : mw d 291 Q 91 [x0, x1, x2, x3, x4, x5] (st) h = mw d 291 Q 93 [x0, x1, x2, x3, x4, x5] (.int 24 :: st) h := (mw_at mj_291_91).trans (z_bipush (by decide))
theorem mj_291_93 : mc_P 291 93 = some (.iload_n 3, 1, 0, 0, 0) := by decide +kernel
theorem s_291_93 {x0 x1 x2 x4 x5 : Option Value} {w : Value} : mw d 291 Q 93 [x0, x1, x2, some w, x4, x5] (st) h = mv_i w (mw d 291 Q 94 [x0, x1, x2, some w, x4, x5] (w :: st) h) := (mw_at mj_291_93).trans (z_iload_n rfl)
theorem mj_291_94 : mc_P 291 94 = some (.imul, 1, 0, 0, 0) := by decide +kernel
theorem s_291_94 {x0 x1 x2 x3 x4 x5 : Option Value} {x w : Int32} : mw d 291 Q 94 [x0, x1, x2, x3, x4, x5] (.int w :: .int x :: st) h = mw d 291 Q 95 [x0, x1, x2, x3, x4, x5] (.int (x * w) :: st) h := (mw_at mj_291_94).trans (z_imul)
theorem mj_291_95 : mc_P 291 95 = some (.iconst 2, 1, 0, 0, 0) := by decide +kernel
theorem s_291_95 {x0 x1 x2 x3 x4 x5 : Option Value} : mw d 291 Q 95 [x0, x1, x2, x3, x4, x5] (st) h = mw d 291 Q 96 [x0, x1, x2, x3, x4, x5] (.int 2 :: st) h := (mw_at mj_291_95).trans (z_iconst (by decide))
theorem mj_291_96 : mc_P 291 96 = some (.iload_n 1, 1, 0, 0, 0) := by decide +kernel
theorem s_291_96 {x0 x2 x3 x4 x5 : Option Value} {w : Value} : mw d 291 Q 96 [x0, some w, x2, x3, x4, x5] (st) h = mv_i w (mw d 291 Q 97 [x0, some w, x2, x3, x4, x5] (w :: st) h) := (mw_at mj_291_96).trans (z_iload_n rfl)
theorem mj_291_97 : mc_P 291 97 = some (.imul, 1, 0, 0, 0) := by decide +kernel
theorem s_291_97 {x0 x1 x2 x3 x4 x5 : Option Value} {x w : Int32} : mw d 291 Q 97 [x0, x1, x2, x3, x4, x5] (.int w :: .int x :: st) h = mw d 291 Q 98 [x0, x1, x2, x3, x4, x5] (.int (x * w) :: st) h := (mw_at mj_291_97).trans (z_imul)
theorem mj_291_98 : mc_P 291 98 = some (.iadd, 1, 0, 0, 0) := by decide +kernel
theorem s_291_98 {x0 x1 x2 x3 x4 x5 : Option Value} {x w : Int32} : mw d 291 Q 98 [x0, x1, x2, x3, x4, x5] (.int w :: .int x :: st) h = mw d 291 Q 99 [x0, x1, x2, x3, x4, x5] (.int (x + w) :: st) h := (mw_at mj_291_98).trans (z_iadd)
theorem mj_291_99 : mc_P 291 99 = some (.laload, 1, 0, 0, 0) := by decide +kernel
theorem s_291_99 {x0 x1 x2 x3 x4 x5 : Option Value} {o : Nat} {i : Int32} : mw d 291 Q 99 [x0, x1, x2, x3, x4, x5] (.int i :: .ref o :: st) h = (mg h o 101 ∧ mx i (mh_l h o) ∧ mw d 291 Q 100 [x0, x1, x2, x3, x4, x5] (.long (mh_j h o i.toNatClampNeg) :: st) h) := (mw_at mj_291_99).trans (z_lald)
theorem mj_291_100 : mc_P 291 100 = some (.lstore 4, 2, 0, 0, 0) := by decide +kernel
theorem s_291_100 {x0 x1 x2 x3 x4 x5 : Option Value} {w : Int64} : mw d 291 Q 100 [x0, x1, x2, x3, x4, x5] (.long w :: st) h = mw d 291 Q 102 [x0, x1, x2, mk2 x3, some (.long w), none] (st) h := (mw_at mj_291_100).trans (z_lstore (Nat.le_of_ble_eq_true rfl) (me_s2_mk (j := 3) (w := x3) rfl))
theorem mj_291_102 : mc_P 291 102 = some (.aload_n 0, 1, 0, 0, 0) := by decide +kernel
theorem s_291_102 {x1 x2 x3 x4 x5 : Option Value} {w : Value} : mw d 291 Q 102 [some w, x1, x2, x3, x4, x5] (st) h = mv_a w (mw d 291 Q 103 [some w, x1, x2, x3, x4, x5] (w :: st) h) := (mw_at mj_291_102).trans (z_aload_n rfl)
theorem mj_291_103 : mc_P 291 103 = some (.getfield 9, 3, 13, 3, 0) := by decide +kernel
theorem s_291_103 {x0 x1 x2 x3 x4 x5 : Option Value} {o : Nat} : mw d 291 Q 103 [x0, x1, x2, x3, x4, x5] (.ref o :: st) h = (mg h o 13 ∧ mw d 291 Q 106 [x0, x1, x2, x3, x4, x5] (va_rf (mh_r h o 3) :: st) h) := (mw_at mj_291_103).trans (z_getr (by decide) (by decide) rfl)
theorem mj_291_106 : mc_P 291 106 = some (.bipush 24, 2, 0, 0, 0) := by decide +kernel
theorem s_291_106 {x0 x1 x2 x3 x4 x5 : Option Value} : mw d 291 Q 106 [x0, x1, x2, x3, x4, x5] (st) h = mw d 291 Q 108 [x0, x1, x2, x3, x4, x5] (.int 24 :: st) h := (mw_at mj_291_106).trans (z_bipush (by decide))
theorem mj_291_108 : mc_P 291 108 = some (.iload_n 3, 1, 0, 0, 0) := by decide +kernel
theorem s_291_108 {x0 x1 x2 x4 x5 : Option Value} {w : Value} : mw d 291 Q 108 [x0, x1, x2, some w, x4, x5] (st) h = mv_i w (mw d 291 Q 109 [x0, x1, x2, some w, x4, x5] (w :: st) h) := (mw_at mj_291_108).trans (z_iload_n rfl)
theorem mj_291_109 : mc_P 291 109 = some (.imul, 1, 0, 0, 0) := by decide +kernel
theorem s_291_109 {x0 x1 x2 x3 x4 x5 : Option Value} {x w : Int32} : mw d 291 Q 109 [x0, x1, x2, x3, x4, x5] (.int w :: .int x :: st) h = mw d 291 Q 110 [x0, x1, x2, x3, x4, x5] (.int (x * w) :: st) h := (mw_at mj_291_109).trans (z_imul)
theorem mj_291_110 : mc_P 291 110 = some (.iconst 2, 1, 0, 0, 0) := by decide +kernel
theorem s_291_110 {x0 x1 x2 x3 x4 x5 : Option Value} : mw d 291 Q 110 [x0, x1, x2, x3, x4, x5] (st) h = mw d 291 Q 111 [x0, x1, x2, x3, x4, x5] (.int 2 :: st) h := (mw_at mj_291_110).trans (z_iconst (by decide))
theorem mj_291_111 : mc_P 291 111 = some (.iload_n 1, 1, 0, 0, 0) := by decide +kernel
theorem s_291_111 {x0 x2 x3 x4 x5 : Option Value} {w : Value} : mw d 291 Q 111 [x0, some w, x2, x3, x4, x5] (st) h = mv_i w (mw d 291 Q 112 [x0, some w, x2, x3, x4, x5] (w :: st) h) := (mw_at mj_291_111).trans (z_iload_n rfl)
theorem mj_291_112 : mc_P 291 112 = some (.imul, 1, 0, 0, 0) := by decide +kernel
theorem s_291_112 {x0 x1 x2 x3 x4 x5 : Option Value} {x w : Int32} : mw d 291 Q 112 [x0, x1, x2, x3, x4, x5] (.int w :: .int x :: st) h = mw d 291 Q 113 [x0, x1, x2, x3, x4, x5] (.int (x * w) :: st) h := (mw_at mj_291_112).trans (z_imul)
theorem mj_291_113 : mc_P 291 113 = some (.iadd, 1, 0, 0, 0) := by decide +kernel
theorem s_291_113 {x0 x1 x2 x3 x4 x5 : Option Value} {x w : Int32} : mw d 291 Q 113 [x0, x1, x2, x3, x4, x5] (.int w :: .int x :: st) h = mw d 291 Q 114 [x0, x1, x2, x3, x4, x5] (.int (x + w) :: st) h := (mw_at mj_291_113).trans (z_iadd)
theorem mj_291_114 : mc_P 291 114 = some (.aload_n 0, 1, 0, 0, 0) := by decide +kernel
theorem s_291_114 {x1 x2 x3 x4 x5 : Option Value} {w : Value} : mw d 291 Q 114 [some w, x1, x2, x3, x4, x5] (st) h = mv_a w (mw d 291 Q 115 [some w, x1, x2, x3, x4, x5] (w :: st) h) := (mw_at mj_291_114).trans (z_aload_n rfl)
theorem mj_291_115 : mc_P 291 115 = some (.getfield 9, 3, 13, 3, 0) := by decide +kernel
theorem s_291_115 {x0 x1 x2 x3 x4 x5 : Option Value} {o : Nat} : mw d 291 Q 115 [x0, x1, x2, x3, x4, x5] (.ref o :: st) h = (mg h o 13 ∧ mw d 291 Q 118 [x0, x1, x2, x3, x4, x5] (va_rf (mh_r h o 3) :: st) h) := (mw_at mj_291_115).trans (z_getr (by decide) (by decide) rfl)
theorem mj_291_118 : mc_P 291 118 = some (.bipush 24, 2, 0, 0, 0) := by decide +kernel
theorem s_291_118 {x0 x1 x2 x3 x4 x5 : Option Value} : mw d 291 Q 118 [x0, x1, x2, x3, x4, x5] (st) h = mw d 291 Q 120 [x0, x1, x2, x3, x4, x5] (.int 24 :: st) h := (mw_at mj_291_118).trans (z_bipush (by decide))
theorem mj_291_120 : mc_P 291 120 = some (.iload_n 3, 1, 0, 0, 0) := by decide +kernel
theorem s_291_120 {x0 x1 x2 x4 x5 : Option Value} {w : Value} : mw d 291 Q 120 [x0, x1, x2, some w, x4, x5] (st) h = mv_i w (mw d 291 Q 121 [x0, x1, x2, some w, x4, x5] (w :: st) h) := (mw_at mj_291_120).trans (z_iload_n rfl)
theorem mj_291_121 : mc_P 291 121 = some (.imul, 1, 0, 0, 0) := by decide +kernel
theorem s_291_121 {x0 x1 x2 x3 x4 x5 : Option Value} {x w : Int32} : mw d 291 Q 121 [x0, x1, x2, x3, x4, x5] (.int w :: .int x :: st) h = mw d 291 Q 122 [x0, x1, x2, x3, x4, x5] (.int (x * w) :: st) h := (mw_at mj_291_121).trans (z_imul)
theorem mj_291_122 : mc_P 291 122 = some (.iconst 2, 1, 0, 0, 0) := by decide +kernel
theorem s_291_122 {x0 x1 x2 x3 x4 x5 : Option Value} : mw d 291 Q 122 [x0, x1, x2, x3, x4, x5] (st) h = mw d 291 Q 123 [x0, x1, x2, x3, x4, x5] (.int 2 :: st) h := (mw_at mj_291_122).trans (z_iconst (by decide))
theorem mj_291_123 : mc_P 291 123 = some (.iload_n 1, 1, 0, 0, 0) := by decide +kernel
theorem s_291_123 {x0 x2 x3 x4 x5 : Option Value} {w : Value} : mw d 291 Q 123 [x0, some w, x2, x3, x4, x5] (st) h = mv_i w (mw d 291 Q 124 [x0, some w, x2, x3, x4, x5] (w :: st) h) := (mw_at mj_291_123).trans (z_iload_n rfl)
theorem mj_291_124 : mc_P 291 124 = some (.imul, 1, 0, 0, 0) := by decide +kernel
theorem s_291_124 {x0 x1 x2 x3 x4 x5 : Option Value} {x w : Int32} : mw d 291 Q 124 [x0, x1, x2, x3, x4, x5] (.int w :: .int x :: st) h = mw d 291 Q 125 [x0, x1, x2, x3, x4, x5] (.int (x * w) :: st) h := (mw_at mj_291_124).trans (z_imul)
theorem mj_291_125 : mc_P 291 125 = some (.iadd, 1, 0, 0, 0) := by decide +kernel
theorem s_291_125 {x0 x1 x2 x3 x4 x5 : Option Value} {x w : Int32} : mw d 291 Q 125 [x0, x1, x2, x3, x4, x5] (.int w :: .int x :: st) h = mw d 291 Q 126 [x0, x1, x2, x3, x4, x5] (.int (x + w) :: st) h := (mw_at mj_291_125).trans (z_iadd)
theorem mj_291_126 : mc_P 291 126 = some (.iconst 1, 1, 0, 0, 0) := by decide +kernel
theorem s_291_126 {x0 x1 x2 x3 x4 x5 : Option Value} : mw d 291 Q 126 [x0, x1, x2, x3, x4, x5] (st) h = mw d 291 Q 127 [x0, x1, x2, x3, x4, x5] (.int 1 :: st) h := (mw_at mj_291_126).trans (z_iconst (by decide))
theorem mj_291_127 : mc_P 291 127 = some (.iadd, 1, 0, 0, 0) := by decide +kernel
theorem s_291_127 {x0 x1 x2 x3 x4 x5 : Option Value} {x w : Int32} : mw d 291 Q 127 [x0, x1, x2, x3, x4, x5] (.int w :: .int x :: st) h = mw d 291 Q 128 [x0, x1, x2, x3, x4, x5] (.int (x + w) :: st) h := (mw_at mj_291_127).trans (z_iadd)
theorem mj_291_128 : mc_P 291 128 = some (.laload, 1, 0, 0, 0) := by decide +kernel
theorem s_291_128 {x0 x1 x2 x3 x4 x5 : Option Value} {o : Nat} {i : Int32} : mw d 291 Q 128 [x0, x1, x2, x3, x4, x5] (.int i :: .ref o :: st) h = (mg h o 101 ∧ mx i (mh_l h o) ∧ mw d 291 Q 129 [x0, x1, x2, x3, x4, x5] (.long (mh_j h o i.toNatClampNeg) :: st) h) := (mw_at mj_291_128).trans (z_lald)
theorem mj_291_129 : mc_P 291 129 = some (.lastore, 1, 0, 0, 0) := by decide +kernel
theorem s_291_129 {x0 x1 x2 x3 x4 x5 : Option Value} {o : Nat} {i : Int32} {w : Int64} : mw d 291 Q 129 [x0, x1, x2, x3, x4, x5] (.long w :: .int i :: .ref o :: st) h = (mg h o 101 ∧ mx i (mh_l h o) ∧ mw d 291 Q 130 [x0, x1, x2, x3, x4, x5] (st) (mh_sj h o i.toNatClampNeg w)) := (mw_at mj_291_129).trans (z_last)
theorem mj_291_130 : mc_P 291 130 = some (.aload_n 0, 1, 0, 0, 0) := by decide +kernel
theorem s_291_130 {x1 x2 x3 x4 x5 : Option Value} {w : Value} : mw d 291 Q 130 [some w, x1, x2, x3, x4, x5] (st) h = mv_a w (mw d 291 Q 131 [some w, x1, x2, x3, x4, x5] (w :: st) h) := (mw_at mj_291_130).trans (z_aload_n rfl)
theorem mj_291_131 : mc_P 291 131 = some (.getfield 9, 3, 13, 3, 0) := by decide +kernel
theorem s_291_131 {x0 x1 x2 x3 x4 x5 : Option Value} {o : Nat} : mw d 291 Q 131 [x0, x1, x2, x3, x4, x5] (.ref o :: st) h = (mg h o 13 ∧ mw d 291 Q 134 [x0, x1, x2, x3, x4, x5] (va_rf (mh_r h o 3) :: st) h) := (mw_at mj_291_131).trans (z_getr (by decide) (by decide) rfl)
theorem mj_291_134 : mc_P 291 134 = some (.bipush 24, 2, 0, 0, 0) := by decide +kernel
theorem s_291_134 {x0 x1 x2 x3 x4 x5 : Option Value} : mw d 291 Q 134 [x0, x1, x2, x3, x4, x5] (st) h = mw d 291 Q 136 [x0, x1, x2, x3, x4, x5] (.int 24 :: st) h := (mw_at mj_291_134).trans (z_bipush (by decide))
theorem mj_291_136 : mc_P 291 136 = some (.iload_n 3, 1, 0, 0, 0) := by decide +kernel
theorem s_291_136 {x0 x1 x2 x4 x5 : Option Value} {w : Value} : mw d 291 Q 136 [x0, x1, x2, some w, x4, x5] (st) h = mv_i w (mw d 291 Q 137 [x0, x1, x2, some w, x4, x5] (w :: st) h) := (mw_at mj_291_136).trans (z_iload_n rfl)
theorem mj_291_137 : mc_P 291 137 = some (.imul, 1, 0, 0, 0) := by decide +kernel
theorem s_291_137 {x0 x1 x2 x3 x4 x5 : Option Value} {x w : Int32} : mw d 291 Q 137 [x0, x1, x2, x3, x4, x5] (.int w :: .int x :: st) h = mw d 291 Q 138 [x0, x1, x2, x3, x4, x5] (.int (x * w) :: st) h := (mw_at mj_291_137).trans (z_imul)
theorem mj_291_138 : mc_P 291 138 = some (.iconst 2, 1, 0, 0, 0) := by decide +kernel
theorem s_291_138 {x0 x1 x2 x3 x4 x5 : Option Value} : mw d 291 Q 138 [x0, x1, x2, x3, x4, x5] (st) h = mw d 291 Q 139 [x0, x1, x2, x3, x4, x5] (.int 2 :: st) h := (mw_at mj_291_138).trans (z_iconst (by decide))
theorem mj_291_139 : mc_P 291 139 = some (.iload_n 1, 1, 0, 0, 0) := by decide +kernel
theorem s_291_139 {x0 x2 x3 x4 x5 : Option Value} {w : Value} : mw d 291 Q 139 [x0, some w, x2, x3, x4, x5] (st) h = mv_i w (mw d 291 Q 140 [x0, some w, x2, x3, x4, x5] (w :: st) h) := (mw_at mj_291_139).trans (z_iload_n rfl)
theorem mj_291_140 : mc_P 291 140 = some (.imul, 1, 0, 0, 0) := by decide +kernel
theorem s_291_140 {x0 x1 x2 x3 x4 x5 : Option Value} {x w : Int32} : mw d 291 Q 140 [x0, x1, x2, x3, x4, x5] (.int w :: .int x :: st) h = mw d 291 Q 141 [x0, x1, x2, x3, x4, x5] (.int (x * w) :: st) h := (mw_at mj_291_140).trans (z_imul)
theorem mj_291_141 : mc_P 291 141 = some (.iadd, 1, 0, 0, 0) := by decide +kernel
theorem s_291_141 {x0 x1 x2 x3 x4 x5 : Option Value} {x w : Int32} : mw d 291 Q 141 [x0, x1, x2, x3, x4, x5] (.int w :: .int x :: st) h = mw d 291 Q 142 [x0, x1, x2, x3, x4, x5] (.int (x + w) :: st) h := (mw_at mj_291_141).trans (z_iadd)
theorem mj_291_142 : mc_P 291 142 = some (.iconst 1, 1, 0, 0, 0) := by decide +kernel
theorem s_291_142 {x0 x1 x2 x3 x4 x5 : Option Value} : mw d 291 Q 142 [x0, x1, x2, x3, x4, x5] (st) h = mw d 291 Q 143 [x0, x1, x2, x3, x4, x5] (.int 1 :: st) h := (mw_at mj_291_142).trans (z_iconst (by decide))
theorem mj_291_143 : mc_P 291 143 = some (.iadd, 1, 0, 0, 0) := by decide +kernel
theorem s_291_143 {x0 x1 x2 x3 x4 x5 : Option Value} {x w : Int32} : mw d 291 Q 143 [x0, x1, x2, x3, x4, x5] (.int w :: .int x :: st) h = mw d 291 Q 144 [x0, x1, x2, x3, x4, x5] (.int (x + w) :: st) h := (mw_at mj_291_143).trans (z_iadd)
theorem mj_291_144 : mc_P 291 144 = some (.lload 4, 2, 0, 0, 0) := by decide +kernel
theorem s_291_144 {x0 x1 x2 x3 x5 : Option Value} {w : Value} : mw d 291 Q 144 [x0, x1, x2, x3, some w, x5] (st) h = mv_l w (mw d 291 Q 146 [x0, x1, x2, x3, some w, x5] (w :: st) h) := (mw_at mj_291_144).trans (z_lload rfl)
theorem mj_291_146 : mc_P 291 146 = some (.lastore, 1, 0, 0, 0) := by decide +kernel
theorem s_291_146 {x0 x1 x2 x3 x4 x5 : Option Value} {o : Nat} {i : Int32} {w : Int64} : mw d 291 Q 146 [x0, x1, x2, x3, x4, x5] (.long w :: .int i :: .ref o :: st) h = (mg h o 101 ∧ mx i (mh_l h o) ∧ mw d 291 Q 147 [x0, x1, x2, x3, x4, x5] (st) (mh_sj h o i.toNatClampNeg w)) := (mw_at mj_291_146).trans (z_last)
theorem mj_291_147 : mc_P 291 147 = some (.iinc 3 1, 3, 0, 0, 0) := by decide +kernel
theorem s_291_147 {x0 x1 x2 x4 x5 : Option Value} {w : Int32} : mw d 291 Q 147 [x0, x1, x2, some (.int w), x4, x5] (st) h = mw d 291 Q 150 [x0, x1, mk2 x2, some (.int (w + 1)), x4, x5] (st) h := (mw_at mj_291_147).trans (z_iinc rfl (Nat.le_of_ble_eq_true rfl) (by decide) (me_s1_mk (j := 2) (w := x2) rfl))
theorem mj_291_150 : mc_P 291 150 = some (.goto (-68), 3, 0, 0, 0) := by decide +kernel
theorem s_291_150 {x0 x1 x2 x3 x4 x5 : Option Value} : mw d 291 Q 150 [x0, x1, x2, x3, x4, x5] (st) h = mw d 291 Q 82 [x0, x1, x2, x3, x4, x5] (st) h := (mw_at mj_291_150).trans (z_goto (by decide))
theorem mj_291_153 : mc_P 291 153 = some (.return_, 1, 0, 0, 0) := by decide +kernel
theorem s_291_153 {x0 x1 x2 x3 x4 x5 : Option Value} : mw d 291 Q 153 [x0, x1, x2, x3, x4, x5] ([]) h = Q none h := (mw_at mj_291_153).trans (z_vret)
theorem e_291 {a0 : Nat} {a1 : Int32} : mcall d 291 [.ref a0, .int a1] h Q = mw d 291 Q 0 [some (.ref a0), some (.int a1), none, none, none, none] [] h := by
  show mw d 291 Q 0 (me_en (mc_nl 291) _) [] h = _
  rw [nl_291]; rfl

/-! InvariantDeskModel$Known.shift(IJJ)V -/
theorem mj_292_0 : mc_P 292 0 = some (.iconst 2, 1, 0, 0, 0) := by decide +kernel
theorem s_292_0 {x0 x1 x2 x3 x4 x5 x6 x7 x8 x9 x10 x11 x12 : Option Value} : mw d 292 Q 0 [x0, x1, x2, x3, x4, x5, x6, x7, x8, x9, x10, x11, x12] (st) h = mw d 292 Q 1 [x0, x1, x2, x3, x4, x5, x6, x7, x8, x9, x10, x11, x12] (.int 2 :: st) h := (mw_at mj_292_0).trans (z_iconst (by decide))
theorem mj_292_1 : mc_P 292 1 = some (.aload_n 0, 1, 0, 0, 0) := by decide +kernel
theorem s_292_1 {x1 x2 x3 x4 x5 x6 x7 x8 x9 x10 x11 x12 : Option Value} {w : Value} : mw d 292 Q 1 [some w, x1, x2, x3, x4, x5, x6, x7, x8, x9, x10, x11, x12] (st) h = mv_a w (mw d 292 Q 2 [some w, x1, x2, x3, x4, x5, x6, x7, x8, x9, x10, x11, x12] (w :: st) h) := (mw_at mj_292_1).trans (z_aload_n rfl)
theorem mj_292_2 : mc_P 292 2 = some (.getfield 39, 3, 13, 1, 0) := by decide +kernel
theorem s_292_2 {x0 x1 x2 x3 x4 x5 x6 x7 x8 x9 x10 x11 x12 : Option Value} {o : Nat} : mw d 292 Q 2 [x0, x1, x2, x3, x4, x5, x6, x7, x8, x9, x10, x11, x12] (.ref o :: st) h = (mg h o 13 ∧ mw d 292 Q 5 [x0, x1, x2, x3, x4, x5, x6, x7, x8, x9, x10, x11, x12] (.int (mh_i h o 1) :: st) h) := (mw_at mj_292_2).trans (z_geti (by decide) (by decide) (Or.inl rfl))
theorem mj_292_5 : mc_P 292 5 = some (.imul, 1, 0, 0, 0) := by decide +kernel
theorem s_292_5 {x0 x1 x2 x3 x4 x5 x6 x7 x8 x9 x10 x11 x12 : Option Value} {x w : Int32} : mw d 292 Q 5 [x0, x1, x2, x3, x4, x5, x6, x7, x8, x9, x10, x11, x12] (.int w :: .int x :: st) h = mw d 292 Q 6 [x0, x1, x2, x3, x4, x5, x6, x7, x8, x9, x10, x11, x12] (.int (x * w) :: st) h := (mw_at mj_292_5).trans (z_imul)
theorem mj_292_6 : mc_P 292 6 = some (.istore 6, 2, 0, 0, 0) := by decide +kernel
theorem s_292_6 {x0 x1 x2 x3 x4 x5 x6 x7 x8 x9 x10 x11 x12 : Option Value} {w : Int32} : mw d 292 Q 6 [x0, x1, x2, x3, x4, x5, x6, x7, x8, x9, x10, x11, x12] (.int w :: st) h = mw d 292 Q 8 [x0, x1, x2, x3, x4, mk2 x5, some (.int w), x7, x8, x9, x10, x11, x12] (st) h := (mw_at mj_292_6).trans (z_istore (Nat.le_of_ble_eq_true rfl) (me_s1_mk (j := 5) (w := x5) rfl))
theorem mj_292_8 : mc_P 292 8 = some (.iconst 0, 1, 0, 0, 0) := by decide +kernel
theorem s_292_8 {x0 x1 x2 x3 x4 x5 x6 x7 x8 x9 x10 x11 x12 : Option Value} : mw d 292 Q 8 [x0, x1, x2, x3, x4, x5, x6, x7, x8, x9, x10, x11, x12] (st) h = mw d 292 Q 9 [x0, x1, x2, x3, x4, x5, x6, x7, x8, x9, x10, x11, x12] (.int 0 :: st) h := (mw_at mj_292_8).trans (z_iconst (by decide))
theorem mj_292_9 : mc_P 292 9 = some (.istore 7, 2, 0, 0, 0) := by decide +kernel
theorem s_292_9 {x0 x1 x2 x3 x4 x5 x6 x7 x8 x9 x10 x11 x12 : Option Value} {w : Int32} : mw d 292 Q 9 [x0, x1, x2, x3, x4, x5, x6, x7, x8, x9, x10, x11, x12] (.int w :: st) h = mw d 292 Q 11 [x0, x1, x2, x3, x4, x5, mk2 x6, some (.int w), x8, x9, x10, x11, x12] (st) h := (mw_at mj_292_9).trans (z_istore (Nat.le_of_ble_eq_true rfl) (me_s1_mk (j := 6) (w := x6) rfl))
theorem mj_292_11 : mc_P 292 11 = some (.iload 7, 2, 0, 0, 0) := by decide +kernel
theorem s_292_11 {x0 x1 x2 x3 x4 x5 x6 x8 x9 x10 x11 x12 : Option Value} {w : Value} : mw d 292 Q 11 [x0, x1, x2, x3, x4, x5, x6, some w, x8, x9, x10, x11, x12] (st) h = mv_i w (mw d 292 Q 13 [x0, x1, x2, x3, x4, x5, x6, some w, x8, x9, x10, x11, x12] (w :: st) h) := (mw_at mj_292_11).trans (z_iload rfl)
theorem mj_292_13 : mc_P 292 13 = some (.iload 6, 2, 0, 0, 0) := by decide +kernel
theorem s_292_13 {x0 x1 x2 x3 x4 x5 x7 x8 x9 x10 x11 x12 : Option Value} {w : Value} : mw d 292 Q 13 [x0, x1, x2, x3, x4, x5, some w, x7, x8, x9, x10, x11, x12] (st) h = mv_i w (mw d 292 Q 15 [x0, x1, x2, x3, x4, x5, some w, x7, x8, x9, x10, x11, x12] (w :: st) h) := (mw_at mj_292_13).trans (z_iload rfl)
theorem mj_292_15 : mc_P 292 15 = some (.if_icmp .ge 122, 3, 0, 0, 0) := by decide +kernel
theorem s_292_15 {x0 x1 x2 x3 x4 x5 x6 x7 x8 x9 x10 x11 x12 : Option Value} {x w : Int32} : mw d 292 Q 15 [x0, x1, x2, x3, x4, x5, x6, x7, x8, x9, x10, x11, x12] (.int w :: .int x :: st) h = mB (w ≤ x) (mw d 292 Q) 137 18 [x0, x1, x2, x3, x4, x5, x6, x7, x8, x9, x10, x11, x12] st h := (mw_at mj_292_15).trans (z_icmp_ge (by decide) rfl)
theorem mj_292_18 : mc_P 292 18 = some (.iconst 0, 1, 0, 0, 0) := by decide +kernel
theorem s_292_18 {x0 x1 x2 x3 x4 x5 x6 x7 x8 x9 x10 x11 x12 : Option Value} : mw d 292 Q 18 [x0, x1, x2, x3, x4, x5, x6, x7, x8, x9, x10, x11, x12] (st) h = mw d 292 Q 19 [x0, x1, x2, x3, x4, x5, x6, x7, x8, x9, x10, x11, x12] (.int 0 :: st) h := (mw_at mj_292_18).trans (z_iconst (by decide))
theorem mj_292_19 : mc_P 292 19 = some (.istore 8, 2, 0, 0, 0) := by decide +kernel
theorem s_292_19 {x0 x1 x2 x3 x4 x5 x6 x7 x8 x9 x10 x11 x12 : Option Value} {w : Int32} : mw d 292 Q 19 [x0, x1, x2, x3, x4, x5, x6, x7, x8, x9, x10, x11, x12] (.int w :: st) h = mw d 292 Q 21 [x0, x1, x2, x3, x4, x5, x6, mk2 x7, some (.int w), x9, x10, x11, x12] (st) h := (mw_at mj_292_19).trans (z_istore (Nat.le_of_ble_eq_true rfl) (me_s1_mk (j := 7) (w := x7) rfl))
theorem mj_292_21 : mc_P 292 21 = some (.iload 8, 2, 0, 0, 0) := by decide +kernel
theorem s_292_21 {x0 x1 x2 x3 x4 x5 x6 x7 x9 x10 x11 x12 : Option Value} {w : Value} : mw d 292 Q 21 [x0, x1, x2, x3, x4, x5, x6, x7, some w, x9, x10, x11, x12] (st) h = mv_i w (mw d 292 Q 23 [x0, x1, x2, x3, x4, x5, x6, x7, some w, x9, x10, x11, x12] (w :: st) h) := (mw_at mj_292_21).trans (z_iload rfl)
theorem mj_292_23 : mc_P 292 23 = some (.iload 6, 2, 0, 0, 0) := by decide +kernel
theorem s_292_23 {x0 x1 x2 x3 x4 x5 x7 x8 x9 x10 x11 x12 : Option Value} {w : Value} : mw d 292 Q 23 [x0, x1, x2, x3, x4, x5, some w, x7, x8, x9, x10, x11, x12] (st) h = mv_i w (mw d 292 Q 25 [x0, x1, x2, x3, x4, x5, some w, x7, x8, x9, x10, x11, x12] (w :: st) h) := (mw_at mj_292_23).trans (z_iload rfl)
theorem mj_292_25 : mc_P 292 25 = some (.if_icmp .ge 106, 3, 0, 0, 0) := by decide +kernel
theorem s_292_25 {x0 x1 x2 x3 x4 x5 x6 x7 x8 x9 x10 x11 x12 : Option Value} {x w : Int32} : mw d 292 Q 25 [x0, x1, x2, x3, x4, x5, x6, x7, x8, x9, x10, x11, x12] (.int w :: .int x :: st) h = mB (w ≤ x) (mw d 292 Q) 131 28 [x0, x1, x2, x3, x4, x5, x6, x7, x8, x9, x10, x11, x12] st h := (mw_at mj_292_25).trans (z_icmp_ge (by decide) rfl)
theorem mj_292_28 : mc_P 292 28 = some (.iload 7, 2, 0, 0, 0) := by decide +kernel
theorem s_292_28 {x0 x1 x2 x3 x4 x5 x6 x8 x9 x10 x11 x12 : Option Value} {w : Value} : mw d 292 Q 28 [x0, x1, x2, x3, x4, x5, x6, some w, x8, x9, x10, x11, x12] (st) h = mv_i w (mw d 292 Q 30 [x0, x1, x2, x3, x4, x5, x6, some w, x8, x9, x10, x11, x12] (w :: st) h) := (mw_at mj_292_28).trans (z_iload rfl)
theorem mj_292_30 : mc_P 292 30 = some (.iconst 2, 1, 0, 0, 0) := by decide +kernel
theorem s_292_30 {x0 x1 x2 x3 x4 x5 x6 x7 x8 x9 x10 x11 x12 : Option Value} : mw d 292 Q 30 [x0, x1, x2, x3, x4, x5, x6, x7, x8, x9, x10, x11, x12] (st) h = mw d 292 Q 31 [x0, x1, x2, x3, x4, x5, x6, x7, x8, x9, x10, x11, x12] (.int 2 :: st) h := (mw_at mj_292_30).trans (z_iconst (by decide))
theorem mj_292_31 : mc_P 292 31 = some (.iload_n 1, 1, 0, 0, 0) := by decide +kernel
theorem s_292_31 {x0 x2 x3 x4 x5 x6 x7 x8 x9 x10 x11 x12 : Option Value} {w : Value} : mw d 292 Q 31 [x0, some w, x2, x3, x4, x5, x6, x7, x8, x9, x10, x11, x12] (st) h = mv_i w (mw d 292 Q 32 [x0, some w, x2, x3, x4, x5, x6, x7, x8, x9, x10, x11, x12] (w :: st) h) := (mw_at mj_292_31).trans (z_iload_n rfl)
theorem mj_292_32 : mc_P 292 32 = some (.imul, 1, 0, 0, 0) := by decide +kernel
theorem s_292_32 {x0 x1 x2 x3 x4 x5 x6 x7 x8 x9 x10 x11 x12 : Option Value} {x w : Int32} : mw d 292 Q 32 [x0, x1, x2, x3, x4, x5, x6, x7, x8, x9, x10, x11, x12] (.int w :: .int x :: st) h = mw d 292 Q 33 [x0, x1, x2, x3, x4, x5, x6, x7, x8, x9, x10, x11, x12] (.int (x * w) :: st) h := (mw_at mj_292_32).trans (z_imul)
theorem mj_292_33 : mc_P 292 33 = some (.if_icmp .ne 8, 3, 0, 0, 0) := by decide +kernel
theorem s_292_33 {x0 x1 x2 x3 x4 x5 x6 x7 x8 x9 x10 x11 x12 : Option Value} {x w : Int32} : mw d 292 Q 33 [x0, x1, x2, x3, x4, x5, x6, x7, x8, x9, x10, x11, x12] (.int w :: .int x :: st) h = mB (¬ x = w) (mw d 292 Q) 41 36 [x0, x1, x2, x3, x4, x5, x6, x7, x8, x9, x10, x11, x12] st h := (mw_at mj_292_33).trans (z_icmp_ne (by decide) rfl)
theorem mj_292_36 : mc_P 292 36 = some (.lload 4, 2, 0, 0, 0) := by decide +kernel
theorem s_292_36 {x0 x1 x2 x3 x5 x6 x7 x8 x9 x10 x11 x12 : Option Value} {w : Value} : mw d 292 Q 36 [x0, x1, x2, x3, some w, x5, x6, x7, x8, x9, x10, x11, x12] (st) h = mv_l w (mw d 292 Q 38 [x0, x1, x2, x3, some w, x5, x6, x7, x8, x9, x10, x11, x12] (w :: st) h) := (mw_at mj_292_36).trans (z_lload rfl)
theorem mj_292_38 : mc_P 292 38 = some (.goto 19, 3, 0, 0, 0) := by decide +kernel
theorem s_292_38 {x0 x1 x2 x3 x4 x5 x6 x7 x8 x9 x10 x11 x12 : Option Value} : mw d 292 Q 38 [x0, x1, x2, x3, x4, x5, x6, x7, x8, x9, x10, x11, x12] (st) h = mw d 292 Q 57 [x0, x1, x2, x3, x4, x5, x6, x7, x8, x9, x10, x11, x12] (st) h := (mw_at mj_292_38).trans (z_goto (by decide))
theorem mj_292_41 : mc_P 292 41 = some (.iload 7, 2, 0, 0, 0) := by decide +kernel
theorem s_292_41 {x0 x1 x2 x3 x4 x5 x6 x8 x9 x10 x11 x12 : Option Value} {w : Value} : mw d 292 Q 41 [x0, x1, x2, x3, x4, x5, x6, some w, x8, x9, x10, x11, x12] (st) h = mv_i w (mw d 292 Q 43 [x0, x1, x2, x3, x4, x5, x6, some w, x8, x9, x10, x11, x12] (w :: st) h) := (mw_at mj_292_41).trans (z_iload rfl)
theorem mj_292_43 : mc_P 292 43 = some (.iconst 2, 1, 0, 0, 0) := by decide +kernel
theorem s_292_43 {x0 x1 x2 x3 x4 x5 x6 x7 x8 x9 x10 x11 x12 : Option Value} : mw d 292 Q 43 [x0, x1, x2, x3, x4, x5, x6, x7, x8, x9, x10, x11, x12] (st) h = mw d 292 Q 44 [x0, x1, x2, x3, x4, x5, x6, x7, x8, x9, x10, x11, x12] (.int 2 :: st) h := (mw_at mj_292_43).trans (z_iconst (by decide))
theorem mj_292_44 : mc_P 292 44 = some (.iload_n 1, 1, 0, 0, 0) := by decide +kernel
theorem s_292_44 {x0 x2 x3 x4 x5 x6 x7 x8 x9 x10 x11 x12 : Option Value} {w : Value} : mw d 292 Q 44 [x0, some w, x2, x3, x4, x5, x6, x7, x8, x9, x10, x11, x12] (st) h = mv_i w (mw d 292 Q 45 [x0, some w, x2, x3, x4, x5, x6, x7, x8, x9, x10, x11, x12] (w :: st) h) := (mw_at mj_292_44).trans (z_iload_n rfl)
theorem mj_292_45 : mc_P 292 45 = some (.imul, 1, 0, 0, 0) := by decide +kernel
theorem s_292_45 {x0 x1 x2 x3 x4 x5 x6 x7 x8 x9 x10 x11 x12 : Option Value} {x w : Int32} : mw d 292 Q 45 [x0, x1, x2, x3, x4, x5, x6, x7, x8, x9, x10, x11, x12] (.int w :: .int x :: st) h = mw d 292 Q 46 [x0, x1, x2, x3, x4, x5, x6, x7, x8, x9, x10, x11, x12] (.int (x * w) :: st) h := (mw_at mj_292_45).trans (z_imul)
theorem mj_292_46 : mc_P 292 46 = some (.iconst 1, 1, 0, 0, 0) := by decide +kernel
theorem s_292_46 {x0 x1 x2 x3 x4 x5 x6 x7 x8 x9 x10 x11 x12 : Option Value} : mw d 292 Q 46 [x0, x1, x2, x3, x4, x5, x6, x7, x8, x9, x10, x11, x12] (st) h = mw d 292 Q 47 [x0, x1, x2, x3, x4, x5, x6, x7, x8, x9, x10, x11, x12] (.int 1 :: st) h := (mw_at mj_292_46).trans (z_iconst (by decide))
theorem mj_292_47 : mc_P 292 47 = some (.iadd, 1, 0, 0, 0) := by decide +kernel
theorem s_292_47 {x0 x1 x2 x3 x4 x5 x6 x7 x8 x9 x10 x11 x12 : Option Value} {x w : Int32} : mw d 292 Q 47 [x0, x1, x2, x3, x4, x5, x6, x7, x8, x9, x10, x11, x12] (.int w :: .int x :: st) h = mw d 292 Q 48 [x0, x1, x2, x3, x4, x5, x6, x7, x8, x9, x10, x11, x12] (.int (x + w) :: st) h := (mw_at mj_292_47).trans (z_iadd)
theorem mj_292_48 : mc_P 292 48 = some (.if_icmp .ne 8, 3, 0, 0, 0) := by decide +kernel
theorem s_292_48 {x0 x1 x2 x3 x4 x5 x6 x7 x8 x9 x10 x11 x12 : Option Value} {x w : Int32} : mw d 292 Q 48 [x0, x1, x2, x3, x4, x5, x6, x7, x8, x9, x10, x11, x12] (.int w :: .int x :: st) h = mB (¬ x = w) (mw d 292 Q) 56 51 [x0, x1, x2, x3, x4, x5, x6, x7, x8, x9, x10, x11, x12] st h := (mw_at mj_292_48).trans (z_icmp_ne (by decide) rfl)
theorem mj_292_51 : mc_P 292 51 = some (.lload_n 2, 1, 0, 0, 0) := by decide +kernel
theorem s_292_51 {x0 x1 x3 x4 x5 x6 x7 x8 x9 x10 x11 x12 : Option Value} {w : Value} : mw d 292 Q 51 [x0, x1, some w, x3, x4, x5, x6, x7, x8, x9, x10, x11, x12] (st) h = mv_l w (mw d 292 Q 52 [x0, x1, some w, x3, x4, x5, x6, x7, x8, x9, x10, x11, x12] (w :: st) h) := (mw_at mj_292_51).trans (z_lload_n rfl)
theorem mj_292_52 : mc_P 292 52 = some (.lneg, 1, 0, 0, 0) := by decide +kernel
theorem s_292_52 {x0 x1 x2 x3 x4 x5 x6 x7 x8 x9 x10 x11 x12 : Option Value} {x : Int64} : mw d 292 Q 52 [x0, x1, x2, x3, x4, x5, x6, x7, x8, x9, x10, x11, x12] (.long x :: st) h = mw d 292 Q 53 [x0, x1, x2, x3, x4, x5, x6, x7, x8, x9, x10, x11, x12] (.long (-x) :: st) h := (mw_at mj_292_52).trans (z_lneg)
theorem mj_292_53 : mc_P 292 53 = some (.goto 4, 3, 0, 0, 0) := by decide +kernel
theorem s_292_53 {x0 x1 x2 x3 x4 x5 x6 x7 x8 x9 x10 x11 x12 : Option Value} : mw d 292 Q 53 [x0, x1, x2, x3, x4, x5, x6, x7, x8, x9, x10, x11, x12] (st) h = mw d 292 Q 57 [x0, x1, x2, x3, x4, x5, x6, x7, x8, x9, x10, x11, x12] (st) h := (mw_at mj_292_53).trans (z_goto (by decide))
theorem mj_292_56 : mc_P 292 56 = some (.lconst 0, 1, 0, 0, 0) := by decide +kernel
theorem s_292_56 {x0 x1 x2 x3 x4 x5 x6 x7 x8 x9 x10 x11 x12 : Option Value} : mw d 292 Q 56 [x0, x1, x2, x3, x4, x5, x6, x7, x8, x9, x10, x11, x12] (st) h = mw d 292 Q 57 [x0, x1, x2, x3, x4, x5, x6, x7, x8, x9, x10, x11, x12] (.long 0 :: st) h := (mw_at mj_292_56).trans (z_lconst (by decide))
theorem mj_292_57 : mc_P 292 57 = some (.lstore 9, 2, 0, 0, 0) := by decide +kernel
theorem s_292_57 {x0 x1 x2 x3 x4 x5 x6 x7 x8 x9 x10 x11 x12 : Option Value} {w : Int64} : mw d 292 Q 57 [x0, x1, x2, x3, x4, x5, x6, x7, x8, x9, x10, x11, x12] (.long w :: st) h = mw d 292 Q 59 [x0, x1, x2, x3, x4, x5, x6, x7, mk2 x8, some (.long w), none, x11, x12] (st) h := (mw_at mj_292_57).trans (z_lstore (Nat.le_of_ble_eq_true rfl) (me_s2_mk (j := 8) (w := x8) rfl))
theorem mj_292_59 : mc_P 292 59 = some (.iload 8, 2, 0, 0, 0) := by decide +kernel
theorem s_292_59 {x0 x1 x2 x3 x4 x5 x6 x7 x9 x10 x11 x12 : Option Value} {w : Value} : mw d 292 Q 59 [x0, x1, x2, x3, x4, x5, x6, x7, some w, x9, x10, x11, x12] (st) h = mv_i w (mw d 292 Q 61 [x0, x1, x2, x3, x4, x5, x6, x7, some w, x9, x10, x11, x12] (w :: st) h) := (mw_at mj_292_59).trans (z_iload rfl)
theorem mj_292_61 : mc_P 292 61 = some (.iconst 2, 1, 0, 0, 0) := by decide +kernel
theorem s_292_61 {x0 x1 x2 x3 x4 x5 x6 x7 x8 x9 x10 x11 x12 : Option Value} : mw d 292 Q 61 [x0, x1, x2, x3, x4, x5, x6, x7, x8, x9, x10, x11, x12] (st) h = mw d 292 Q 62 [x0, x1, x2, x3, x4, x5, x6, x7, x8, x9, x10, x11, x12] (.int 2 :: st) h := (mw_at mj_292_61).trans (z_iconst (by decide))
theorem mj_292_62 : mc_P 292 62 = some (.iload_n 1, 1, 0, 0, 0) := by decide +kernel
theorem s_292_62 {x0 x2 x3 x4 x5 x6 x7 x8 x9 x10 x11 x12 : Option Value} {w : Value} : mw d 292 Q 62 [x0, some w, x2, x3, x4, x5, x6, x7, x8, x9, x10, x11, x12] (st) h = mv_i w (mw d 292 Q 63 [x0, some w, x2, x3, x4, x5, x6, x7, x8, x9, x10, x11, x12] (w :: st) h) := (mw_at mj_292_62).trans (z_iload_n rfl)
theorem mj_292_63 : mc_P 292 63 = some (.imul, 1, 0, 0, 0) := by decide +kernel
theorem s_292_63 {x0 x1 x2 x3 x4 x5 x6 x7 x8 x9 x10 x11 x12 : Option Value} {x w : Int32} : mw d 292 Q 63 [x0, x1, x2, x3, x4, x5, x6, x7, x8, x9, x10, x11, x12] (.int w :: .int x :: st) h = mw d 292 Q 64 [x0, x1, x2, x3, x4, x5, x6, x7, x8, x9, x10, x11, x12] (.int (x * w) :: st) h := (mw_at mj_292_63).trans (z_imul)
theorem mj_292_64 : mc_P 292 64 = some (.if_icmp .ne 8, 3, 0, 0, 0) := by decide +kernel
theorem s_292_64 {x0 x1 x2 x3 x4 x5 x6 x7 x8 x9 x10 x11 x12 : Option Value} {x w : Int32} : mw d 292 Q 64 [x0, x1, x2, x3, x4, x5, x6, x7, x8, x9, x10, x11, x12] (.int w :: .int x :: st) h = mB (¬ x = w) (mw d 292 Q) 72 67 [x0, x1, x2, x3, x4, x5, x6, x7, x8, x9, x10, x11, x12] st h := (mw_at mj_292_64).trans (z_icmp_ne (by decide) rfl)
theorem mj_292_67 : mc_P 292 67 = some (.lload 4, 2, 0, 0, 0) := by decide +kernel
theorem s_292_67 {x0 x1 x2 x3 x5 x6 x7 x8 x9 x10 x11 x12 : Option Value} {w : Value} : mw d 292 Q 67 [x0, x1, x2, x3, some w, x5, x6, x7, x8, x9, x10, x11, x12] (st) h = mv_l w (mw d 292 Q 69 [x0, x1, x2, x3, some w, x5, x6, x7, x8, x9, x10, x11, x12] (w :: st) h) := (mw_at mj_292_67).trans (z_lload rfl)
theorem mj_292_69 : mc_P 292 69 = some (.goto 19, 3, 0, 0, 0) := by decide +kernel
theorem s_292_69 {x0 x1 x2 x3 x4 x5 x6 x7 x8 x9 x10 x11 x12 : Option Value} : mw d 292 Q 69 [x0, x1, x2, x3, x4, x5, x6, x7, x8, x9, x10, x11, x12] (st) h = mw d 292 Q 88 [x0, x1, x2, x3, x4, x5, x6, x7, x8, x9, x10, x11, x12] (st) h := (mw_at mj_292_69).trans (z_goto (by decide))
theorem mj_292_72 : mc_P 292 72 = some (.iload 8, 2, 0, 0, 0) := by decide +kernel
theorem s_292_72 {x0 x1 x2 x3 x4 x5 x6 x7 x9 x10 x11 x12 : Option Value} {w : Value} : mw d 292 Q 72 [x0, x1, x2, x3, x4, x5, x6, x7, some w, x9, x10, x11, x12] (st) h = mv_i w (mw d 292 Q 74 [x0, x1, x2, x3, x4, x5, x6, x7, some w, x9, x10, x11, x12] (w :: st) h) := (mw_at mj_292_72).trans (z_iload rfl)
theorem mj_292_74 : mc_P 292 74 = some (.iconst 2, 1, 0, 0, 0) := by decide +kernel
theorem s_292_74 {x0 x1 x2 x3 x4 x5 x6 x7 x8 x9 x10 x11 x12 : Option Value} : mw d 292 Q 74 [x0, x1, x2, x3, x4, x5, x6, x7, x8, x9, x10, x11, x12] (st) h = mw d 292 Q 75 [x0, x1, x2, x3, x4, x5, x6, x7, x8, x9, x10, x11, x12] (.int 2 :: st) h := (mw_at mj_292_74).trans (z_iconst (by decide))
theorem mj_292_75 : mc_P 292 75 = some (.iload_n 1, 1, 0, 0, 0) := by decide +kernel
theorem s_292_75 {x0 x2 x3 x4 x5 x6 x7 x8 x9 x10 x11 x12 : Option Value} {w : Value} : mw d 292 Q 75 [x0, some w, x2, x3, x4, x5, x6, x7, x8, x9, x10, x11, x12] (st) h = mv_i w (mw d 292 Q 76 [x0, some w, x2, x3, x4, x5, x6, x7, x8, x9, x10, x11, x12] (w :: st) h) := (mw_at mj_292_75).trans (z_iload_n rfl)
theorem mj_292_76 : mc_P 292 76 = some (.imul, 1, 0, 0, 0) := by decide +kernel
theorem s_292_76 {x0 x1 x2 x3 x4 x5 x6 x7 x8 x9 x10 x11 x12 : Option Value} {x w : Int32} : mw d 292 Q 76 [x0, x1, x2, x3, x4, x5, x6, x7, x8, x9, x10, x11, x12] (.int w :: .int x :: st) h = mw d 292 Q 77 [x0, x1, x2, x3, x4, x5, x6, x7, x8, x9, x10, x11, x12] (.int (x * w) :: st) h := (mw_at mj_292_76).trans (z_imul)
theorem mj_292_77 : mc_P 292 77 = some (.iconst 1, 1, 0, 0, 0) := by decide +kernel
theorem s_292_77 {x0 x1 x2 x3 x4 x5 x6 x7 x8 x9 x10 x11 x12 : Option Value} : mw d 292 Q 77 [x0, x1, x2, x3, x4, x5, x6, x7, x8, x9, x10, x11, x12] (st) h = mw d 292 Q 78 [x0, x1, x2, x3, x4, x5, x6, x7, x8, x9, x10, x11, x12] (.int 1 :: st) h := (mw_at mj_292_77).trans (z_iconst (by decide))
theorem mj_292_78 : mc_P 292 78 = some (.iadd, 1, 0, 0, 0) := by decide +kernel
theorem s_292_78 {x0 x1 x2 x3 x4 x5 x6 x7 x8 x9 x10 x11 x12 : Option Value} {x w : Int32} : mw d 292 Q 78 [x0, x1, x2, x3, x4, x5, x6, x7, x8, x9, x10, x11, x12] (.int w :: .int x :: st) h = mw d 292 Q 79 [x0, x1, x2, x3, x4, x5, x6, x7, x8, x9, x10, x11, x12] (.int (x + w) :: st) h := (mw_at mj_292_78).trans (z_iadd)
theorem mj_292_79 : mc_P 292 79 = some (.if_icmp .ne 8, 3, 0, 0, 0) := by decide +kernel
theorem s_292_79 {x0 x1 x2 x3 x4 x5 x6 x7 x8 x9 x10 x11 x12 : Option Value} {x w : Int32} : mw d 292 Q 79 [x0, x1, x2, x3, x4, x5, x6, x7, x8, x9, x10, x11, x12] (.int w :: .int x :: st) h = mB (¬ x = w) (mw d 292 Q) 87 82 [x0, x1, x2, x3, x4, x5, x6, x7, x8, x9, x10, x11, x12] st h := (mw_at mj_292_79).trans (z_icmp_ne (by decide) rfl)
theorem mj_292_82 : mc_P 292 82 = some (.lload_n 2, 1, 0, 0, 0) := by decide +kernel
theorem s_292_82 {x0 x1 x3 x4 x5 x6 x7 x8 x9 x10 x11 x12 : Option Value} {w : Value} : mw d 292 Q 82 [x0, x1, some w, x3, x4, x5, x6, x7, x8, x9, x10, x11, x12] (st) h = mv_l w (mw d 292 Q 83 [x0, x1, some w, x3, x4, x5, x6, x7, x8, x9, x10, x11, x12] (w :: st) h) := (mw_at mj_292_82).trans (z_lload_n rfl)
theorem mj_292_83 : mc_P 292 83 = some (.lneg, 1, 0, 0, 0) := by decide +kernel
theorem s_292_83 {x0 x1 x2 x3 x4 x5 x6 x7 x8 x9 x10 x11 x12 : Option Value} {x : Int64} : mw d 292 Q 83 [x0, x1, x2, x3, x4, x5, x6, x7, x8, x9, x10, x11, x12] (.long x :: st) h = mw d 292 Q 84 [x0, x1, x2, x3, x4, x5, x6, x7, x8, x9, x10, x11, x12] (.long (-x) :: st) h := (mw_at mj_292_83).trans (z_lneg)
theorem mj_292_84 : mc_P 292 84 = some (.goto 4, 3, 0, 0, 0) := by decide +kernel
theorem s_292_84 {x0 x1 x2 x3 x4 x5 x6 x7 x8 x9 x10 x11 x12 : Option Value} : mw d 292 Q 84 [x0, x1, x2, x3, x4, x5, x6, x7, x8, x9, x10, x11, x12] (st) h = mw d 292 Q 88 [x0, x1, x2, x3, x4, x5, x6, x7, x8, x9, x10, x11, x12] (st) h := (mw_at mj_292_84).trans (z_goto (by decide))
theorem mj_292_87 : mc_P 292 87 = some (.lconst 0, 1, 0, 0, 0) := by decide +kernel
theorem s_292_87 {x0 x1 x2 x3 x4 x5 x6 x7 x8 x9 x10 x11 x12 : Option Value} : mw d 292 Q 87 [x0, x1, x2, x3, x4, x5, x6, x7, x8, x9, x10, x11, x12] (st) h = mw d 292 Q 88 [x0, x1, x2, x3, x4, x5, x6, x7, x8, x9, x10, x11, x12] (.long 0 :: st) h := (mw_at mj_292_87).trans (z_lconst (by decide))
theorem mj_292_88 : mc_P 292 88 = some (.lstore 11, 2, 0, 0, 0) := by decide +kernel
theorem s_292_88 {x0 x1 x2 x3 x4 x5 x6 x7 x8 x9 x10 x11 x12 : Option Value} {w : Int64} : mw d 292 Q 88 [x0, x1, x2, x3, x4, x5, x6, x7, x8, x9, x10, x11, x12] (.long w :: st) h = mw d 292 Q 90 [x0, x1, x2, x3, x4, x5, x6, x7, x8, x9, mk2 x10, some (.long w), none] (st) h := (mw_at mj_292_88).trans (z_lstore (Nat.le_of_ble_eq_true rfl) (me_s2_mk (j := 10) (w := x10) rfl))
theorem mj_292_90 : mc_P 292 90 = some (.aload_n 0, 1, 0, 0, 0) := by decide +kernel
theorem s_292_90 {x1 x2 x3 x4 x5 x6 x7 x8 x9 x10 x11 x12 : Option Value} {w : Value} : mw d 292 Q 90 [some w, x1, x2, x3, x4, x5, x6, x7, x8, x9, x10, x11, x12] (st) h = mv_a w (mw d 292 Q 91 [some w, x1, x2, x3, x4, x5, x6, x7, x8, x9, x10, x11, x12] (w :: st) h) := (mw_at mj_292_90).trans (z_aload_n rfl)
theorem mj_292_91 : mc_P 292 91 = some (.getfield 9, 3, 13, 3, 0) := by decide +kernel
theorem s_292_91 {x0 x1 x2 x3 x4 x5 x6 x7 x8 x9 x10 x11 x12 : Option Value} {o : Nat} : mw d 292 Q 91 [x0, x1, x2, x3, x4, x5, x6, x7, x8, x9, x10, x11, x12] (.ref o :: st) h = (mg h o 13 ∧ mw d 292 Q 94 [x0, x1, x2, x3, x4, x5, x6, x7, x8, x9, x10, x11, x12] (va_rf (mh_r h o 3) :: st) h) := (mw_at mj_292_91).trans (z_getr (by decide) (by decide) rfl)
theorem mj_292_94 : mc_P 292 94 = some (.bipush 24, 2, 0, 0, 0) := by decide +kernel
theorem s_292_94 {x0 x1 x2 x3 x4 x5 x6 x7 x8 x9 x10 x11 x12 : Option Value} : mw d 292 Q 94 [x0, x1, x2, x3, x4, x5, x6, x7, x8, x9, x10, x11, x12] (st) h = mw d 292 Q 96 [x0, x1, x2, x3, x4, x5, x6, x7, x8, x9, x10, x11, x12] (.int 24 :: st) h := (mw_at mj_292_94).trans (z_bipush (by decide))
theorem mj_292_96 : mc_P 292 96 = some (.iload 7, 2, 0, 0, 0) := by decide +kernel
theorem s_292_96 {x0 x1 x2 x3 x4 x5 x6 x8 x9 x10 x11 x12 : Option Value} {w : Value} : mw d 292 Q 96 [x0, x1, x2, x3, x4, x5, x6, some w, x8, x9, x10, x11, x12] (st) h = mv_i w (mw d 292 Q 98 [x0, x1, x2, x3, x4, x5, x6, some w, x8, x9, x10, x11, x12] (w :: st) h) := (mw_at mj_292_96).trans (z_iload rfl)
theorem mj_292_98 : mc_P 292 98 = some (.imul, 1, 0, 0, 0) := by decide +kernel
theorem s_292_98 {x0 x1 x2 x3 x4 x5 x6 x7 x8 x9 x10 x11 x12 : Option Value} {x w : Int32} : mw d 292 Q 98 [x0, x1, x2, x3, x4, x5, x6, x7, x8, x9, x10, x11, x12] (.int w :: .int x :: st) h = mw d 292 Q 99 [x0, x1, x2, x3, x4, x5, x6, x7, x8, x9, x10, x11, x12] (.int (x * w) :: st) h := (mw_at mj_292_98).trans (z_imul)
theorem mj_292_99 : mc_P 292 99 = some (.iload 8, 2, 0, 0, 0) := by decide +kernel
theorem s_292_99 {x0 x1 x2 x3 x4 x5 x6 x7 x9 x10 x11 x12 : Option Value} {w : Value} : mw d 292 Q 99 [x0, x1, x2, x3, x4, x5, x6, x7, some w, x9, x10, x11, x12] (st) h = mv_i w (mw d 292 Q 101 [x0, x1, x2, x3, x4, x5, x6, x7, some w, x9, x10, x11, x12] (w :: st) h) := (mw_at mj_292_99).trans (z_iload rfl)
theorem mj_292_101 : mc_P 292 101 = some (.iadd, 1, 0, 0, 0) := by decide +kernel
theorem s_292_101 {x0 x1 x2 x3 x4 x5 x6 x7 x8 x9 x10 x11 x12 : Option Value} {x w : Int32} : mw d 292 Q 101 [x0, x1, x2, x3, x4, x5, x6, x7, x8, x9, x10, x11, x12] (.int w :: .int x :: st) h = mw d 292 Q 102 [x0, x1, x2, x3, x4, x5, x6, x7, x8, x9, x10, x11, x12] (.int (x + w) :: st) h := (mw_at mj_292_101).trans (z_iadd)
theorem mj_292_102 : mc_P 292 102 = some (.dup2, 1, 0, 0, 0) := by decide +kernel
theorem s_292_102 {x0 x1 x2 x3 x4 x5 x6 x7 x8 x9 x10 x11 x12 : Option Value} {x : Int32} {w : Value} : mw d 292 Q 102 [x0, x1, x2, x3, x4, x5, x6, x7, x8, x9, x10, x11, x12] (.int x :: w :: st) h = (w.category = 1 ∧ mw d 292 Q 103 [x0, x1, x2, x3, x4, x5, x6, x7, x8, x9, x10, x11, x12] (.int x :: w :: .int x :: w :: st) h) := (mw_at mj_292_102).trans (z_dup2)
theorem s_292_102l {x0 x1 x2 x3 x4 x5 x6 x7 x8 x9 x10 x11 x12 : Option Value} {x : Int64} {w : Value} : mw d 292 Q 102 [x0, x1, x2, x3, x4, x5, x6, x7, x8, x9, x10, x11, x12] (.long x :: w :: st) h = mw d 292 Q 103 [x0, x1, x2, x3, x4, x5, x6, x7, x8, x9, x10, x11, x12] (.long x :: .long x :: w :: st) h := (mw_at mj_292_102).trans (z_dup2l)
theorem mj_292_103 : mc_P 292 103 = some (.laload, 1, 0, 0, 0) := by decide +kernel
theorem s_292_103 {x0 x1 x2 x3 x4 x5 x6 x7 x8 x9 x10 x11 x12 : Option Value} {o : Nat} {i : Int32} : mw d 292 Q 103 [x0, x1, x2, x3, x4, x5, x6, x7, x8, x9, x10, x11, x12] (.int i :: .ref o :: st) h = (mg h o 101 ∧ mx i (mh_l h o) ∧ mw d 292 Q 104 [x0, x1, x2, x3, x4, x5, x6, x7, x8, x9, x10, x11, x12] (.long (mh_j h o i.toNatClampNeg) :: st) h) := (mw_at mj_292_103).trans (z_lald)
theorem mj_292_104 : mc_P 292 104 = some (.iload 8, 2, 0, 0, 0) := by decide +kernel
theorem s_292_104 {x0 x1 x2 x3 x4 x5 x6 x7 x9 x10 x11 x12 : Option Value} {w : Value} : mw d 292 Q 104 [x0, x1, x2, x3, x4, x5, x6, x7, some w, x9, x10, x11, x12] (st) h = mv_i w (mw d 292 Q 106 [x0, x1, x2, x3, x4, x5, x6, x7, some w, x9, x10, x11, x12] (w :: st) h) := (mw_at mj_292_104).trans (z_iload rfl)
theorem mj_292_106 : mc_P 292 106 = some (.iload 7, 2, 0, 0, 0) := by decide +kernel
theorem s_292_106 {x0 x1 x2 x3 x4 x5 x6 x8 x9 x10 x11 x12 : Option Value} {w : Value} : mw d 292 Q 106 [x0, x1, x2, x3, x4, x5, x6, some w, x8, x9, x10, x11, x12] (st) h = mv_i w (mw d 292 Q 108 [x0, x1, x2, x3, x4, x5, x6, some w, x8, x9, x10, x11, x12] (w :: st) h) := (mw_at mj_292_106).trans (z_iload rfl)
theorem mj_292_108 : mc_P 292 108 = some (.invokestatic 27, 3, 277, 0, 1) := by decide +kernel
theorem s_292_108 {x0 x1 x2 x3 x4 x5 x6 x7 x8 x9 x10 x11 x12 : Option Value} {a0 : Value} : mw (d + 1) 292 Q 108 [x0, x1, x2, x3, x4, x5, x6, x7, x8, x9, x10, x11, x12] (a0 :: st) h = (mca st 8 ∧ mca [a0] 1 ∧ mcall d 277 [a0] h (mK (d + 1) 292 Q 111 [x0, x1, x2, x3, x4, x5, x6, x7, x8, x9, x10, x11, x12] st)) := (mw_at mj_292_108).trans ((z_invs (As := [a0]) rfl rfl).trans (congrArg (And _) (mC_nl nl_277)))
theorem mj_292_111 : mc_P 292 111 = some (.if_icmp .ne 7, 3, 0, 0, 0) := by decide +kernel
theorem s_292_111 {x0 x1 x2 x3 x4 x5 x6 x7 x8 x9 x10 x11 x12 : Option Value} {x w : Int32} : mw d 292 Q 111 [x0, x1, x2, x3, x4, x5, x6, x7, x8, x9, x10, x11, x12] (.int w :: .int x :: st) h = mB (¬ x = w) (mw d 292 Q) 118 114 [x0, x1, x2, x3, x4, x5, x6, x7, x8, x9, x10, x11, x12] st h := (mw_at mj_292_111).trans (z_icmp_ne (by decide) rfl)
theorem mj_292_114 : mc_P 292 114 = some (.lconst 0, 1, 0, 0, 0) := by decide +kernel
theorem s_292_114 {x0 x1 x2 x3 x4 x5 x6 x7 x8 x9 x10 x11 x12 : Option Value} : mw d 292 Q 114 [x0, x1, x2, x3, x4, x5, x6, x7, x8, x9, x10, x11, x12] (st) h = mw d 292 Q 115 [x0, x1, x2, x3, x4, x5, x6, x7, x8, x9, x10, x11, x12] (.long 0 :: st) h := (mw_at mj_292_114).trans (z_lconst (by decide))
theorem mj_292_115 : mc_P 292 115 = some (.goto 8, 3, 0, 0, 0) := by decide +kernel
theorem s_292_115 {x0 x1 x2 x3 x4 x5 x6 x7 x8 x9 x10 x11 x12 : Option Value} : mw d 292 Q 115 [x0, x1, x2, x3, x4, x5, x6, x7, x8, x9, x10, x11, x12] (st) h = mw d 292 Q 123 [x0, x1, x2, x3, x4, x5, x6, x7, x8, x9, x10, x11, x12] (st) h := (mw_at mj_292_115).trans (z_goto (by decide))
theorem mj_292_118 : mc_P 292 118 = some (.lload 9, 2, 0, 0, 0) := by decide +kernel
theorem s_292_118 {x0 x1 x2 x3 x4 x5 x6 x7 x8 x10 x11 x12 : Option Value} {w : Value} : mw d 292 Q 118 [x0, x1, x2, x3, x4, x5, x6, x7, x8, some w, x10, x11, x12] (st) h = mv_l w (mw d 292 Q 120 [x0, x1, x2, x3, x4, x5, x6, x7, x8, some w, x10, x11, x12] (w :: st) h) := (mw_at mj_292_118).trans (z_lload rfl)
theorem mj_292_120 : mc_P 292 120 = some (.lload 11, 2, 0, 0, 0) := by decide +kernel
theorem s_292_120 {x0 x1 x2 x3 x4 x5 x6 x7 x8 x9 x10 x12 : Option Value} {w : Value} : mw d 292 Q 120 [x0, x1, x2, x3, x4, x5, x6, x7, x8, x9, x10, some w, x12] (st) h = mv_l w (mw d 292 Q 122 [x0, x1, x2, x3, x4, x5, x6, x7, x8, x9, x10, some w, x12] (w :: st) h) := (mw_at mj_292_120).trans (z_lload rfl)
theorem mj_292_122 : mc_P 292 122 = some (.ladd, 1, 0, 0, 0) := by decide +kernel
theorem s_292_122 {x0 x1 x2 x3 x4 x5 x6 x7 x8 x9 x10 x11 x12 : Option Value} {x w : Int64} : mw d 292 Q 122 [x0, x1, x2, x3, x4, x5, x6, x7, x8, x9, x10, x11, x12] (.long w :: .long x :: st) h = mw d 292 Q 123 [x0, x1, x2, x3, x4, x5, x6, x7, x8, x9, x10, x11, x12] (.long (x + w) :: st) h := (mw_at mj_292_122).trans (z_ladd)
theorem mj_292_123 : mc_P 292 123 = some (.ladd, 1, 0, 0, 0) := by decide +kernel
theorem s_292_123 {x0 x1 x2 x3 x4 x5 x6 x7 x8 x9 x10 x11 x12 : Option Value} {x w : Int64} : mw d 292 Q 123 [x0, x1, x2, x3, x4, x5, x6, x7, x8, x9, x10, x11, x12] (.long w :: .long x :: st) h = mw d 292 Q 124 [x0, x1, x2, x3, x4, x5, x6, x7, x8, x9, x10, x11, x12] (.long (x + w) :: st) h := (mw_at mj_292_123).trans (z_ladd)
theorem mj_292_124 : mc_P 292 124 = some (.lastore, 1, 0, 0, 0) := by decide +kernel
theorem s_292_124 {x0 x1 x2 x3 x4 x5 x6 x7 x8 x9 x10 x11 x12 : Option Value} {o : Nat} {i : Int32} {w : Int64} : mw d 292 Q 124 [x0, x1, x2, x3, x4, x5, x6, x7, x8, x9, x10, x11, x12] (.long w :: .int i :: .ref o :: st) h = (mg h o 101 ∧ mx i (mh_l h o) ∧ mw d 292 Q 125 [x0, x1, x2, x3, x4, x5, x6, x7, x8, x9, x10, x11, x12] (st) (mh_sj h o i.toNatClampNeg w)) := (mw_at mj_292_124).trans (z_last)
theorem mj_292_125 : mc_P 292 125 = some (.iinc 8 1, 3, 0, 0, 0) := by decide +kernel
theorem s_292_125 {x0 x1 x2 x3 x4 x5 x6 x7 x9 x10 x11 x12 : Option Value} {w : Int32} : mw d 292 Q 125 [x0, x1, x2, x3, x4, x5, x6, x7, some (.int w), x9, x10, x11, x12] (st) h = mw d 292 Q 128 [x0, x1, x2, x3, x4, x5, x6, mk2 x7, some (.int (w + 1)), x9, x10, x11, x12] (st) h := (mw_at mj_292_125).trans (z_iinc rfl (Nat.le_of_ble_eq_true rfl) (by decide) (me_s1_mk (j := 7) (w := x7) rfl))
theorem mj_292_128 : mc_P 292 128 = some (.goto (-107), 3, 0, 0, 0) := by decide +kernel
theorem s_292_128 {x0 x1 x2 x3 x4 x5 x6 x7 x8 x9 x10 x11 x12 : Option Value} : mw d 292 Q 128 [x0, x1, x2, x3, x4, x5, x6, x7, x8, x9, x10, x11, x12] (st) h = mw d 292 Q 21 [x0, x1, x2, x3, x4, x5, x6, x7, x8, x9, x10, x11, x12] (st) h := (mw_at mj_292_128).trans (z_goto (by decide))
theorem mj_292_131 : mc_P 292 131 = some (.iinc 7 1, 3, 0, 0, 0) := by decide +kernel
theorem s_292_131 {x0 x1 x2 x3 x4 x5 x6 x8 x9 x10 x11 x12 : Option Value} {w : Int32} : mw d 292 Q 131 [x0, x1, x2, x3, x4, x5, x6, some (.int w), x8, x9, x10, x11, x12] (st) h = mw d 292 Q 134 [x0, x1, x2, x3, x4, x5, mk2 x6, some (.int (w + 1)), x8, x9, x10, x11, x12] (st) h := (mw_at mj_292_131).trans (z_iinc rfl (Nat.le_of_ble_eq_true rfl) (by decide) (me_s1_mk (j := 6) (w := x6) rfl))
theorem mj_292_134 : mc_P 292 134 = some (.goto (-123), 3, 0, 0, 0) := by decide +kernel
theorem s_292_134 {x0 x1 x2 x3 x4 x5 x6 x7 x8 x9 x10 x11 x12 : Option Value} : mw d 292 Q 134 [x0, x1, x2, x3, x4, x5, x6, x7, x8, x9, x10, x11, x12] (st) h = mw d 292 Q 11 [x0, x1, x2, x3, x4, x5, x6, x7, x8, x9, x10, x11, x12] (st) h := (mw_at mj_292_134).trans (z_goto (by decide))
theorem mj_292_137 : mc_P 292 137 = some (.aload_n 0, 1, 0, 0, 0) := by decide +kernel
theorem s_292_137 {x1 x2 x3 x4 x5 x6 x7 x8 x9 x10 x11 x12 : Option Value} {w : Value} : mw d 292 Q 137 [some w, x1, x2, x3, x4, x5, x6, x7, x8, x9, x10, x11, x12] (st) h = mv_a w (mw d 292 Q 138 [some w, x1, x2, x3, x4, x5, x6, x7, x8, x9, x10, x11, x12] (w :: st) h) := (mw_at mj_292_137).trans (z_aload_n rfl)
theorem mj_292_138 : mc_P 292 138 = some (.iconst 2, 1, 0, 0, 0) := by decide +kernel
theorem s_292_138 {x0 x1 x2 x3 x4 x5 x6 x7 x8 x9 x10 x11 x12 : Option Value} : mw d 292 Q 138 [x0, x1, x2, x3, x4, x5, x6, x7, x8, x9, x10, x11, x12] (st) h = mw d 292 Q 139 [x0, x1, x2, x3, x4, x5, x6, x7, x8, x9, x10, x11, x12] (.int 2 :: st) h := (mw_at mj_292_138).trans (z_iconst (by decide))
theorem mj_292_139 : mc_P 292 139 = some (.iload_n 1, 1, 0, 0, 0) := by decide +kernel
theorem s_292_139 {x0 x2 x3 x4 x5 x6 x7 x8 x9 x10 x11 x12 : Option Value} {w : Value} : mw d 292 Q 139 [x0, some w, x2, x3, x4, x5, x6, x7, x8, x9, x10, x11, x12] (st) h = mv_i w (mw d 292 Q 140 [x0, some w, x2, x3, x4, x5, x6, x7, x8, x9, x10, x11, x12] (w :: st) h) := (mw_at mj_292_139).trans (z_iload_n rfl)
theorem mj_292_140 : mc_P 292 140 = some (.imul, 1, 0, 0, 0) := by decide +kernel
theorem s_292_140 {x0 x1 x2 x3 x4 x5 x6 x7 x8 x9 x10 x11 x12 : Option Value} {x w : Int32} : mw d 292 Q 140 [x0, x1, x2, x3, x4, x5, x6, x7, x8, x9, x10, x11, x12] (.int w :: .int x :: st) h = mw d 292 Q 141 [x0, x1, x2, x3, x4, x5, x6, x7, x8, x9, x10, x11, x12] (.int (x * w) :: st) h := (mw_at mj_292_140).trans (z_imul)
theorem mj_292_141 : mc_P 292 141 = some (.iconst 2, 1, 0, 0, 0) := by decide +kernel
theorem s_292_141 {x0 x1 x2 x3 x4 x5 x6 x7 x8 x9 x10 x11 x12 : Option Value} : mw d 292 Q 141 [x0, x1, x2, x3, x4, x5, x6, x7, x8, x9, x10, x11, x12] (st) h = mw d 292 Q 142 [x0, x1, x2, x3, x4, x5, x6, x7, x8, x9, x10, x11, x12] (.int 2 :: st) h := (mw_at mj_292_141).trans (z_iconst (by decide))
theorem mj_292_142 : mc_P 292 142 = some (.iload_n 1, 1, 0, 0, 0) := by decide +kernel
theorem s_292_142 {x0 x2 x3 x4 x5 x6 x7 x8 x9 x10 x11 x12 : Option Value} {w : Value} : mw d 292 Q 142 [x0, some w, x2, x3, x4, x5, x6, x7, x8, x9, x10, x11, x12] (st) h = mv_i w (mw d 292 Q 143 [x0, some w, x2, x3, x4, x5, x6, x7, x8, x9, x10, x11, x12] (w :: st) h) := (mw_at mj_292_142).trans (z_iload_n rfl)
theorem mj_292_143 : mc_P 292 143 = some (.imul, 1, 0, 0, 0) := by decide +kernel
theorem s_292_143 {x0 x1 x2 x3 x4 x5 x6 x7 x8 x9 x10 x11 x12 : Option Value} {x w : Int32} : mw d 292 Q 143 [x0, x1, x2, x3, x4, x5, x6, x7, x8, x9, x10, x11, x12] (.int w :: .int x :: st) h = mw d 292 Q 144 [x0, x1, x2, x3, x4, x5, x6, x7, x8, x9, x10, x11, x12] (.int (x * w) :: st) h := (mw_at mj_292_143).trans (z_imul)
theorem mj_292_144 : mc_P 292 144 = some (.ldc2_w 23, 3, 0, 0, 2147483647) := by decide +kernel
theorem s_292_144 {x0 x1 x2 x3 x4 x5 x6 x7 x8 x9 x10 x11 x12 : Option Value} : mw d 292 Q 144 [x0, x1, x2, x3, x4, x5, x6, x7, x8, x9, x10, x11, x12] (st) h = mw d 292 Q 147 [x0, x1, x2, x3, x4, x5, x6, x7, x8, x9, x10, x11, x12] (.long 2147483647 :: st) h := (mw_at mj_292_144).trans (z_ldc2 (by decide))
theorem mj_292_147 : mc_P 292 147 = some (.invokevirtual 74, 3, 285, 13, 4) := by decide +kernel
theorem s_292_147 {x0 x1 x2 x3 x4 x5 x6 x7 x8 x9 x10 x11 x12 : Option Value} {o : Nat} {a1 a2 a3 : Value} : mw (d + 1) 292 Q 147 [x0, x1, x2, x3, x4, x5, x6, x7, x8, x9, x10, x11, x12] (a3 :: a2 :: a1 :: .ref o :: st) h = (mg h o 13 ∧ mca st 8 ∧ mca [.ref o, a1, a2, a3] 7 ∧ mcall d 285 [.ref o, a1, a2, a3] h (mK (d + 1) 292 Q 150 [x0, x1, x2, x3, x4, x5, x6, x7, x8, x9, x10, x11, x12] st)) := (mw_at mj_292_147).trans ((z_invv (As := [a1, a2, a3]) (by decide) rfl rfl).trans (congrArg (And _) (congrArg (And _) (mC_nl nl_285))))
theorem mj_292_150 : mc_P 292 150 = some (.aload_n 0, 1, 0, 0, 0) := by decide +kernel
theorem s_292_150 {x1 x2 x3 x4 x5 x6 x7 x8 x9 x10 x11 x12 : Option Value} {w : Value} : mw d 292 Q 150 [some w, x1, x2, x3, x4, x5, x6, x7, x8, x9, x10, x11, x12] (st) h = mv_a w (mw d 292 Q 151 [some w, x1, x2, x3, x4, x5, x6, x7, x8, x9, x10, x11, x12] (w :: st) h) := (mw_at mj_292_150).trans (z_aload_n rfl)
theorem mj_292_151 : mc_P 292 151 = some (.iconst 2, 1, 0, 0, 0) := by decide +kernel
theorem s_292_151 {x0 x1 x2 x3 x4 x5 x6 x7 x8 x9 x10 x11 x12 : Option Value} : mw d 292 Q 151 [x0, x1, x2, x3, x4, x5, x6, x7, x8, x9, x10, x11, x12] (st) h = mw d 292 Q 152 [x0, x1, x2, x3, x4, x5, x6, x7, x8, x9, x10, x11, x12] (.int 2 :: st) h := (mw_at mj_292_151).trans (z_iconst (by decide))
theorem mj_292_152 : mc_P 292 152 = some (.iload_n 1, 1, 0, 0, 0) := by decide +kernel
theorem s_292_152 {x0 x2 x3 x4 x5 x6 x7 x8 x9 x10 x11 x12 : Option Value} {w : Value} : mw d 292 Q 152 [x0, some w, x2, x3, x4, x5, x6, x7, x8, x9, x10, x11, x12] (st) h = mv_i w (mw d 292 Q 153 [x0, some w, x2, x3, x4, x5, x6, x7, x8, x9, x10, x11, x12] (w :: st) h) := (mw_at mj_292_152).trans (z_iload_n rfl)
theorem mj_292_153 : mc_P 292 153 = some (.imul, 1, 0, 0, 0) := by decide +kernel
theorem s_292_153 {x0 x1 x2 x3 x4 x5 x6 x7 x8 x9 x10 x11 x12 : Option Value} {x w : Int32} : mw d 292 Q 153 [x0, x1, x2, x3, x4, x5, x6, x7, x8, x9, x10, x11, x12] (.int w :: .int x :: st) h = mw d 292 Q 154 [x0, x1, x2, x3, x4, x5, x6, x7, x8, x9, x10, x11, x12] (.int (x * w) :: st) h := (mw_at mj_292_153).trans (z_imul)
theorem mj_292_154 : mc_P 292 154 = some (.iconst 1, 1, 0, 0, 0) := by decide +kernel
theorem s_292_154 {x0 x1 x2 x3 x4 x5 x6 x7 x8 x9 x10 x11 x12 : Option Value} : mw d 292 Q 154 [x0, x1, x2, x3, x4, x5, x6, x7, x8, x9, x10, x11, x12] (st) h = mw d 292 Q 155 [x0, x1, x2, x3, x4, x5, x6, x7, x8, x9, x10, x11, x12] (.int 1 :: st) h := (mw_at mj_292_154).trans (z_iconst (by decide))
theorem mj_292_155 : mc_P 292 155 = some (.iadd, 1, 0, 0, 0) := by decide +kernel
theorem s_292_155 {x0 x1 x2 x3 x4 x5 x6 x7 x8 x9 x10 x11 x12 : Option Value} {x w : Int32} : mw d 292 Q 155 [x0, x1, x2, x3, x4, x5, x6, x7, x8, x9, x10, x11, x12] (.int w :: .int x :: st) h = mw d 292 Q 156 [x0, x1, x2, x3, x4, x5, x6, x7, x8, x9, x10, x11, x12] (.int (x + w) :: st) h := (mw_at mj_292_155).trans (z_iadd)
theorem mj_292_156 : mc_P 292 156 = some (.iconst 2, 1, 0, 0, 0) := by decide +kernel
theorem s_292_156 {x0 x1 x2 x3 x4 x5 x6 x7 x8 x9 x10 x11 x12 : Option Value} : mw d 292 Q 156 [x0, x1, x2, x3, x4, x5, x6, x7, x8, x9, x10, x11, x12] (st) h = mw d 292 Q 157 [x0, x1, x2, x3, x4, x5, x6, x7, x8, x9, x10, x11, x12] (.int 2 :: st) h := (mw_at mj_292_156).trans (z_iconst (by decide))
theorem mj_292_157 : mc_P 292 157 = some (.iload_n 1, 1, 0, 0, 0) := by decide +kernel
theorem s_292_157 {x0 x2 x3 x4 x5 x6 x7 x8 x9 x10 x11 x12 : Option Value} {w : Value} : mw d 292 Q 157 [x0, some w, x2, x3, x4, x5, x6, x7, x8, x9, x10, x11, x12] (st) h = mv_i w (mw d 292 Q 158 [x0, some w, x2, x3, x4, x5, x6, x7, x8, x9, x10, x11, x12] (w :: st) h) := (mw_at mj_292_157).trans (z_iload_n rfl)
theorem mj_292_158 : mc_P 292 158 = some (.imul, 1, 0, 0, 0) := by decide +kernel
theorem s_292_158 {x0 x1 x2 x3 x4 x5 x6 x7 x8 x9 x10 x11 x12 : Option Value} {x w : Int32} : mw d 292 Q 158 [x0, x1, x2, x3, x4, x5, x6, x7, x8, x9, x10, x11, x12] (.int w :: .int x :: st) h = mw d 292 Q 159 [x0, x1, x2, x3, x4, x5, x6, x7, x8, x9, x10, x11, x12] (.int (x * w) :: st) h := (mw_at mj_292_158).trans (z_imul)
theorem mj_292_159 : mc_P 292 159 = some (.iconst 1, 1, 0, 0, 0) := by decide +kernel
theorem s_292_159 {x0 x1 x2 x3 x4 x5 x6 x7 x8 x9 x10 x11 x12 : Option Value} : mw d 292 Q 159 [x0, x1, x2, x3, x4, x5, x6, x7, x8, x9, x10, x11, x12] (st) h = mw d 292 Q 160 [x0, x1, x2, x3, x4, x5, x6, x7, x8, x9, x10, x11, x12] (.int 1 :: st) h := (mw_at mj_292_159).trans (z_iconst (by decide))
theorem mj_292_160 : mc_P 292 160 = some (.iadd, 1, 0, 0, 0) := by decide +kernel
theorem s_292_160 {x0 x1 x2 x3 x4 x5 x6 x7 x8 x9 x10 x11 x12 : Option Value} {x w : Int32} : mw d 292 Q 160 [x0, x1, x2, x3, x4, x5, x6, x7, x8, x9, x10, x11, x12] (.int w :: .int x :: st) h = mw d 292 Q 161 [x0, x1, x2, x3, x4, x5, x6, x7, x8, x9, x10, x11, x12] (.int (x + w) :: st) h := (mw_at mj_292_160).trans (z_iadd)
theorem mj_292_161 : mc_P 292 161 = some (.ldc2_w 25, 3, 0, 0, 2147483648) := by decide +kernel
theorem s_292_161 {x0 x1 x2 x3 x4 x5 x6 x7 x8 x9 x10 x11 x12 : Option Value} : mw d 292 Q 161 [x0, x1, x2, x3, x4, x5, x6, x7, x8, x9, x10, x11, x12] (st) h = mw d 292 Q 164 [x0, x1, x2, x3, x4, x5, x6, x7, x8, x9, x10, x11, x12] (.long 2147483648 :: st) h := (mw_at mj_292_161).trans (z_ldc2 (by decide))
theorem mj_292_164 : mc_P 292 164 = some (.invokevirtual 74, 3, 285, 13, 4) := by decide +kernel
theorem s_292_164 {x0 x1 x2 x3 x4 x5 x6 x7 x8 x9 x10 x11 x12 : Option Value} {o : Nat} {a1 a2 a3 : Value} : mw (d + 1) 292 Q 164 [x0, x1, x2, x3, x4, x5, x6, x7, x8, x9, x10, x11, x12] (a3 :: a2 :: a1 :: .ref o :: st) h = (mg h o 13 ∧ mca st 8 ∧ mca [.ref o, a1, a2, a3] 7 ∧ mcall d 285 [.ref o, a1, a2, a3] h (mK (d + 1) 292 Q 167 [x0, x1, x2, x3, x4, x5, x6, x7, x8, x9, x10, x11, x12] st)) := (mw_at mj_292_164).trans ((z_invv (As := [a1, a2, a3]) (by decide) rfl rfl).trans (congrArg (And _) (congrArg (And _) (mC_nl nl_285))))
theorem mj_292_167 : mc_P 292 167 = some (.return_, 1, 0, 0, 0) := by decide +kernel
theorem s_292_167 {x0 x1 x2 x3 x4 x5 x6 x7 x8 x9 x10 x11 x12 : Option Value} : mw d 292 Q 167 [x0, x1, x2, x3, x4, x5, x6, x7, x8, x9, x10, x11, x12] ([]) h = Q none h := (mw_at mj_292_167).trans (z_vret)
theorem e_292 {a0 : Nat} {a1 : Int32} {a2 : Int64} {a3 : Int64} : mcall d 292 [.ref a0, .int a1, .long a2, .long a3] h Q = mw d 292 Q 0 [some (.ref a0), some (.int a1), some (.long a2), none, some (.long a3), none, none, none, none, none, none, none, none] [] h := by
  show mw d 292 Q 0 (me_en (mc_nl 292) _) [] h = _
  rw [nl_292]; rfl

/-! InvariantDeskModel$Known.join(LInvariantDeskModel$Known;)V -/
theorem mj_293_0 : mc_P 293 0 = some (.aload_n 1, 1, 0, 0, 0) := by decide +kernel
theorem s_293_0 {x0 x2 x3 : Option Value} {w : Value} : mw d 293 Q 0 [x0, some w, x2, x3] (st) h = mv_a w (mw d 293 Q 1 [x0, some w, x2, x3] (w :: st) h) := (mw_at mj_293_0).trans (z_aload_n rfl)
theorem mj_293_1 : mc_P 293 1 = some (.getfield 35, 3, 13, 0, 0) := by decide +kernel
theorem s_293_1 {x0 x1 x2 x3 : Option Value} {o : Nat} : mw d 293 Q 1 [x0, x1, x2, x3] (.ref o :: st) h = (mg h o 13 ∧ mw d 293 Q 4 [x0, x1, x2, x3] (.int (mh_i h o 0) :: st) h) := (mw_at mj_293_1).trans (z_geti (by decide) (by decide) (Or.inr rfl))
theorem mj_293_4 : mc_P 293 4 = some (.ifCond .eq 4, 3, 0, 0, 0) := by decide +kernel
theorem s_293_4 {x0 x1 x2 x3 : Option Value} {x : Int32} : mw d 293 Q 4 [x0, x1, x2, x3] (.int x :: st) h = mB (x = 0) (mw d 293 Q) 8 7 [x0, x1, x2, x3] st h := (mw_at mj_293_4).trans (z_if_eq (by decide) rfl)
theorem mj_293_7 : mc_P 293 7 = some (.return_, 1, 0, 0, 0) := by decide +kernel
theorem s_293_7 {x0 x1 x2 x3 : Option Value} : mw d 293 Q 7 [x0, x1, x2, x3] ([]) h = Q none h := (mw_at mj_293_7).trans (z_vret)
theorem mj_293_8 : mc_P 293 8 = some (.aload_n 0, 1, 0, 0, 0) := by decide +kernel
theorem s_293_8 {x1 x2 x3 : Option Value} {w : Value} : mw d 293 Q 8 [some w, x1, x2, x3] (st) h = mv_a w (mw d 293 Q 9 [some w, x1, x2, x3] (w :: st) h) := (mw_at mj_293_8).trans (z_aload_n rfl)
theorem mj_293_9 : mc_P 293 9 = some (.getfield 35, 3, 13, 0, 0) := by decide +kernel
theorem s_293_9 {x0 x1 x2 x3 : Option Value} {o : Nat} : mw d 293 Q 9 [x0, x1, x2, x3] (.ref o :: st) h = (mg h o 13 ∧ mw d 293 Q 12 [x0, x1, x2, x3] (.int (mh_i h o 0) :: st) h) := (mw_at mj_293_9).trans (z_geti (by decide) (by decide) (Or.inr rfl))
theorem mj_293_12 : mc_P 293 12 = some (.ifCond .eq 9, 3, 0, 0, 0) := by decide +kernel
theorem s_293_12 {x0 x1 x2 x3 : Option Value} {x : Int32} : mw d 293 Q 12 [x0, x1, x2, x3] (.int x :: st) h = mB (x = 0) (mw d 293 Q) 21 15 [x0, x1, x2, x3] st h := (mw_at mj_293_12).trans (z_if_eq (by decide) rfl)
theorem mj_293_15 : mc_P 293 15 = some (.aload_n 0, 1, 0, 0, 0) := by decide +kernel
theorem s_293_15 {x1 x2 x3 : Option Value} {w : Value} : mw d 293 Q 15 [some w, x1, x2, x3] (st) h = mv_a w (mw d 293 Q 16 [some w, x1, x2, x3] (w :: st) h) := (mw_at mj_293_15).trans (z_aload_n rfl)
theorem mj_293_16 : mc_P 293 16 = some (.aload_n 1, 1, 0, 0, 0) := by decide +kernel
theorem s_293_16 {x0 x2 x3 : Option Value} {w : Value} : mw d 293 Q 16 [x0, some w, x2, x3] (st) h = mv_a w (mw d 293 Q 17 [x0, some w, x2, x3] (w :: st) h) := (mw_at mj_293_16).trans (z_aload_n rfl)
theorem mj_293_17 : mc_P 293 17 = some (.invokevirtual 78, 3, 281, 13, 2) := by decide +kernel
theorem s_293_17 {x0 x1 x2 x3 : Option Value} {o : Nat} {a1 : Value} : mw (d + 1) 293 Q 17 [x0, x1, x2, x3] (a1 :: .ref o :: st) h = (mg h o 13 ∧ mca st 8 ∧ mca [.ref o, a1] 2 ∧ mcall d 281 [.ref o, a1] h (mK (d + 1) 293 Q 20 [x0, x1, x2, x3] st)) := (mw_at mj_293_17).trans ((z_invv (As := [a1]) (by decide) rfl rfl).trans (congrArg (And _) (congrArg (And _) (mC_nl nl_281))))
theorem mj_293_20 : mc_P 293 20 = some (.return_, 1, 0, 0, 0) := by decide +kernel
theorem s_293_20 {x0 x1 x2 x3 : Option Value} : mw d 293 Q 20 [x0, x1, x2, x3] ([]) h = Q none h := (mw_at mj_293_20).trans (z_vret)
theorem mj_293_21 : mc_P 293 21 = some (.iconst 0, 1, 0, 0, 0) := by decide +kernel
theorem s_293_21 {x0 x1 x2 x3 : Option Value} : mw d 293 Q 21 [x0, x1, x2, x3] (st) h = mw d 293 Q 22 [x0, x1, x2, x3] (.int 0 :: st) h := (mw_at mj_293_21).trans (z_iconst (by decide))
theorem mj_293_22 : mc_P 293 22 = some (.istore_n 2, 1, 0, 0, 0) := by decide +kernel
theorem s_293_22 {x0 x1 x2 x3 : Option Value} {w : Int32} : mw d 293 Q 22 [x0, x1, x2, x3] (.int w :: st) h = mw d 293 Q 23 [x0, mk2 x1, some (.int w), x3] (st) h := (mw_at mj_293_22).trans (z_istore_n (Nat.le_of_ble_eq_true rfl) (me_s1_mk (j := 1) (w := x1) rfl))
theorem mj_293_23 : mc_P 293 23 = some (.iload_n 2, 1, 0, 0, 0) := by decide +kernel
theorem s_293_23 {x0 x1 x3 : Option Value} {w : Value} : mw d 293 Q 23 [x0, x1, some w, x3] (st) h = mv_i w (mw d 293 Q 24 [x0, x1, some w, x3] (w :: st) h) := (mw_at mj_293_23).trans (z_iload_n rfl)
theorem mj_293_24 : mc_P 293 24 = some (.iconst 2, 1, 0, 0, 0) := by decide +kernel
theorem s_293_24 {x0 x1 x2 x3 : Option Value} : mw d 293 Q 24 [x0, x1, x2, x3] (st) h = mw d 293 Q 25 [x0, x1, x2, x3] (.int 2 :: st) h := (mw_at mj_293_24).trans (z_iconst (by decide))
theorem mj_293_25 : mc_P 293 25 = some (.aload_n 0, 1, 0, 0, 0) := by decide +kernel
theorem s_293_25 {x1 x2 x3 : Option Value} {w : Value} : mw d 293 Q 25 [some w, x1, x2, x3] (st) h = mv_a w (mw d 293 Q 26 [some w, x1, x2, x3] (w :: st) h) := (mw_at mj_293_25).trans (z_aload_n rfl)
theorem mj_293_26 : mc_P 293 26 = some (.getfield 39, 3, 13, 1, 0) := by decide +kernel
theorem s_293_26 {x0 x1 x2 x3 : Option Value} {o : Nat} : mw d 293 Q 26 [x0, x1, x2, x3] (.ref o :: st) h = (mg h o 13 ∧ mw d 293 Q 29 [x0, x1, x2, x3] (.int (mh_i h o 1) :: st) h) := (mw_at mj_293_26).trans (z_geti (by decide) (by decide) (Or.inl rfl))
theorem mj_293_29 : mc_P 293 29 = some (.imul, 1, 0, 0, 0) := by decide +kernel
theorem s_293_29 {x0 x1 x2 x3 : Option Value} {x w : Int32} : mw d 293 Q 29 [x0, x1, x2, x3] (.int w :: .int x :: st) h = mw d 293 Q 30 [x0, x1, x2, x3] (.int (x * w) :: st) h := (mw_at mj_293_29).trans (z_imul)
theorem mj_293_30 : mc_P 293 30 = some (.if_icmp .ge 63, 3, 0, 0, 0) := by decide +kernel
theorem s_293_30 {x0 x1 x2 x3 : Option Value} {x w : Int32} : mw d 293 Q 30 [x0, x1, x2, x3] (.int w :: .int x :: st) h = mB (w ≤ x) (mw d 293 Q) 93 33 [x0, x1, x2, x3] st h := (mw_at mj_293_30).trans (z_icmp_ge (by decide) rfl)
theorem mj_293_33 : mc_P 293 33 = some (.iconst 0, 1, 0, 0, 0) := by decide +kernel
theorem s_293_33 {x0 x1 x2 x3 : Option Value} : mw d 293 Q 33 [x0, x1, x2, x3] (st) h = mw d 293 Q 34 [x0, x1, x2, x3] (.int 0 :: st) h := (mw_at mj_293_33).trans (z_iconst (by decide))
theorem mj_293_34 : mc_P 293 34 = some (.istore_n 3, 1, 0, 0, 0) := by decide +kernel
theorem s_293_34 {x0 x1 x2 x3 : Option Value} {w : Int32} : mw d 293 Q 34 [x0, x1, x2, x3] (.int w :: st) h = mw d 293 Q 35 [x0, x1, mk2 x2, some (.int w)] (st) h := (mw_at mj_293_34).trans (z_istore_n (Nat.le_of_ble_eq_true rfl) (me_s1_mk (j := 2) (w := x2) rfl))
theorem mj_293_35 : mc_P 293 35 = some (.iload_n 3, 1, 0, 0, 0) := by decide +kernel
theorem s_293_35 {x0 x1 x2 : Option Value} {w : Value} : mw d 293 Q 35 [x0, x1, x2, some w] (st) h = mv_i w (mw d 293 Q 36 [x0, x1, x2, some w] (w :: st) h) := (mw_at mj_293_35).trans (z_iload_n rfl)
theorem mj_293_36 : mc_P 293 36 = some (.iconst 2, 1, 0, 0, 0) := by decide +kernel
theorem s_293_36 {x0 x1 x2 x3 : Option Value} : mw d 293 Q 36 [x0, x1, x2, x3] (st) h = mw d 293 Q 37 [x0, x1, x2, x3] (.int 2 :: st) h := (mw_at mj_293_36).trans (z_iconst (by decide))
theorem mj_293_37 : mc_P 293 37 = some (.aload_n 0, 1, 0, 0, 0) := by decide +kernel
theorem s_293_37 {x1 x2 x3 : Option Value} {w : Value} : mw d 293 Q 37 [some w, x1, x2, x3] (st) h = mv_a w (mw d 293 Q 38 [some w, x1, x2, x3] (w :: st) h) := (mw_at mj_293_37).trans (z_aload_n rfl)
theorem mj_293_38 : mc_P 293 38 = some (.getfield 39, 3, 13, 1, 0) := by decide +kernel
theorem s_293_38 {x0 x1 x2 x3 : Option Value} {o : Nat} : mw d 293 Q 38 [x0, x1, x2, x3] (.ref o :: st) h = (mg h o 13 ∧ mw d 293 Q 41 [x0, x1, x2, x3] (.int (mh_i h o 1) :: st) h) := (mw_at mj_293_38).trans (z_geti (by decide) (by decide) (Or.inl rfl))
theorem mj_293_41 : mc_P 293 41 = some (.imul, 1, 0, 0, 0) := by decide +kernel
theorem s_293_41 {x0 x1 x2 x3 : Option Value} {x w : Int32} : mw d 293 Q 41 [x0, x1, x2, x3] (.int w :: .int x :: st) h = mw d 293 Q 42 [x0, x1, x2, x3] (.int (x * w) :: st) h := (mw_at mj_293_41).trans (z_imul)
theorem mj_293_42 : mc_P 293 42 = some (.if_icmp .ge 45, 3, 0, 0, 0) := by decide +kernel
theorem s_293_42 {x0 x1 x2 x3 : Option Value} {x w : Int32} : mw d 293 Q 42 [x0, x1, x2, x3] (.int w :: .int x :: st) h = mB (w ≤ x) (mw d 293 Q) 87 45 [x0, x1, x2, x3] st h := (mw_at mj_293_42).trans (z_icmp_ge (by decide) rfl)
theorem mj_293_45 : mc_P 293 45 = some (.aload_n 0, 1, 0, 0, 0) := by decide +kernel
theorem s_293_45 {x1 x2 x3 : Option Value} {w : Value} : mw d 293 Q 45 [some w, x1, x2, x3] (st) h = mv_a w (mw d 293 Q 46 [some w, x1, x2, x3] (w :: st) h) := (mw_at mj_293_45).trans (z_aload_n rfl)
theorem mj_293_46 : mc_P 293 46 = some (.getfield 9, 3, 13, 3, 0) := by decide +kernel
theorem s_293_46 {x0 x1 x2 x3 : Option Value} {o : Nat} : mw d 293 Q 46 [x0, x1, x2, x3] (.ref o :: st) h = (mg h o 13 ∧ mw d 293 Q 49 [x0, x1, x2, x3] (va_rf (mh_r h o 3) :: st) h) := (mw_at mj_293_46).trans (z_getr (by decide) (by decide) rfl)
theorem mj_293_49 : mc_P 293 49 = some (.bipush 24, 2, 0, 0, 0) := by decide +kernel
theorem s_293_49 {x0 x1 x2 x3 : Option Value} : mw d 293 Q 49 [x0, x1, x2, x3] (st) h = mw d 293 Q 51 [x0, x1, x2, x3] (.int 24 :: st) h := (mw_at mj_293_49).trans (z_bipush (by decide))
theorem mj_293_51 : mc_P 293 51 = some (.iload_n 2, 1, 0, 0, 0) := by decide +kernel
theorem s_293_51 {x0 x1 x3 : Option Value} {w : Value} : mw d 293 Q 51 [x0, x1, some w, x3] (st) h = mv_i w (mw d 293 Q 52 [x0, x1, some w, x3] (w :: st) h) := (mw_at mj_293_51).trans (z_iload_n rfl)
theorem mj_293_52 : mc_P 293 52 = some (.imul, 1, 0, 0, 0) := by decide +kernel
theorem s_293_52 {x0 x1 x2 x3 : Option Value} {x w : Int32} : mw d 293 Q 52 [x0, x1, x2, x3] (.int w :: .int x :: st) h = mw d 293 Q 53 [x0, x1, x2, x3] (.int (x * w) :: st) h := (mw_at mj_293_52).trans (z_imul)
theorem mj_293_53 : mc_P 293 53 = some (.iload_n 3, 1, 0, 0, 0) := by decide +kernel
theorem s_293_53 {x0 x1 x2 : Option Value} {w : Value} : mw d 293 Q 53 [x0, x1, x2, some w] (st) h = mv_i w (mw d 293 Q 54 [x0, x1, x2, some w] (w :: st) h) := (mw_at mj_293_53).trans (z_iload_n rfl)
theorem mj_293_54 : mc_P 293 54 = some (.iadd, 1, 0, 0, 0) := by decide +kernel
theorem s_293_54 {x0 x1 x2 x3 : Option Value} {x w : Int32} : mw d 293 Q 54 [x0, x1, x2, x3] (.int w :: .int x :: st) h = mw d 293 Q 55 [x0, x1, x2, x3] (.int (x + w) :: st) h := (mw_at mj_293_54).trans (z_iadd)
theorem mj_293_55 : mc_P 293 55 = some (.aload_n 0, 1, 0, 0, 0) := by decide +kernel
theorem s_293_55 {x1 x2 x3 : Option Value} {w : Value} : mw d 293 Q 55 [some w, x1, x2, x3] (st) h = mv_a w (mw d 293 Q 56 [some w, x1, x2, x3] (w :: st) h) := (mw_at mj_293_55).trans (z_aload_n rfl)
theorem mj_293_56 : mc_P 293 56 = some (.getfield 9, 3, 13, 3, 0) := by decide +kernel
theorem s_293_56 {x0 x1 x2 x3 : Option Value} {o : Nat} : mw d 293 Q 56 [x0, x1, x2, x3] (.ref o :: st) h = (mg h o 13 ∧ mw d 293 Q 59 [x0, x1, x2, x3] (va_rf (mh_r h o 3) :: st) h) := (mw_at mj_293_56).trans (z_getr (by decide) (by decide) rfl)
theorem mj_293_59 : mc_P 293 59 = some (.bipush 24, 2, 0, 0, 0) := by decide +kernel
theorem s_293_59 {x0 x1 x2 x3 : Option Value} : mw d 293 Q 59 [x0, x1, x2, x3] (st) h = mw d 293 Q 61 [x0, x1, x2, x3] (.int 24 :: st) h := (mw_at mj_293_59).trans (z_bipush (by decide))
theorem mj_293_61 : mc_P 293 61 = some (.iload_n 2, 1, 0, 0, 0) := by decide +kernel
theorem s_293_61 {x0 x1 x3 : Option Value} {w : Value} : mw d 293 Q 61 [x0, x1, some w, x3] (st) h = mv_i w (mw d 293 Q 62 [x0, x1, some w, x3] (w :: st) h) := (mw_at mj_293_61).trans (z_iload_n rfl)
theorem mj_293_62 : mc_P 293 62 = some (.imul, 1, 0, 0, 0) := by decide +kernel
theorem s_293_62 {x0 x1 x2 x3 : Option Value} {x w : Int32} : mw d 293 Q 62 [x0, x1, x2, x3] (.int w :: .int x :: st) h = mw d 293 Q 63 [x0, x1, x2, x3] (.int (x * w) :: st) h := (mw_at mj_293_62).trans (z_imul)
theorem mj_293_63 : mc_P 293 63 = some (.iload_n 3, 1, 0, 0, 0) := by decide +kernel
theorem s_293_63 {x0 x1 x2 : Option Value} {w : Value} : mw d 293 Q 63 [x0, x1, x2, some w] (st) h = mv_i w (mw d 293 Q 64 [x0, x1, x2, some w] (w :: st) h) := (mw_at mj_293_63).trans (z_iload_n rfl)
theorem mj_293_64 : mc_P 293 64 = some (.iadd, 1, 0, 0, 0) := by decide +kernel
theorem s_293_64 {x0 x1 x2 x3 : Option Value} {x w : Int32} : mw d 293 Q 64 [x0, x1, x2, x3] (.int w :: .int x :: st) h = mw d 293 Q 65 [x0, x1, x2, x3] (.int (x + w) :: st) h := (mw_at mj_293_64).trans (z_iadd)
theorem mj_293_65 : mc_P 293 65 = some (.laload, 1, 0, 0, 0) := by decide +kernel
theorem s_293_65 {x0 x1 x2 x3 : Option Value} {o : Nat} {i : Int32} : mw d 293 Q 65 [x0, x1, x2, x3] (.int i :: .ref o :: st) h = (mg h o 101 ∧ mx i (mh_l h o) ∧ mw d 293 Q 66 [x0, x1, x2, x3] (.long (mh_j h o i.toNatClampNeg) :: st) h) := (mw_at mj_293_65).trans (z_lald)
theorem mj_293_66 : mc_P 293 66 = some (.aload_n 1, 1, 0, 0, 0) := by decide +kernel
theorem s_293_66 {x0 x2 x3 : Option Value} {w : Value} : mw d 293 Q 66 [x0, some w, x2, x3] (st) h = mv_a w (mw d 293 Q 67 [x0, some w, x2, x3] (w :: st) h) := (mw_at mj_293_66).trans (z_aload_n rfl)
theorem mj_293_67 : mc_P 293 67 = some (.getfield 9, 3, 13, 3, 0) := by decide +kernel
theorem s_293_67 {x0 x1 x2 x3 : Option Value} {o : Nat} : mw d 293 Q 67 [x0, x1, x2, x3] (.ref o :: st) h = (mg h o 13 ∧ mw d 293 Q 70 [x0, x1, x2, x3] (va_rf (mh_r h o 3) :: st) h) := (mw_at mj_293_67).trans (z_getr (by decide) (by decide) rfl)
theorem mj_293_70 : mc_P 293 70 = some (.bipush 24, 2, 0, 0, 0) := by decide +kernel
theorem s_293_70 {x0 x1 x2 x3 : Option Value} : mw d 293 Q 70 [x0, x1, x2, x3] (st) h = mw d 293 Q 72 [x0, x1, x2, x3] (.int 24 :: st) h := (mw_at mj_293_70).trans (z_bipush (by decide))
theorem mj_293_72 : mc_P 293 72 = some (.iload_n 2, 1, 0, 0, 0) := by decide +kernel
theorem s_293_72 {x0 x1 x3 : Option Value} {w : Value} : mw d 293 Q 72 [x0, x1, some w, x3] (st) h = mv_i w (mw d 293 Q 73 [x0, x1, some w, x3] (w :: st) h) := (mw_at mj_293_72).trans (z_iload_n rfl)
theorem mj_293_73 : mc_P 293 73 = some (.imul, 1, 0, 0, 0) := by decide +kernel
theorem s_293_73 {x0 x1 x2 x3 : Option Value} {x w : Int32} : mw d 293 Q 73 [x0, x1, x2, x3] (.int w :: .int x :: st) h = mw d 293 Q 74 [x0, x1, x2, x3] (.int (x * w) :: st) h := (mw_at mj_293_73).trans (z_imul)
theorem mj_293_74 : mc_P 293 74 = some (.iload_n 3, 1, 0, 0, 0) := by decide +kernel
theorem s_293_74 {x0 x1 x2 : Option Value} {w : Value} : mw d 293 Q 74 [x0, x1, x2, some w] (st) h = mv_i w (mw d 293 Q 75 [x0, x1, x2, some w] (w :: st) h) := (mw_at mj_293_74).trans (z_iload_n rfl)
theorem mj_293_75 : mc_P 293 75 = some (.iadd, 1, 0, 0, 0) := by decide +kernel
theorem s_293_75 {x0 x1 x2 x3 : Option Value} {x w : Int32} : mw d 293 Q 75 [x0, x1, x2, x3] (.int w :: .int x :: st) h = mw d 293 Q 76 [x0, x1, x2, x3] (.int (x + w) :: st) h := (mw_at mj_293_75).trans (z_iadd)
theorem mj_293_76 : mc_P 293 76 = some (.laload, 1, 0, 0, 0) := by decide +kernel
theorem s_293_76 {x0 x1 x2 x3 : Option Value} {o : Nat} {i : Int32} : mw d 293 Q 76 [x0, x1, x2, x3] (.int i :: .ref o :: st) h = (mg h o 101 ∧ mx i (mh_l h o) ∧ mw d 293 Q 77 [x0, x1, x2, x3] (.long (mh_j h o i.toNatClampNeg) :: st) h) := (mw_at mj_293_76).trans (z_lald)
theorem mj_293_77 : mc_P 293 77 = some (.invokestatic 82, 3, 0, 23, 0) := by decide +kernel
theorem s_293_77 {x0 x1 x2 x3 : Option Value} {x w : Int64} : mw d 293 Q 77 [x0, x1, x2, x3] (.long w :: .long x :: st) h = (mca st 8 ∧ mw d 293 Q 80 [x0, x1, x2, x3] (.long (if w < x then x else w) :: st) h) := (mw_at mj_293_77).trans (z_lmax)
theorem mj_293_80 : mc_P 293 80 = some (.lastore, 1, 0, 0, 0) := by decide +kernel
theorem s_293_80 {x0 x1 x2 x3 : Option Value} {o : Nat} {i : Int32} {w : Int64} : mw d 293 Q 80 [x0, x1, x2, x3] (.long w :: .int i :: .ref o :: st) h = (mg h o 101 ∧ mx i (mh_l h o) ∧ mw d 293 Q 81 [x0, x1, x2, x3] (st) (mh_sj h o i.toNatClampNeg w)) := (mw_at mj_293_80).trans (z_last)
theorem mj_293_81 : mc_P 293 81 = some (.iinc 3 1, 3, 0, 0, 0) := by decide +kernel
theorem s_293_81 {x0 x1 x2 : Option Value} {w : Int32} : mw d 293 Q 81 [x0, x1, x2, some (.int w)] (st) h = mw d 293 Q 84 [x0, x1, mk2 x2, some (.int (w + 1))] (st) h := (mw_at mj_293_81).trans (z_iinc rfl (Nat.le_of_ble_eq_true rfl) (by decide) (me_s1_mk (j := 2) (w := x2) rfl))
theorem mj_293_84 : mc_P 293 84 = some (.goto (-49), 3, 0, 0, 0) := by decide +kernel
theorem s_293_84 {x0 x1 x2 x3 : Option Value} : mw d 293 Q 84 [x0, x1, x2, x3] (st) h = mw d 293 Q 35 [x0, x1, x2, x3] (st) h := (mw_at mj_293_84).trans (z_goto (by decide))
theorem mj_293_87 : mc_P 293 87 = some (.iinc 2 1, 3, 0, 0, 0) := by decide +kernel
theorem s_293_87 {x0 x1 x3 : Option Value} {w : Int32} : mw d 293 Q 87 [x0, x1, some (.int w), x3] (st) h = mw d 293 Q 90 [x0, mk2 x1, some (.int (w + 1)), x3] (st) h := (mw_at mj_293_87).trans (z_iinc rfl (Nat.le_of_ble_eq_true rfl) (by decide) (me_s1_mk (j := 1) (w := x1) rfl))
theorem mj_293_90 : mc_P 293 90 = some (.goto (-67), 3, 0, 0, 0) := by decide +kernel
theorem s_293_90 {x0 x1 x2 x3 : Option Value} : mw d 293 Q 90 [x0, x1, x2, x3] (st) h = mw d 293 Q 23 [x0, x1, x2, x3] (st) h := (mw_at mj_293_90).trans (z_goto (by decide))
theorem mj_293_93 : mc_P 293 93 = some (.iconst 0, 1, 0, 0, 0) := by decide +kernel
theorem s_293_93 {x0 x1 x2 x3 : Option Value} : mw d 293 Q 93 [x0, x1, x2, x3] (st) h = mw d 293 Q 94 [x0, x1, x2, x3] (.int 0 :: st) h := (mw_at mj_293_93).trans (z_iconst (by decide))
theorem mj_293_94 : mc_P 293 94 = some (.istore_n 2, 1, 0, 0, 0) := by decide +kernel
theorem s_293_94 {x0 x1 x2 x3 : Option Value} {w : Int32} : mw d 293 Q 94 [x0, x1, x2, x3] (.int w :: st) h = mw d 293 Q 95 [x0, mk2 x1, some (.int w), x3] (st) h := (mw_at mj_293_94).trans (z_istore_n (Nat.le_of_ble_eq_true rfl) (me_s1_mk (j := 1) (w := x1) rfl))
theorem mj_293_95 : mc_P 293 95 = some (.iload_n 2, 1, 0, 0, 0) := by decide +kernel
theorem s_293_95 {x0 x1 x3 : Option Value} {w : Value} : mw d 293 Q 95 [x0, x1, some w, x3] (st) h = mv_i w (mw d 293 Q 96 [x0, x1, some w, x3] (w :: st) h) := (mw_at mj_293_95).trans (z_iload_n rfl)
theorem mj_293_96 : mc_P 293 96 = some (.aload_n 0, 1, 0, 0, 0) := by decide +kernel
theorem s_293_96 {x1 x2 x3 : Option Value} {w : Value} : mw d 293 Q 96 [some w, x1, x2, x3] (st) h = mv_a w (mw d 293 Q 97 [some w, x1, x2, x3] (w :: st) h) := (mw_at mj_293_96).trans (z_aload_n rfl)
theorem mj_293_97 : mc_P 293 97 = some (.getfield 43, 3, 13, 2, 0) := by decide +kernel
theorem s_293_97 {x0 x1 x2 x3 : Option Value} {o : Nat} : mw d 293 Q 97 [x0, x1, x2, x3] (.ref o :: st) h = (mg h o 13 ∧ mw d 293 Q 100 [x0, x1, x2, x3] (.int (mh_i h o 2) :: st) h) := (mw_at mj_293_97).trans (z_geti (by decide) (by decide) (Or.inl rfl))
theorem mj_293_100 : mc_P 293 100 = some (.if_icmp .ge 51, 3, 0, 0, 0) := by decide +kernel
theorem s_293_100 {x0 x1 x2 x3 : Option Value} {x w : Int32} : mw d 293 Q 100 [x0, x1, x2, x3] (.int w :: .int x :: st) h = mB (w ≤ x) (mw d 293 Q) 151 103 [x0, x1, x2, x3] st h := (mw_at mj_293_100).trans (z_icmp_ge (by decide) rfl)
theorem mj_293_103 : mc_P 293 103 = some (.aload_n 0, 1, 0, 0, 0) := by decide +kernel
theorem s_293_103 {x1 x2 x3 : Option Value} {w : Value} : mw d 293 Q 103 [some w, x1, x2, x3] (st) h = mv_a w (mw d 293 Q 104 [some w, x1, x2, x3] (w :: st) h) := (mw_at mj_293_103).trans (z_aload_n rfl)
theorem mj_293_104 : mc_P 293 104 = some (.getfield 13, 3, 13, 4, 0) := by decide +kernel
theorem s_293_104 {x0 x1 x2 x3 : Option Value} {o : Nat} : mw d 293 Q 104 [x0, x1, x2, x3] (.ref o :: st) h = (mg h o 13 ∧ mw d 293 Q 107 [x0, x1, x2, x3] (va_rf (mh_r h o 4) :: st) h) := (mw_at mj_293_104).trans (z_getr (by decide) (by decide) rfl)
theorem mj_293_107 : mc_P 293 107 = some (.iload_n 2, 1, 0, 0, 0) := by decide +kernel
theorem s_293_107 {x0 x1 x3 : Option Value} {w : Value} : mw d 293 Q 107 [x0, x1, some w, x3] (st) h = mv_i w (mw d 293 Q 108 [x0, x1, some w, x3] (w :: st) h) := (mw_at mj_293_107).trans (z_iload_n rfl)
theorem mj_293_108 : mc_P 293 108 = some (.aload_n 0, 1, 0, 0, 0) := by decide +kernel
theorem s_293_108 {x1 x2 x3 : Option Value} {w : Value} : mw d 293 Q 108 [some w, x1, x2, x3] (st) h = mv_a w (mw d 293 Q 109 [some w, x1, x2, x3] (w :: st) h) := (mw_at mj_293_108).trans (z_aload_n rfl)
theorem mj_293_109 : mc_P 293 109 = some (.getfield 13, 3, 13, 4, 0) := by decide +kernel
theorem s_293_109 {x0 x1 x2 x3 : Option Value} {o : Nat} : mw d 293 Q 109 [x0, x1, x2, x3] (.ref o :: st) h = (mg h o 13 ∧ mw d 293 Q 112 [x0, x1, x2, x3] (va_rf (mh_r h o 4) :: st) h) := (mw_at mj_293_109).trans (z_getr (by decide) (by decide) rfl)
theorem mj_293_112 : mc_P 293 112 = some (.iload_n 2, 1, 0, 0, 0) := by decide +kernel
theorem s_293_112 {x0 x1 x3 : Option Value} {w : Value} : mw d 293 Q 112 [x0, x1, some w, x3] (st) h = mv_i w (mw d 293 Q 113 [x0, x1, some w, x3] (w :: st) h) := (mw_at mj_293_112).trans (z_iload_n rfl)
theorem mj_293_113 : mc_P 293 113 = some (.laload, 1, 0, 0, 0) := by decide +kernel
theorem s_293_113 {x0 x1 x2 x3 : Option Value} {o : Nat} {i : Int32} : mw d 293 Q 113 [x0, x1, x2, x3] (.int i :: .ref o :: st) h = (mg h o 101 ∧ mx i (mh_l h o) ∧ mw d 293 Q 114 [x0, x1, x2, x3] (.long (mh_j h o i.toNatClampNeg) :: st) h) := (mw_at mj_293_113).trans (z_lald)
theorem mj_293_114 : mc_P 293 114 = some (.aload_n 1, 1, 0, 0, 0) := by decide +kernel
theorem s_293_114 {x0 x2 x3 : Option Value} {w : Value} : mw d 293 Q 114 [x0, some w, x2, x3] (st) h = mv_a w (mw d 293 Q 115 [x0, some w, x2, x3] (w :: st) h) := (mw_at mj_293_114).trans (z_aload_n rfl)
theorem mj_293_115 : mc_P 293 115 = some (.getfield 13, 3, 13, 4, 0) := by decide +kernel
theorem s_293_115 {x0 x1 x2 x3 : Option Value} {o : Nat} : mw d 293 Q 115 [x0, x1, x2, x3] (.ref o :: st) h = (mg h o 13 ∧ mw d 293 Q 118 [x0, x1, x2, x3] (va_rf (mh_r h o 4) :: st) h) := (mw_at mj_293_115).trans (z_getr (by decide) (by decide) rfl)
theorem mj_293_118 : mc_P 293 118 = some (.iload_n 2, 1, 0, 0, 0) := by decide +kernel
theorem s_293_118 {x0 x1 x3 : Option Value} {w : Value} : mw d 293 Q 118 [x0, x1, some w, x3] (st) h = mv_i w (mw d 293 Q 119 [x0, x1, some w, x3] (w :: st) h) := (mw_at mj_293_118).trans (z_iload_n rfl)
theorem mj_293_119 : mc_P 293 119 = some (.laload, 1, 0, 0, 0) := by decide +kernel
theorem s_293_119 {x0 x1 x2 x3 : Option Value} {o : Nat} {i : Int32} : mw d 293 Q 119 [x0, x1, x2, x3] (.int i :: .ref o :: st) h = (mg h o 101 ∧ mx i (mh_l h o) ∧ mw d 293 Q 120 [x0, x1, x2, x3] (.long (mh_j h o i.toNatClampNeg) :: st) h) := (mw_at mj_293_119).trans (z_lald)
theorem mj_293_120 : mc_P 293 120 = some (.invokestatic 58, 3, 0, 22, 0) := by decide +kernel
theorem s_293_120 {x0 x1 x2 x3 : Option Value} {x w : Int64} : mw d 293 Q 120 [x0, x1, x2, x3] (.long w :: .long x :: st) h = (mca st 8 ∧ mw d 293 Q 123 [x0, x1, x2, x3] (.long (if w < x then w else x) :: st) h) := (mw_at mj_293_120).trans (z_lmin)
theorem mj_293_123 : mc_P 293 123 = some (.lastore, 1, 0, 0, 0) := by decide +kernel
theorem s_293_123 {x0 x1 x2 x3 : Option Value} {o : Nat} {i : Int32} {w : Int64} : mw d 293 Q 123 [x0, x1, x2, x3] (.long w :: .int i :: .ref o :: st) h = (mg h o 101 ∧ mx i (mh_l h o) ∧ mw d 293 Q 124 [x0, x1, x2, x3] (st) (mh_sj h o i.toNatClampNeg w)) := (mw_at mj_293_123).trans (z_last)
theorem mj_293_124 : mc_P 293 124 = some (.aload_n 0, 1, 0, 0, 0) := by decide +kernel
theorem s_293_124 {x1 x2 x3 : Option Value} {w : Value} : mw d 293 Q 124 [some w, x1, x2, x3] (st) h = mv_a w (mw d 293 Q 125 [some w, x1, x2, x3] (w :: st) h) := (mw_at mj_293_124).trans (z_aload_n rfl)
theorem mj_293_125 : mc_P 293 125 = some (.getfield 16, 3, 13, 5, 0) := by decide +kernel
theorem s_293_125 {x0 x1 x2 x3 : Option Value} {o : Nat} : mw d 293 Q 125 [x0, x1, x2, x3] (.ref o :: st) h = (mg h o 13 ∧ mw d 293 Q 128 [x0, x1, x2, x3] (va_rf (mh_r h o 5) :: st) h) := (mw_at mj_293_125).trans (z_getr (by decide) (by decide) rfl)
theorem mj_293_128 : mc_P 293 128 = some (.iload_n 2, 1, 0, 0, 0) := by decide +kernel
theorem s_293_128 {x0 x1 x3 : Option Value} {w : Value} : mw d 293 Q 128 [x0, x1, some w, x3] (st) h = mv_i w (mw d 293 Q 129 [x0, x1, some w, x3] (w :: st) h) := (mw_at mj_293_128).trans (z_iload_n rfl)
theorem mj_293_129 : mc_P 293 129 = some (.aload_n 0, 1, 0, 0, 0) := by decide +kernel
theorem s_293_129 {x1 x2 x3 : Option Value} {w : Value} : mw d 293 Q 129 [some w, x1, x2, x3] (st) h = mv_a w (mw d 293 Q 130 [some w, x1, x2, x3] (w :: st) h) := (mw_at mj_293_129).trans (z_aload_n rfl)
theorem mj_293_130 : mc_P 293 130 = some (.getfield 16, 3, 13, 5, 0) := by decide +kernel
theorem s_293_130 {x0 x1 x2 x3 : Option Value} {o : Nat} : mw d 293 Q 130 [x0, x1, x2, x3] (.ref o :: st) h = (mg h o 13 ∧ mw d 293 Q 133 [x0, x1, x2, x3] (va_rf (mh_r h o 5) :: st) h) := (mw_at mj_293_130).trans (z_getr (by decide) (by decide) rfl)
theorem mj_293_133 : mc_P 293 133 = some (.iload_n 2, 1, 0, 0, 0) := by decide +kernel
theorem s_293_133 {x0 x1 x3 : Option Value} {w : Value} : mw d 293 Q 133 [x0, x1, some w, x3] (st) h = mv_i w (mw d 293 Q 134 [x0, x1, some w, x3] (w :: st) h) := (mw_at mj_293_133).trans (z_iload_n rfl)
theorem mj_293_134 : mc_P 293 134 = some (.laload, 1, 0, 0, 0) := by decide +kernel
theorem s_293_134 {x0 x1 x2 x3 : Option Value} {o : Nat} {i : Int32} : mw d 293 Q 134 [x0, x1, x2, x3] (.int i :: .ref o :: st) h = (mg h o 101 ∧ mx i (mh_l h o) ∧ mw d 293 Q 135 [x0, x1, x2, x3] (.long (mh_j h o i.toNatClampNeg) :: st) h) := (mw_at mj_293_134).trans (z_lald)
theorem mj_293_135 : mc_P 293 135 = some (.aload_n 1, 1, 0, 0, 0) := by decide +kernel
theorem s_293_135 {x0 x2 x3 : Option Value} {w : Value} : mw d 293 Q 135 [x0, some w, x2, x3] (st) h = mv_a w (mw d 293 Q 136 [x0, some w, x2, x3] (w :: st) h) := (mw_at mj_293_135).trans (z_aload_n rfl)
theorem mj_293_136 : mc_P 293 136 = some (.getfield 16, 3, 13, 5, 0) := by decide +kernel
theorem s_293_136 {x0 x1 x2 x3 : Option Value} {o : Nat} : mw d 293 Q 136 [x0, x1, x2, x3] (.ref o :: st) h = (mg h o 13 ∧ mw d 293 Q 139 [x0, x1, x2, x3] (va_rf (mh_r h o 5) :: st) h) := (mw_at mj_293_136).trans (z_getr (by decide) (by decide) rfl)
theorem mj_293_139 : mc_P 293 139 = some (.iload_n 2, 1, 0, 0, 0) := by decide +kernel
theorem s_293_139 {x0 x1 x3 : Option Value} {w : Value} : mw d 293 Q 139 [x0, x1, some w, x3] (st) h = mv_i w (mw d 293 Q 140 [x0, x1, some w, x3] (w :: st) h) := (mw_at mj_293_139).trans (z_iload_n rfl)
theorem mj_293_140 : mc_P 293 140 = some (.laload, 1, 0, 0, 0) := by decide +kernel
theorem s_293_140 {x0 x1 x2 x3 : Option Value} {o : Nat} {i : Int32} : mw d 293 Q 140 [x0, x1, x2, x3] (.int i :: .ref o :: st) h = (mg h o 101 ∧ mx i (mh_l h o) ∧ mw d 293 Q 141 [x0, x1, x2, x3] (.long (mh_j h o i.toNatClampNeg) :: st) h) := (mw_at mj_293_140).trans (z_lald)
theorem mj_293_141 : mc_P 293 141 = some (.invokestatic 82, 3, 0, 23, 0) := by decide +kernel
theorem s_293_141 {x0 x1 x2 x3 : Option Value} {x w : Int64} : mw d 293 Q 141 [x0, x1, x2, x3] (.long w :: .long x :: st) h = (mca st 8 ∧ mw d 293 Q 144 [x0, x1, x2, x3] (.long (if w < x then x else w) :: st) h) := (mw_at mj_293_141).trans (z_lmax)
theorem mj_293_144 : mc_P 293 144 = some (.lastore, 1, 0, 0, 0) := by decide +kernel
theorem s_293_144 {x0 x1 x2 x3 : Option Value} {o : Nat} {i : Int32} {w : Int64} : mw d 293 Q 144 [x0, x1, x2, x3] (.long w :: .int i :: .ref o :: st) h = (mg h o 101 ∧ mx i (mh_l h o) ∧ mw d 293 Q 145 [x0, x1, x2, x3] (st) (mh_sj h o i.toNatClampNeg w)) := (mw_at mj_293_144).trans (z_last)
theorem mj_293_145 : mc_P 293 145 = some (.iinc 2 1, 3, 0, 0, 0) := by decide +kernel
theorem s_293_145 {x0 x1 x3 : Option Value} {w : Int32} : mw d 293 Q 145 [x0, x1, some (.int w), x3] (st) h = mw d 293 Q 148 [x0, mk2 x1, some (.int (w + 1)), x3] (st) h := (mw_at mj_293_145).trans (z_iinc rfl (Nat.le_of_ble_eq_true rfl) (by decide) (me_s1_mk (j := 1) (w := x1) rfl))
theorem mj_293_148 : mc_P 293 148 = some (.goto (-53), 3, 0, 0, 0) := by decide +kernel
theorem s_293_148 {x0 x1 x2 x3 : Option Value} : mw d 293 Q 148 [x0, x1, x2, x3] (st) h = mw d 293 Q 95 [x0, x1, x2, x3] (st) h := (mw_at mj_293_148).trans (z_goto (by decide))
theorem mj_293_151 : mc_P 293 151 = some (.return_, 1, 0, 0, 0) := by decide +kernel
theorem s_293_151 {x0 x1 x2 x3 : Option Value} : mw d 293 Q 151 [x0, x1, x2, x3] ([]) h = Q none h := (mw_at mj_293_151).trans (z_vret)
theorem e_293 {a0 : Nat} {a1 : Nat} : mcall d 293 [.ref a0, .ref a1] h Q = mw d 293 Q 0 [some (.ref a0), some (.ref a1), none, none] [] h := by
  show mw d 293 Q 0 (me_en (mc_nl 293) _) [] h = _
  rw [nl_293]; rfl

/-! InvariantDeskModel$Known.widen(LInvariantDeskModel$Known;)V -/
theorem mj_295_0 : mc_P 295 0 = some (.iconst 0, 1, 0, 0, 0) := by decide +kernel
theorem s_295_0 {x0 x1 x2 x3 : Option Value} : mw d 295 Q 0 [x0, x1, x2, x3] (st) h = mw d 295 Q 1 [x0, x1, x2, x3] (.int 0 :: st) h := (mw_at mj_295_0).trans (z_iconst (by decide))
theorem mj_295_1 : mc_P 295 1 = some (.istore_n 2, 1, 0, 0, 0) := by decide +kernel
theorem s_295_1 {x0 x1 x2 x3 : Option Value} {w : Int32} : mw d 295 Q 1 [x0, x1, x2, x3] (.int w :: st) h = mw d 295 Q 2 [x0, mk2 x1, some (.int w), x3] (st) h := (mw_at mj_295_1).trans (z_istore_n (Nat.le_of_ble_eq_true rfl) (me_s1_mk (j := 1) (w := x1) rfl))
theorem mj_295_2 : mc_P 295 2 = some (.iload_n 2, 1, 0, 0, 0) := by decide +kernel
theorem s_295_2 {x0 x1 x3 : Option Value} {w : Value} : mw d 295 Q 2 [x0, x1, some w, x3] (st) h = mv_i w (mw d 295 Q 3 [x0, x1, some w, x3] (w :: st) h) := (mw_at mj_295_2).trans (z_iload_n rfl)
theorem mj_295_3 : mc_P 295 3 = some (.iconst 2, 1, 0, 0, 0) := by decide +kernel
theorem s_295_3 {x0 x1 x2 x3 : Option Value} : mw d 295 Q 3 [x0, x1, x2, x3] (st) h = mw d 295 Q 4 [x0, x1, x2, x3] (.int 2 :: st) h := (mw_at mj_295_3).trans (z_iconst (by decide))
theorem mj_295_4 : mc_P 295 4 = some (.aload_n 0, 1, 0, 0, 0) := by decide +kernel
theorem s_295_4 {x1 x2 x3 : Option Value} {w : Value} : mw d 295 Q 4 [some w, x1, x2, x3] (st) h = mv_a w (mw d 295 Q 5 [some w, x1, x2, x3] (w :: st) h) := (mw_at mj_295_4).trans (z_aload_n rfl)
theorem mj_295_5 : mc_P 295 5 = some (.getfield 39, 3, 13, 1, 0) := by decide +kernel
theorem s_295_5 {x0 x1 x2 x3 : Option Value} {o : Nat} : mw d 295 Q 5 [x0, x1, x2, x3] (.ref o :: st) h = (mg h o 13 ∧ mw d 295 Q 8 [x0, x1, x2, x3] (.int (mh_i h o 1) :: st) h) := (mw_at mj_295_5).trans (z_geti (by decide) (by decide) (Or.inl rfl))
theorem mj_295_8 : mc_P 295 8 = some (.imul, 1, 0, 0, 0) := by decide +kernel
theorem s_295_8 {x0 x1 x2 x3 : Option Value} {x w : Int32} : mw d 295 Q 8 [x0, x1, x2, x3] (.int w :: .int x :: st) h = mw d 295 Q 9 [x0, x1, x2, x3] (.int (x * w) :: st) h := (mw_at mj_295_8).trans (z_imul)
theorem mj_295_9 : mc_P 295 9 = some (.if_icmp .ge 83, 3, 0, 0, 0) := by decide +kernel
theorem s_295_9 {x0 x1 x2 x3 : Option Value} {x w : Int32} : mw d 295 Q 9 [x0, x1, x2, x3] (.int w :: .int x :: st) h = mB (w ≤ x) (mw d 295 Q) 92 12 [x0, x1, x2, x3] st h := (mw_at mj_295_9).trans (z_icmp_ge (by decide) rfl)
theorem mj_295_12 : mc_P 295 12 = some (.iconst 0, 1, 0, 0, 0) := by decide +kernel
theorem s_295_12 {x0 x1 x2 x3 : Option Value} : mw d 295 Q 12 [x0, x1, x2, x3] (st) h = mw d 295 Q 13 [x0, x1, x2, x3] (.int 0 :: st) h := (mw_at mj_295_12).trans (z_iconst (by decide))
theorem mj_295_13 : mc_P 295 13 = some (.istore_n 3, 1, 0, 0, 0) := by decide +kernel
theorem s_295_13 {x0 x1 x2 x3 : Option Value} {w : Int32} : mw d 295 Q 13 [x0, x1, x2, x3] (.int w :: st) h = mw d 295 Q 14 [x0, x1, mk2 x2, some (.int w)] (st) h := (mw_at mj_295_13).trans (z_istore_n (Nat.le_of_ble_eq_true rfl) (me_s1_mk (j := 2) (w := x2) rfl))
theorem mj_295_14 : mc_P 295 14 = some (.iload_n 3, 1, 0, 0, 0) := by decide +kernel
theorem s_295_14 {x0 x1 x2 : Option Value} {w : Value} : mw d 295 Q 14 [x0, x1, x2, some w] (st) h = mv_i w (mw d 295 Q 15 [x0, x1, x2, some w] (w :: st) h) := (mw_at mj_295_14).trans (z_iload_n rfl)
theorem mj_295_15 : mc_P 295 15 = some (.iconst 2, 1, 0, 0, 0) := by decide +kernel
theorem s_295_15 {x0 x1 x2 x3 : Option Value} : mw d 295 Q 15 [x0, x1, x2, x3] (st) h = mw d 295 Q 16 [x0, x1, x2, x3] (.int 2 :: st) h := (mw_at mj_295_15).trans (z_iconst (by decide))
theorem mj_295_16 : mc_P 295 16 = some (.aload_n 0, 1, 0, 0, 0) := by decide +kernel
theorem s_295_16 {x1 x2 x3 : Option Value} {w : Value} : mw d 295 Q 16 [some w, x1, x2, x3] (st) h = mv_a w (mw d 295 Q 17 [some w, x1, x2, x3] (w :: st) h) := (mw_at mj_295_16).trans (z_aload_n rfl)
theorem mj_295_17 : mc_P 295 17 = some (.getfield 39, 3, 13, 1, 0) := by decide +kernel
theorem s_295_17 {x0 x1 x2 x3 : Option Value} {o : Nat} : mw d 295 Q 17 [x0, x1, x2, x3] (.ref o :: st) h = (mg h o 13 ∧ mw d 295 Q 20 [x0, x1, x2, x3] (.int (mh_i h o 1) :: st) h) := (mw_at mj_295_17).trans (z_geti (by decide) (by decide) (Or.inl rfl))
theorem mj_295_20 : mc_P 295 20 = some (.imul, 1, 0, 0, 0) := by decide +kernel
theorem s_295_20 {x0 x1 x2 x3 : Option Value} {x w : Int32} : mw d 295 Q 20 [x0, x1, x2, x3] (.int w :: .int x :: st) h = mw d 295 Q 21 [x0, x1, x2, x3] (.int (x * w) :: st) h := (mw_at mj_295_20).trans (z_imul)
theorem mj_295_21 : mc_P 295 21 = some (.if_icmp .ge 65, 3, 0, 0, 0) := by decide +kernel
theorem s_295_21 {x0 x1 x2 x3 : Option Value} {x w : Int32} : mw d 295 Q 21 [x0, x1, x2, x3] (.int w :: .int x :: st) h = mB (w ≤ x) (mw d 295 Q) 86 24 [x0, x1, x2, x3] st h := (mw_at mj_295_21).trans (z_icmp_ge (by decide) rfl)
theorem mj_295_24 : mc_P 295 24 = some (.aload_n 0, 1, 0, 0, 0) := by decide +kernel
theorem s_295_24 {x1 x2 x3 : Option Value} {w : Value} : mw d 295 Q 24 [some w, x1, x2, x3] (st) h = mv_a w (mw d 295 Q 25 [some w, x1, x2, x3] (w :: st) h) := (mw_at mj_295_24).trans (z_aload_n rfl)
theorem mj_295_25 : mc_P 295 25 = some (.getfield 9, 3, 13, 3, 0) := by decide +kernel
theorem s_295_25 {x0 x1 x2 x3 : Option Value} {o : Nat} : mw d 295 Q 25 [x0, x1, x2, x3] (.ref o :: st) h = (mg h o 13 ∧ mw d 295 Q 28 [x0, x1, x2, x3] (va_rf (mh_r h o 3) :: st) h) := (mw_at mj_295_25).trans (z_getr (by decide) (by decide) rfl)
theorem mj_295_28 : mc_P 295 28 = some (.bipush 24, 2, 0, 0, 0) := by decide +kernel
theorem s_295_28 {x0 x1 x2 x3 : Option Value} : mw d 295 Q 28 [x0, x1, x2, x3] (st) h = mw d 295 Q 30 [x0, x1, x2, x3] (.int 24 :: st) h := (mw_at mj_295_28).trans (z_bipush (by decide))
theorem mj_295_30 : mc_P 295 30 = some (.iload_n 2, 1, 0, 0, 0) := by decide +kernel
theorem s_295_30 {x0 x1 x3 : Option Value} {w : Value} : mw d 295 Q 30 [x0, x1, some w, x3] (st) h = mv_i w (mw d 295 Q 31 [x0, x1, some w, x3] (w :: st) h) := (mw_at mj_295_30).trans (z_iload_n rfl)
theorem mj_295_31 : mc_P 295 31 = some (.imul, 1, 0, 0, 0) := by decide +kernel
theorem s_295_31 {x0 x1 x2 x3 : Option Value} {x w : Int32} : mw d 295 Q 31 [x0, x1, x2, x3] (.int w :: .int x :: st) h = mw d 295 Q 32 [x0, x1, x2, x3] (.int (x * w) :: st) h := (mw_at mj_295_31).trans (z_imul)
theorem mj_295_32 : mc_P 295 32 = some (.iload_n 3, 1, 0, 0, 0) := by decide +kernel
theorem s_295_32 {x0 x1 x2 : Option Value} {w : Value} : mw d 295 Q 32 [x0, x1, x2, some w] (st) h = mv_i w (mw d 295 Q 33 [x0, x1, x2, some w] (w :: st) h) := (mw_at mj_295_32).trans (z_iload_n rfl)
theorem mj_295_33 : mc_P 295 33 = some (.iadd, 1, 0, 0, 0) := by decide +kernel
theorem s_295_33 {x0 x1 x2 x3 : Option Value} {x w : Int32} : mw d 295 Q 33 [x0, x1, x2, x3] (.int w :: .int x :: st) h = mw d 295 Q 34 [x0, x1, x2, x3] (.int (x + w) :: st) h := (mw_at mj_295_33).trans (z_iadd)
theorem mj_295_34 : mc_P 295 34 = some (.aload_n 0, 1, 0, 0, 0) := by decide +kernel
theorem s_295_34 {x1 x2 x3 : Option Value} {w : Value} : mw d 295 Q 34 [some w, x1, x2, x3] (st) h = mv_a w (mw d 295 Q 35 [some w, x1, x2, x3] (w :: st) h) := (mw_at mj_295_34).trans (z_aload_n rfl)
theorem mj_295_35 : mc_P 295 35 = some (.getfield 9, 3, 13, 3, 0) := by decide +kernel
theorem s_295_35 {x0 x1 x2 x3 : Option Value} {o : Nat} : mw d 295 Q 35 [x0, x1, x2, x3] (.ref o :: st) h = (mg h o 13 ∧ mw d 295 Q 38 [x0, x1, x2, x3] (va_rf (mh_r h o 3) :: st) h) := (mw_at mj_295_35).trans (z_getr (by decide) (by decide) rfl)
theorem mj_295_38 : mc_P 295 38 = some (.bipush 24, 2, 0, 0, 0) := by decide +kernel
theorem s_295_38 {x0 x1 x2 x3 : Option Value} : mw d 295 Q 38 [x0, x1, x2, x3] (st) h = mw d 295 Q 40 [x0, x1, x2, x3] (.int 24 :: st) h := (mw_at mj_295_38).trans (z_bipush (by decide))
theorem mj_295_40 : mc_P 295 40 = some (.iload_n 2, 1, 0, 0, 0) := by decide +kernel
theorem s_295_40 {x0 x1 x3 : Option Value} {w : Value} : mw d 295 Q 40 [x0, x1, some w, x3] (st) h = mv_i w (mw d 295 Q 41 [x0, x1, some w, x3] (w :: st) h) := (mw_at mj_295_40).trans (z_iload_n rfl)
theorem mj_295_41 : mc_P 295 41 = some (.imul, 1, 0, 0, 0) := by decide +kernel
theorem s_295_41 {x0 x1 x2 x3 : Option Value} {x w : Int32} : mw d 295 Q 41 [x0, x1, x2, x3] (.int w :: .int x :: st) h = mw d 295 Q 42 [x0, x1, x2, x3] (.int (x * w) :: st) h := (mw_at mj_295_41).trans (z_imul)
theorem mj_295_42 : mc_P 295 42 = some (.iload_n 3, 1, 0, 0, 0) := by decide +kernel
theorem s_295_42 {x0 x1 x2 : Option Value} {w : Value} : mw d 295 Q 42 [x0, x1, x2, some w] (st) h = mv_i w (mw d 295 Q 43 [x0, x1, x2, some w] (w :: st) h) := (mw_at mj_295_42).trans (z_iload_n rfl)
theorem mj_295_43 : mc_P 295 43 = some (.iadd, 1, 0, 0, 0) := by decide +kernel
theorem s_295_43 {x0 x1 x2 x3 : Option Value} {x w : Int32} : mw d 295 Q 43 [x0, x1, x2, x3] (.int w :: .int x :: st) h = mw d 295 Q 44 [x0, x1, x2, x3] (.int (x + w) :: st) h := (mw_at mj_295_43).trans (z_iadd)
theorem mj_295_44 : mc_P 295 44 = some (.laload, 1, 0, 0, 0) := by decide +kernel
theorem s_295_44 {x0 x1 x2 x3 : Option Value} {o : Nat} {i : Int32} : mw d 295 Q 44 [x0, x1, x2, x3] (.int i :: .ref o :: st) h = (mg h o 101 ∧ mx i (mh_l h o) ∧ mw d 295 Q 45 [x0, x1, x2, x3] (.long (mh_j h o i.toNatClampNeg) :: st) h) := (mw_at mj_295_44).trans (z_lald)
theorem mj_295_45 : mc_P 295 45 = some (.aload_n 1, 1, 0, 0, 0) := by decide +kernel
theorem s_295_45 {x0 x2 x3 : Option Value} {w : Value} : mw d 295 Q 45 [x0, some w, x2, x3] (st) h = mv_a w (mw d 295 Q 46 [x0, some w, x2, x3] (w :: st) h) := (mw_at mj_295_45).trans (z_aload_n rfl)
theorem mj_295_46 : mc_P 295 46 = some (.getfield 9, 3, 13, 3, 0) := by decide +kernel
theorem s_295_46 {x0 x1 x2 x3 : Option Value} {o : Nat} : mw d 295 Q 46 [x0, x1, x2, x3] (.ref o :: st) h = (mg h o 13 ∧ mw d 295 Q 49 [x0, x1, x2, x3] (va_rf (mh_r h o 3) :: st) h) := (mw_at mj_295_46).trans (z_getr (by decide) (by decide) rfl)
theorem mj_295_49 : mc_P 295 49 = some (.bipush 24, 2, 0, 0, 0) := by decide +kernel
theorem s_295_49 {x0 x1 x2 x3 : Option Value} : mw d 295 Q 49 [x0, x1, x2, x3] (st) h = mw d 295 Q 51 [x0, x1, x2, x3] (.int 24 :: st) h := (mw_at mj_295_49).trans (z_bipush (by decide))
theorem mj_295_51 : mc_P 295 51 = some (.iload_n 2, 1, 0, 0, 0) := by decide +kernel
theorem s_295_51 {x0 x1 x3 : Option Value} {w : Value} : mw d 295 Q 51 [x0, x1, some w, x3] (st) h = mv_i w (mw d 295 Q 52 [x0, x1, some w, x3] (w :: st) h) := (mw_at mj_295_51).trans (z_iload_n rfl)
theorem mj_295_52 : mc_P 295 52 = some (.imul, 1, 0, 0, 0) := by decide +kernel
theorem s_295_52 {x0 x1 x2 x3 : Option Value} {x w : Int32} : mw d 295 Q 52 [x0, x1, x2, x3] (.int w :: .int x :: st) h = mw d 295 Q 53 [x0, x1, x2, x3] (.int (x * w) :: st) h := (mw_at mj_295_52).trans (z_imul)
theorem mj_295_53 : mc_P 295 53 = some (.iload_n 3, 1, 0, 0, 0) := by decide +kernel
theorem s_295_53 {x0 x1 x2 : Option Value} {w : Value} : mw d 295 Q 53 [x0, x1, x2, some w] (st) h = mv_i w (mw d 295 Q 54 [x0, x1, x2, some w] (w :: st) h) := (mw_at mj_295_53).trans (z_iload_n rfl)
theorem mj_295_54 : mc_P 295 54 = some (.iadd, 1, 0, 0, 0) := by decide +kernel
theorem s_295_54 {x0 x1 x2 x3 : Option Value} {x w : Int32} : mw d 295 Q 54 [x0, x1, x2, x3] (.int w :: .int x :: st) h = mw d 295 Q 55 [x0, x1, x2, x3] (.int (x + w) :: st) h := (mw_at mj_295_54).trans (z_iadd)
theorem mj_295_55 : mc_P 295 55 = some (.laload, 1, 0, 0, 0) := by decide +kernel
theorem s_295_55 {x0 x1 x2 x3 : Option Value} {o : Nat} {i : Int32} : mw d 295 Q 55 [x0, x1, x2, x3] (.int i :: .ref o :: st) h = (mg h o 101 ∧ mx i (mh_l h o) ∧ mw d 295 Q 56 [x0, x1, x2, x3] (.long (mh_j h o i.toNatClampNeg) :: st) h) := (mw_at mj_295_55).trans (z_lald)
theorem mj_295_56 : mc_P 295 56 = some (.lcmp, 1, 0, 0, 0) := by decide +kernel
theorem s_295_56 {x0 x1 x2 x3 : Option Value} {x w : Int64} : mw d 295 Q 56 [x0, x1, x2, x3] (.long w :: .long x :: st) h = mw d 295 Q 57 [x0, x1, x2, x3] (.int (lg_cmp x w) :: st) h := (mw_at mj_295_56).trans (z_lcmp)
theorem mj_295_57 : mc_P 295 57 = some (.ifCond .ge 11, 3, 0, 0, 0) := by decide +kernel
theorem s_295_57 {x0 x1 x2 x3 : Option Value} {x : Int32} : mw d 295 Q 57 [x0, x1, x2, x3] (.int x :: st) h = mB (0 ≤ x) (mw d 295 Q) 68 60 [x0, x1, x2, x3] st h := (mw_at mj_295_57).trans (z_if_ge (by decide) rfl)
theorem mj_295_60 : mc_P 295 60 = some (.iload_n 2, 1, 0, 0, 0) := by decide +kernel
theorem s_295_60 {x0 x1 x3 : Option Value} {w : Value} : mw d 295 Q 60 [x0, x1, some w, x3] (st) h = mv_i w (mw d 295 Q 61 [x0, x1, some w, x3] (w :: st) h) := (mw_at mj_295_60).trans (z_iload_n rfl)
theorem mj_295_61 : mc_P 295 61 = some (.iload_n 3, 1, 0, 0, 0) := by decide +kernel
theorem s_295_61 {x0 x1 x2 : Option Value} {w : Value} : mw d 295 Q 61 [x0, x1, x2, some w] (st) h = mv_i w (mw d 295 Q 62 [x0, x1, x2, some w] (w :: st) h) := (mw_at mj_295_61).trans (z_iload_n rfl)
theorem mj_295_62 : mc_P 295 62 = some (.invokestatic 67, 3, 279, 0, 2) := by decide +kernel
theorem s_295_62 {x0 x1 x2 x3 : Option Value} {a0 a1 : Value} : mw (d + 1) 295 Q 62 [x0, x1, x2, x3] (a1 :: a0 :: st) h = (mca st 8 ∧ mca [a0, a1] 2 ∧ mcall d 279 [a0, a1] h (mK (d + 1) 295 Q 65 [x0, x1, x2, x3] st)) := (mw_at mj_295_62).trans ((z_invs (As := [a0, a1]) rfl rfl).trans (congrArg (And _) (mC_nl nl_279)))
theorem mj_295_65 : mc_P 295 65 = some (.goto 14, 3, 0, 0, 0) := by decide +kernel
theorem s_295_65 {x0 x1 x2 x3 : Option Value} : mw d 295 Q 65 [x0, x1, x2, x3] (st) h = mw d 295 Q 79 [x0, x1, x2, x3] (st) h := (mw_at mj_295_65).trans (z_goto (by decide))
theorem mj_295_68 : mc_P 295 68 = some (.aload_n 0, 1, 0, 0, 0) := by decide +kernel
theorem s_295_68 {x1 x2 x3 : Option Value} {w : Value} : mw d 295 Q 68 [some w, x1, x2, x3] (st) h = mv_a w (mw d 295 Q 69 [some w, x1, x2, x3] (w :: st) h) := (mw_at mj_295_68).trans (z_aload_n rfl)
theorem mj_295_69 : mc_P 295 69 = some (.getfield 9, 3, 13, 3, 0) := by decide +kernel
theorem s_295_69 {x0 x1 x2 x3 : Option Value} {o : Nat} : mw d 295 Q 69 [x0, x1, x2, x3] (.ref o :: st) h = (mg h o 13 ∧ mw d 295 Q 72 [x0, x1, x2, x3] (va_rf (mh_r h o 3) :: st) h) := (mw_at mj_295_69).trans (z_getr (by decide) (by decide) rfl)
theorem mj_295_72 : mc_P 295 72 = some (.bipush 24, 2, 0, 0, 0) := by decide +kernel
theorem s_295_72 {x0 x1 x2 x3 : Option Value} : mw d 295 Q 72 [x0, x1, x2, x3] (st) h = mw d 295 Q 74 [x0, x1, x2, x3] (.int 24 :: st) h := (mw_at mj_295_72).trans (z_bipush (by decide))
theorem mj_295_74 : mc_P 295 74 = some (.iload_n 2, 1, 0, 0, 0) := by decide +kernel
theorem s_295_74 {x0 x1 x3 : Option Value} {w : Value} : mw d 295 Q 74 [x0, x1, some w, x3] (st) h = mv_i w (mw d 295 Q 75 [x0, x1, some w, x3] (w :: st) h) := (mw_at mj_295_74).trans (z_iload_n rfl)
theorem mj_295_75 : mc_P 295 75 = some (.imul, 1, 0, 0, 0) := by decide +kernel
theorem s_295_75 {x0 x1 x2 x3 : Option Value} {x w : Int32} : mw d 295 Q 75 [x0, x1, x2, x3] (.int w :: .int x :: st) h = mw d 295 Q 76 [x0, x1, x2, x3] (.int (x * w) :: st) h := (mw_at mj_295_75).trans (z_imul)
theorem mj_295_76 : mc_P 295 76 = some (.iload_n 3, 1, 0, 0, 0) := by decide +kernel
theorem s_295_76 {x0 x1 x2 : Option Value} {w : Value} : mw d 295 Q 76 [x0, x1, x2, some w] (st) h = mv_i w (mw d 295 Q 77 [x0, x1, x2, some w] (w :: st) h) := (mw_at mj_295_76).trans (z_iload_n rfl)
theorem mj_295_77 : mc_P 295 77 = some (.iadd, 1, 0, 0, 0) := by decide +kernel
theorem s_295_77 {x0 x1 x2 x3 : Option Value} {x w : Int32} : mw d 295 Q 77 [x0, x1, x2, x3] (.int w :: .int x :: st) h = mw d 295 Q 78 [x0, x1, x2, x3] (.int (x + w) :: st) h := (mw_at mj_295_77).trans (z_iadd)
theorem mj_295_78 : mc_P 295 78 = some (.laload, 1, 0, 0, 0) := by decide +kernel
theorem s_295_78 {x0 x1 x2 x3 : Option Value} {o : Nat} {i : Int32} : mw d 295 Q 78 [x0, x1, x2, x3] (.int i :: .ref o :: st) h = (mg h o 101 ∧ mx i (mh_l h o) ∧ mw d 295 Q 79 [x0, x1, x2, x3] (.long (mh_j h o i.toNatClampNeg) :: st) h) := (mw_at mj_295_78).trans (z_lald)
theorem mj_295_79 : mc_P 295 79 = some (.lastore, 1, 0, 0, 0) := by decide +kernel
theorem s_295_79 {x0 x1 x2 x3 : Option Value} {o : Nat} {i : Int32} {w : Int64} : mw d 295 Q 79 [x0, x1, x2, x3] (.long w :: .int i :: .ref o :: st) h = (mg h o 101 ∧ mx i (mh_l h o) ∧ mw d 295 Q 80 [x0, x1, x2, x3] (st) (mh_sj h o i.toNatClampNeg w)) := (mw_at mj_295_79).trans (z_last)
theorem mj_295_80 : mc_P 295 80 = some (.iinc 3 1, 3, 0, 0, 0) := by decide +kernel
theorem s_295_80 {x0 x1 x2 : Option Value} {w : Int32} : mw d 295 Q 80 [x0, x1, x2, some (.int w)] (st) h = mw d 295 Q 83 [x0, x1, mk2 x2, some (.int (w + 1))] (st) h := (mw_at mj_295_80).trans (z_iinc rfl (Nat.le_of_ble_eq_true rfl) (by decide) (me_s1_mk (j := 2) (w := x2) rfl))
theorem mj_295_83 : mc_P 295 83 = some (.goto (-69), 3, 0, 0, 0) := by decide +kernel
theorem s_295_83 {x0 x1 x2 x3 : Option Value} : mw d 295 Q 83 [x0, x1, x2, x3] (st) h = mw d 295 Q 14 [x0, x1, x2, x3] (st) h := (mw_at mj_295_83).trans (z_goto (by decide))
theorem mj_295_86 : mc_P 295 86 = some (.iinc 2 1, 3, 0, 0, 0) := by decide +kernel
theorem s_295_86 {x0 x1 x3 : Option Value} {w : Int32} : mw d 295 Q 86 [x0, x1, some (.int w), x3] (st) h = mw d 295 Q 89 [x0, mk2 x1, some (.int (w + 1)), x3] (st) h := (mw_at mj_295_86).trans (z_iinc rfl (Nat.le_of_ble_eq_true rfl) (by decide) (me_s1_mk (j := 1) (w := x1) rfl))
theorem mj_295_89 : mc_P 295 89 = some (.goto (-87), 3, 0, 0, 0) := by decide +kernel
theorem s_295_89 {x0 x1 x2 x3 : Option Value} : mw d 295 Q 89 [x0, x1, x2, x3] (st) h = mw d 295 Q 2 [x0, x1, x2, x3] (st) h := (mw_at mj_295_89).trans (z_goto (by decide))
theorem mj_295_92 : mc_P 295 92 = some (.iconst 0, 1, 0, 0, 0) := by decide +kernel
theorem s_295_92 {x0 x1 x2 x3 : Option Value} : mw d 295 Q 92 [x0, x1, x2, x3] (st) h = mw d 295 Q 93 [x0, x1, x2, x3] (.int 0 :: st) h := (mw_at mj_295_92).trans (z_iconst (by decide))
theorem mj_295_93 : mc_P 295 93 = some (.istore_n 2, 1, 0, 0, 0) := by decide +kernel
theorem s_295_93 {x0 x1 x2 x3 : Option Value} {w : Int32} : mw d 295 Q 93 [x0, x1, x2, x3] (.int w :: st) h = mw d 295 Q 94 [x0, mk2 x1, some (.int w), x3] (st) h := (mw_at mj_295_93).trans (z_istore_n (Nat.le_of_ble_eq_true rfl) (me_s1_mk (j := 1) (w := x1) rfl))
theorem mj_295_94 : mc_P 295 94 = some (.iload_n 2, 1, 0, 0, 0) := by decide +kernel
theorem s_295_94 {x0 x1 x3 : Option Value} {w : Value} : mw d 295 Q 94 [x0, x1, some w, x3] (st) h = mv_i w (mw d 295 Q 95 [x0, x1, some w, x3] (w :: st) h) := (mw_at mj_295_94).trans (z_iload_n rfl)
theorem mj_295_95 : mc_P 295 95 = some (.aload_n 0, 1, 0, 0, 0) := by decide +kernel
theorem s_295_95 {x1 x2 x3 : Option Value} {w : Value} : mw d 295 Q 95 [some w, x1, x2, x3] (st) h = mv_a w (mw d 295 Q 96 [some w, x1, x2, x3] (w :: st) h) := (mw_at mj_295_95).trans (z_aload_n rfl)
theorem mj_295_96 : mc_P 295 96 = some (.getfield 43, 3, 13, 2, 0) := by decide +kernel
theorem s_295_96 {x0 x1 x2 x3 : Option Value} {o : Nat} : mw d 295 Q 96 [x0, x1, x2, x3] (.ref o :: st) h = (mg h o 13 ∧ mw d 295 Q 99 [x0, x1, x2, x3] (.int (mh_i h o 2) :: st) h) := (mw_at mj_295_96).trans (z_geti (by decide) (by decide) (Or.inl rfl))
theorem mj_295_99 : mc_P 295 99 = some (.if_icmp .ge 77, 3, 0, 0, 0) := by decide +kernel
theorem s_295_99 {x0 x1 x2 x3 : Option Value} {x w : Int32} : mw d 295 Q 99 [x0, x1, x2, x3] (.int w :: .int x :: st) h = mB (w ≤ x) (mw d 295 Q) 176 102 [x0, x1, x2, x3] st h := (mw_at mj_295_99).trans (z_icmp_ge (by decide) rfl)
theorem mj_295_102 : mc_P 295 102 = some (.aload_n 0, 1, 0, 0, 0) := by decide +kernel
theorem s_295_102 {x1 x2 x3 : Option Value} {w : Value} : mw d 295 Q 102 [some w, x1, x2, x3] (st) h = mv_a w (mw d 295 Q 103 [some w, x1, x2, x3] (w :: st) h) := (mw_at mj_295_102).trans (z_aload_n rfl)
theorem mj_295_103 : mc_P 295 103 = some (.getfield 13, 3, 13, 4, 0) := by decide +kernel
theorem s_295_103 {x0 x1 x2 x3 : Option Value} {o : Nat} : mw d 295 Q 103 [x0, x1, x2, x3] (.ref o :: st) h = (mg h o 13 ∧ mw d 295 Q 106 [x0, x1, x2, x3] (va_rf (mh_r h o 4) :: st) h) := (mw_at mj_295_103).trans (z_getr (by decide) (by decide) rfl)
theorem mj_295_106 : mc_P 295 106 = some (.iload_n 2, 1, 0, 0, 0) := by decide +kernel
theorem s_295_106 {x0 x1 x3 : Option Value} {w : Value} : mw d 295 Q 106 [x0, x1, some w, x3] (st) h = mv_i w (mw d 295 Q 107 [x0, x1, some w, x3] (w :: st) h) := (mw_at mj_295_106).trans (z_iload_n rfl)
theorem mj_295_107 : mc_P 295 107 = some (.aload_n 1, 1, 0, 0, 0) := by decide +kernel
theorem s_295_107 {x0 x2 x3 : Option Value} {w : Value} : mw d 295 Q 107 [x0, some w, x2, x3] (st) h = mv_a w (mw d 295 Q 108 [x0, some w, x2, x3] (w :: st) h) := (mw_at mj_295_107).trans (z_aload_n rfl)
theorem mj_295_108 : mc_P 295 108 = some (.getfield 13, 3, 13, 4, 0) := by decide +kernel
theorem s_295_108 {x0 x1 x2 x3 : Option Value} {o : Nat} : mw d 295 Q 108 [x0, x1, x2, x3] (.ref o :: st) h = (mg h o 13 ∧ mw d 295 Q 111 [x0, x1, x2, x3] (va_rf (mh_r h o 4) :: st) h) := (mw_at mj_295_108).trans (z_getr (by decide) (by decide) rfl)
theorem mj_295_111 : mc_P 295 111 = some (.iload_n 2, 1, 0, 0, 0) := by decide +kernel
theorem s_295_111 {x0 x1 x3 : Option Value} {w : Value} : mw d 295 Q 111 [x0, x1, some w, x3] (st) h = mv_i w (mw d 295 Q 112 [x0, x1, some w, x3] (w :: st) h) := (mw_at mj_295_111).trans (z_iload_n rfl)
theorem mj_295_112 : mc_P 295 112 = some (.laload, 1, 0, 0, 0) := by decide +kernel
theorem s_295_112 {x0 x1 x2 x3 : Option Value} {o : Nat} {i : Int32} : mw d 295 Q 112 [x0, x1, x2, x3] (.int i :: .ref o :: st) h = (mg h o 101 ∧ mx i (mh_l h o) ∧ mw d 295 Q 113 [x0, x1, x2, x3] (.long (mh_j h o i.toNatClampNeg) :: st) h) := (mw_at mj_295_112).trans (z_lald)
theorem mj_295_113 : mc_P 295 113 = some (.aload_n 0, 1, 0, 0, 0) := by decide +kernel
theorem s_295_113 {x1 x2 x3 : Option Value} {w : Value} : mw d 295 Q 113 [some w, x1, x2, x3] (st) h = mv_a w (mw d 295 Q 114 [some w, x1, x2, x3] (w :: st) h) := (mw_at mj_295_113).trans (z_aload_n rfl)
theorem mj_295_114 : mc_P 295 114 = some (.getfield 13, 3, 13, 4, 0) := by decide +kernel
theorem s_295_114 {x0 x1 x2 x3 : Option Value} {o : Nat} : mw d 295 Q 114 [x0, x1, x2, x3] (.ref o :: st) h = (mg h o 13 ∧ mw d 295 Q 117 [x0, x1, x2, x3] (va_rf (mh_r h o 4) :: st) h) := (mw_at mj_295_114).trans (z_getr (by decide) (by decide) rfl)
theorem mj_295_117 : mc_P 295 117 = some (.iload_n 2, 1, 0, 0, 0) := by decide +kernel
theorem s_295_117 {x0 x1 x3 : Option Value} {w : Value} : mw d 295 Q 117 [x0, x1, some w, x3] (st) h = mv_i w (mw d 295 Q 118 [x0, x1, some w, x3] (w :: st) h) := (mw_at mj_295_117).trans (z_iload_n rfl)
theorem mj_295_118 : mc_P 295 118 = some (.laload, 1, 0, 0, 0) := by decide +kernel
theorem s_295_118 {x0 x1 x2 x3 : Option Value} {o : Nat} {i : Int32} : mw d 295 Q 118 [x0, x1, x2, x3] (.int i :: .ref o :: st) h = (mg h o 101 ∧ mx i (mh_l h o) ∧ mw d 295 Q 119 [x0, x1, x2, x3] (.long (mh_j h o i.toNatClampNeg) :: st) h) := (mw_at mj_295_118).trans (z_lald)
theorem mj_295_119 : mc_P 295 119 = some (.lcmp, 1, 0, 0, 0) := by decide +kernel
theorem s_295_119 {x0 x1 x2 x3 : Option Value} {x w : Int64} : mw d 295 Q 119 [x0, x1, x2, x3] (.long w :: .long x :: st) h = mw d 295 Q 120 [x0, x1, x2, x3] (.int (lg_cmp x w) :: st) h := (mw_at mj_295_119).trans (z_lcmp)
theorem mj_295_120 : mc_P 295 120 = some (.ifCond .ge 9, 3, 0, 0, 0) := by decide +kernel
theorem s_295_120 {x0 x1 x2 x3 : Option Value} {x : Int32} : mw d 295 Q 120 [x0, x1, x2, x3] (.int x :: st) h = mB (0 ≤ x) (mw d 295 Q) 129 123 [x0, x1, x2, x3] st h := (mw_at mj_295_120).trans (z_if_ge (by decide) rfl)
theorem mj_295_123 : mc_P 295 123 = some (.ldc2_w 85, 3, 0, 0, (-2147483648)) := by decide +kernel
theorem s_295_123 {x0 x1 x2 x3 : Option Value} : mw d 295 Q 123 [x0, x1, x2, x3] (st) h = mw d 295 Q 126 [x0, x1, x2, x3] (.long (-2147483648) :: st) h := (mw_at mj_295_123).trans (z_ldc2 (by decide))
theorem mj_295_126 : mc_P 295 126 = some (.goto 9, 3, 0, 0, 0) := by decide +kernel
theorem s_295_126 {x0 x1 x2 x3 : Option Value} : mw d 295 Q 126 [x0, x1, x2, x3] (st) h = mw d 295 Q 135 [x0, x1, x2, x3] (st) h := (mw_at mj_295_126).trans (z_goto (by decide))
theorem mj_295_129 : mc_P 295 129 = some (.aload_n 0, 1, 0, 0, 0) := by decide +kernel
theorem s_295_129 {x1 x2 x3 : Option Value} {w : Value} : mw d 295 Q 129 [some w, x1, x2, x3] (st) h = mv_a w (mw d 295 Q 130 [some w, x1, x2, x3] (w :: st) h) := (mw_at mj_295_129).trans (z_aload_n rfl)
theorem mj_295_130 : mc_P 295 130 = some (.getfield 13, 3, 13, 4, 0) := by decide +kernel
theorem s_295_130 {x0 x1 x2 x3 : Option Value} {o : Nat} : mw d 295 Q 130 [x0, x1, x2, x3] (.ref o :: st) h = (mg h o 13 ∧ mw d 295 Q 133 [x0, x1, x2, x3] (va_rf (mh_r h o 4) :: st) h) := (mw_at mj_295_130).trans (z_getr (by decide) (by decide) rfl)
theorem mj_295_133 : mc_P 295 133 = some (.iload_n 2, 1, 0, 0, 0) := by decide +kernel
theorem s_295_133 {x0 x1 x3 : Option Value} {w : Value} : mw d 295 Q 133 [x0, x1, some w, x3] (st) h = mv_i w (mw d 295 Q 134 [x0, x1, some w, x3] (w :: st) h) := (mw_at mj_295_133).trans (z_iload_n rfl)
theorem mj_295_134 : mc_P 295 134 = some (.laload, 1, 0, 0, 0) := by decide +kernel
theorem s_295_134 {x0 x1 x2 x3 : Option Value} {o : Nat} {i : Int32} : mw d 295 Q 134 [x0, x1, x2, x3] (.int i :: .ref o :: st) h = (mg h o 101 ∧ mx i (mh_l h o) ∧ mw d 295 Q 135 [x0, x1, x2, x3] (.long (mh_j h o i.toNatClampNeg) :: st) h) := (mw_at mj_295_134).trans (z_lald)
theorem mj_295_135 : mc_P 295 135 = some (.lastore, 1, 0, 0, 0) := by decide +kernel
theorem s_295_135 {x0 x1 x2 x3 : Option Value} {o : Nat} {i : Int32} {w : Int64} : mw d 295 Q 135 [x0, x1, x2, x3] (.long w :: .int i :: .ref o :: st) h = (mg h o 101 ∧ mx i (mh_l h o) ∧ mw d 295 Q 136 [x0, x1, x2, x3] (st) (mh_sj h o i.toNatClampNeg w)) := (mw_at mj_295_135).trans (z_last)
theorem mj_295_136 : mc_P 295 136 = some (.aload_n 0, 1, 0, 0, 0) := by decide +kernel
theorem s_295_136 {x1 x2 x3 : Option Value} {w : Value} : mw d 295 Q 136 [some w, x1, x2, x3] (st) h = mv_a w (mw d 295 Q 137 [some w, x1, x2, x3] (w :: st) h) := (mw_at mj_295_136).trans (z_aload_n rfl)
theorem mj_295_137 : mc_P 295 137 = some (.getfield 16, 3, 13, 5, 0) := by decide +kernel
theorem s_295_137 {x0 x1 x2 x3 : Option Value} {o : Nat} : mw d 295 Q 137 [x0, x1, x2, x3] (.ref o :: st) h = (mg h o 13 ∧ mw d 295 Q 140 [x0, x1, x2, x3] (va_rf (mh_r h o 5) :: st) h) := (mw_at mj_295_137).trans (z_getr (by decide) (by decide) rfl)
theorem mj_295_140 : mc_P 295 140 = some (.iload_n 2, 1, 0, 0, 0) := by decide +kernel
theorem s_295_140 {x0 x1 x3 : Option Value} {w : Value} : mw d 295 Q 140 [x0, x1, some w, x3] (st) h = mv_i w (mw d 295 Q 141 [x0, x1, some w, x3] (w :: st) h) := (mw_at mj_295_140).trans (z_iload_n rfl)
theorem mj_295_141 : mc_P 295 141 = some (.aload_n 1, 1, 0, 0, 0) := by decide +kernel
theorem s_295_141 {x0 x2 x3 : Option Value} {w : Value} : mw d 295 Q 141 [x0, some w, x2, x3] (st) h = mv_a w (mw d 295 Q 142 [x0, some w, x2, x3] (w :: st) h) := (mw_at mj_295_141).trans (z_aload_n rfl)
theorem mj_295_142 : mc_P 295 142 = some (.getfield 16, 3, 13, 5, 0) := by decide +kernel
theorem s_295_142 {x0 x1 x2 x3 : Option Value} {o : Nat} : mw d 295 Q 142 [x0, x1, x2, x3] (.ref o :: st) h = (mg h o 13 ∧ mw d 295 Q 145 [x0, x1, x2, x3] (va_rf (mh_r h o 5) :: st) h) := (mw_at mj_295_142).trans (z_getr (by decide) (by decide) rfl)
theorem mj_295_145 : mc_P 295 145 = some (.iload_n 2, 1, 0, 0, 0) := by decide +kernel
theorem s_295_145 {x0 x1 x3 : Option Value} {w : Value} : mw d 295 Q 145 [x0, x1, some w, x3] (st) h = mv_i w (mw d 295 Q 146 [x0, x1, some w, x3] (w :: st) h) := (mw_at mj_295_145).trans (z_iload_n rfl)
theorem mj_295_146 : mc_P 295 146 = some (.laload, 1, 0, 0, 0) := by decide +kernel
theorem s_295_146 {x0 x1 x2 x3 : Option Value} {o : Nat} {i : Int32} : mw d 295 Q 146 [x0, x1, x2, x3] (.int i :: .ref o :: st) h = (mg h o 101 ∧ mx i (mh_l h o) ∧ mw d 295 Q 147 [x0, x1, x2, x3] (.long (mh_j h o i.toNatClampNeg) :: st) h) := (mw_at mj_295_146).trans (z_lald)
theorem mj_295_147 : mc_P 295 147 = some (.aload_n 0, 1, 0, 0, 0) := by decide +kernel
theorem s_295_147 {x1 x2 x3 : Option Value} {w : Value} : mw d 295 Q 147 [some w, x1, x2, x3] (st) h = mv_a w (mw d 295 Q 148 [some w, x1, x2, x3] (w :: st) h) := (mw_at mj_295_147).trans (z_aload_n rfl)
theorem mj_295_148 : mc_P 295 148 = some (.getfield 16, 3, 13, 5, 0) := by decide +kernel
theorem s_295_148 {x0 x1 x2 x3 : Option Value} {o : Nat} : mw d 295 Q 148 [x0, x1, x2, x3] (.ref o :: st) h = (mg h o 13 ∧ mw d 295 Q 151 [x0, x1, x2, x3] (va_rf (mh_r h o 5) :: st) h) := (mw_at mj_295_148).trans (z_getr (by decide) (by decide) rfl)
theorem mj_295_151 : mc_P 295 151 = some (.iload_n 2, 1, 0, 0, 0) := by decide +kernel
theorem s_295_151 {x0 x1 x3 : Option Value} {w : Value} : mw d 295 Q 151 [x0, x1, some w, x3] (st) h = mv_i w (mw d 295 Q 152 [x0, x1, some w, x3] (w :: st) h) := (mw_at mj_295_151).trans (z_iload_n rfl)
theorem mj_295_152 : mc_P 295 152 = some (.laload, 1, 0, 0, 0) := by decide +kernel
theorem s_295_152 {x0 x1 x2 x3 : Option Value} {o : Nat} {i : Int32} : mw d 295 Q 152 [x0, x1, x2, x3] (.int i :: .ref o :: st) h = (mg h o 101 ∧ mx i (mh_l h o) ∧ mw d 295 Q 153 [x0, x1, x2, x3] (.long (mh_j h o i.toNatClampNeg) :: st) h) := (mw_at mj_295_152).trans (z_lald)
theorem mj_295_153 : mc_P 295 153 = some (.lcmp, 1, 0, 0, 0) := by decide +kernel
theorem s_295_153 {x0 x1 x2 x3 : Option Value} {x w : Int64} : mw d 295 Q 153 [x0, x1, x2, x3] (.long w :: .long x :: st) h = mw d 295 Q 154 [x0, x1, x2, x3] (.int (lg_cmp x w) :: st) h := (mw_at mj_295_153).trans (z_lcmp)
theorem mj_295_154 : mc_P 295 154 = some (.ifCond .le 9, 3, 0, 0, 0) := by decide +kernel
theorem s_295_154 {x0 x1 x2 x3 : Option Value} {x : Int32} : mw d 295 Q 154 [x0, x1, x2, x3] (.int x :: st) h = mB (x ≤ 0) (mw d 295 Q) 163 157 [x0, x1, x2, x3] st h := (mw_at mj_295_154).trans (z_if_le (by decide) rfl)
theorem mj_295_157 : mc_P 295 157 = some (.ldc2_w 23, 3, 0, 0, 2147483647) := by decide +kernel
theorem s_295_157 {x0 x1 x2 x3 : Option Value} : mw d 295 Q 157 [x0, x1, x2, x3] (st) h = mw d 295 Q 160 [x0, x1, x2, x3] (.long 2147483647 :: st) h := (mw_at mj_295_157).trans (z_ldc2 (by decide))
theorem mj_295_160 : mc_P 295 160 = some (.goto 9, 3, 0, 0, 0) := by decide +kernel
theorem s_295_160 {x0 x1 x2 x3 : Option Value} : mw d 295 Q 160 [x0, x1, x2, x3] (st) h = mw d 295 Q 169 [x0, x1, x2, x3] (st) h := (mw_at mj_295_160).trans (z_goto (by decide))
theorem mj_295_163 : mc_P 295 163 = some (.aload_n 0, 1, 0, 0, 0) := by decide +kernel
theorem s_295_163 {x1 x2 x3 : Option Value} {w : Value} : mw d 295 Q 163 [some w, x1, x2, x3] (st) h = mv_a w (mw d 295 Q 164 [some w, x1, x2, x3] (w :: st) h) := (mw_at mj_295_163).trans (z_aload_n rfl)
theorem mj_295_164 : mc_P 295 164 = some (.getfield 16, 3, 13, 5, 0) := by decide +kernel
theorem s_295_164 {x0 x1 x2 x3 : Option Value} {o : Nat} : mw d 295 Q 164 [x0, x1, x2, x3] (.ref o :: st) h = (mg h o 13 ∧ mw d 295 Q 167 [x0, x1, x2, x3] (va_rf (mh_r h o 5) :: st) h) := (mw_at mj_295_164).trans (z_getr (by decide) (by decide) rfl)
theorem mj_295_167 : mc_P 295 167 = some (.iload_n 2, 1, 0, 0, 0) := by decide +kernel
theorem s_295_167 {x0 x1 x3 : Option Value} {w : Value} : mw d 295 Q 167 [x0, x1, some w, x3] (st) h = mv_i w (mw d 295 Q 168 [x0, x1, some w, x3] (w :: st) h) := (mw_at mj_295_167).trans (z_iload_n rfl)
theorem mj_295_168 : mc_P 295 168 = some (.laload, 1, 0, 0, 0) := by decide +kernel
theorem s_295_168 {x0 x1 x2 x3 : Option Value} {o : Nat} {i : Int32} : mw d 295 Q 168 [x0, x1, x2, x3] (.int i :: .ref o :: st) h = (mg h o 101 ∧ mx i (mh_l h o) ∧ mw d 295 Q 169 [x0, x1, x2, x3] (.long (mh_j h o i.toNatClampNeg) :: st) h) := (mw_at mj_295_168).trans (z_lald)
theorem mj_295_169 : mc_P 295 169 = some (.lastore, 1, 0, 0, 0) := by decide +kernel
theorem s_295_169 {x0 x1 x2 x3 : Option Value} {o : Nat} {i : Int32} {w : Int64} : mw d 295 Q 169 [x0, x1, x2, x3] (.long w :: .int i :: .ref o :: st) h = (mg h o 101 ∧ mx i (mh_l h o) ∧ mw d 295 Q 170 [x0, x1, x2, x3] (st) (mh_sj h o i.toNatClampNeg w)) := (mw_at mj_295_169).trans (z_last)
theorem mj_295_170 : mc_P 295 170 = some (.iinc 2 1, 3, 0, 0, 0) := by decide +kernel
theorem s_295_170 {x0 x1 x3 : Option Value} {w : Int32} : mw d 295 Q 170 [x0, x1, some (.int w), x3] (st) h = mw d 295 Q 173 [x0, mk2 x1, some (.int (w + 1)), x3] (st) h := (mw_at mj_295_170).trans (z_iinc rfl (Nat.le_of_ble_eq_true rfl) (by decide) (me_s1_mk (j := 1) (w := x1) rfl))
theorem mj_295_173 : mc_P 295 173 = some (.goto (-79), 3, 0, 0, 0) := by decide +kernel
theorem s_295_173 {x0 x1 x2 x3 : Option Value} : mw d 295 Q 173 [x0, x1, x2, x3] (st) h = mw d 295 Q 94 [x0, x1, x2, x3] (st) h := (mw_at mj_295_173).trans (z_goto (by decide))
theorem mj_295_176 : mc_P 295 176 = some (.return_, 1, 0, 0, 0) := by decide +kernel
theorem s_295_176 {x0 x1 x2 x3 : Option Value} : mw d 295 Q 176 [x0, x1, x2, x3] ([]) h = Q none h := (mw_at mj_295_176).trans (z_vret)
theorem e_295 {a0 : Nat} {a1 : Nat} : mcall d 295 [.ref a0, .ref a1] h Q = mw d 295 Q 0 [some (.ref a0), some (.ref a1), none, none] [] h := by
  show mw d 295 Q 0 (me_en (mc_nl 295) _) [] h = _
  rw [nl_295]; rfl

/-! InvariantDeskModel$Known.valueOf(I[I)J -/
theorem mj_296_0 : mc_P 296 0 = some (.iload_n 0, 1, 0, 0, 0) := by decide +kernel
theorem s_296_0 {x1 : Option Value} {w : Value} : mw d 296 Q 0 [some w, x1] (st) h = mv_i w (mw d 296 Q 1 [some w, x1] (w :: st) h) := (mw_at mj_296_0).trans (z_iload_n rfl)
theorem mj_296_1 : mc_P 296 1 = some (.iconst 2, 1, 0, 0, 0) := by decide +kernel
theorem s_296_1 {x0 x1 : Option Value} : mw d 296 Q 1 [x0, x1] (st) h = mw d 296 Q 2 [x0, x1] (.int 2 :: st) h := (mw_at mj_296_1).trans (z_iconst (by decide))
theorem mj_296_2 : mc_P 296 2 = some (.irem, 1, 0, 0, 0) := by decide +kernel
theorem s_296_2 {x0 x1 : Option Value} {x w : Int32} : mw d 296 Q 2 [x0, x1] (.int w :: .int x :: st) h = (¬ w = 0 ∧ mw d 296 Q 3 [x0, x1] (.int (x - x / w * w) :: st) h) := (mw_at mj_296_2).trans (z_irem)
theorem mj_296_3 : mc_P 296 3 = some (.ifCond .ne 12, 3, 0, 0, 0) := by decide +kernel
theorem s_296_3 {x0 x1 : Option Value} {x : Int32} : mw d 296 Q 3 [x0, x1] (.int x :: st) h = mB (¬ x = 0) (mw d 296 Q) 15 6 [x0, x1] st h := (mw_at mj_296_3).trans (z_if_ne (by decide) rfl)
theorem mj_296_6 : mc_P 296 6 = some (.aload_n 1, 1, 0, 0, 0) := by decide +kernel
theorem s_296_6 {x0 : Option Value} {w : Value} : mw d 296 Q 6 [x0, some w] (st) h = mv_a w (mw d 296 Q 7 [x0, some w] (w :: st) h) := (mw_at mj_296_6).trans (z_aload_n rfl)
theorem mj_296_7 : mc_P 296 7 = some (.iload_n 0, 1, 0, 0, 0) := by decide +kernel
theorem s_296_7 {x1 : Option Value} {w : Value} : mw d 296 Q 7 [some w, x1] (st) h = mv_i w (mw d 296 Q 8 [some w, x1] (w :: st) h) := (mw_at mj_296_7).trans (z_iload_n rfl)
theorem mj_296_8 : mc_P 296 8 = some (.iconst 2, 1, 0, 0, 0) := by decide +kernel
theorem s_296_8 {x0 x1 : Option Value} : mw d 296 Q 8 [x0, x1] (st) h = mw d 296 Q 9 [x0, x1] (.int 2 :: st) h := (mw_at mj_296_8).trans (z_iconst (by decide))
theorem mj_296_9 : mc_P 296 9 = some (.idiv, 1, 0, 0, 0) := by decide +kernel
theorem s_296_9 {x0 x1 : Option Value} {x w : Int32} : mw d 296 Q 9 [x0, x1] (.int w :: .int x :: st) h = (¬ w = 0 ∧ mw d 296 Q 10 [x0, x1] (.int (x / w) :: st) h) := (mw_at mj_296_9).trans (z_idiv)
theorem mj_296_10 : mc_P 296 10 = some (.iaload, 1, 0, 0, 0) := by decide +kernel
theorem s_296_10 {x0 x1 : Option Value} {o : Nat} {i : Int32} : mw d 296 Q 10 [x0, x1] (.int i :: .ref o :: st) h = (mg h o 100 ∧ mx i (mh_l h o) ∧ mw d 296 Q 11 [x0, x1] (.int (mh_i h o i.toNatClampNeg) :: st) h) := (mw_at mj_296_10).trans (z_iald)
theorem mj_296_11 : mc_P 296 11 = some (.i2l, 1, 0, 0, 0) := by decide +kernel
theorem s_296_11 {x0 x1 : Option Value} {x : Int32} : mw d 296 Q 11 [x0, x1] (.int x :: st) h = mw d 296 Q 12 [x0, x1] (.long x.toInt64 :: st) h := (mw_at mj_296_11).trans (z_i2l)
theorem mj_296_12 : mc_P 296 12 = some (.goto 10, 3, 0, 0, 0) := by decide +kernel
theorem s_296_12 {x0 x1 : Option Value} : mw d 296 Q 12 [x0, x1] (st) h = mw d 296 Q 22 [x0, x1] (st) h := (mw_at mj_296_12).trans (z_goto (by decide))
theorem mj_296_15 : mc_P 296 15 = some (.aload_n 1, 1, 0, 0, 0) := by decide +kernel
theorem s_296_15 {x0 : Option Value} {w : Value} : mw d 296 Q 15 [x0, some w] (st) h = mv_a w (mw d 296 Q 16 [x0, some w] (w :: st) h) := (mw_at mj_296_15).trans (z_aload_n rfl)
theorem mj_296_16 : mc_P 296 16 = some (.iload_n 0, 1, 0, 0, 0) := by decide +kernel
theorem s_296_16 {x1 : Option Value} {w : Value} : mw d 296 Q 16 [some w, x1] (st) h = mv_i w (mw d 296 Q 17 [some w, x1] (w :: st) h) := (mw_at mj_296_16).trans (z_iload_n rfl)
theorem mj_296_17 : mc_P 296 17 = some (.iconst 2, 1, 0, 0, 0) := by decide +kernel
theorem s_296_17 {x0 x1 : Option Value} : mw d 296 Q 17 [x0, x1] (st) h = mw d 296 Q 18 [x0, x1] (.int 2 :: st) h := (mw_at mj_296_17).trans (z_iconst (by decide))
theorem mj_296_18 : mc_P 296 18 = some (.idiv, 1, 0, 0, 0) := by decide +kernel
theorem s_296_18 {x0 x1 : Option Value} {x w : Int32} : mw d 296 Q 18 [x0, x1] (.int w :: .int x :: st) h = (¬ w = 0 ∧ mw d 296 Q 19 [x0, x1] (.int (x / w) :: st) h) := (mw_at mj_296_18).trans (z_idiv)
theorem mj_296_19 : mc_P 296 19 = some (.iaload, 1, 0, 0, 0) := by decide +kernel
theorem s_296_19 {x0 x1 : Option Value} {o : Nat} {i : Int32} : mw d 296 Q 19 [x0, x1] (.int i :: .ref o :: st) h = (mg h o 100 ∧ mx i (mh_l h o) ∧ mw d 296 Q 20 [x0, x1] (.int (mh_i h o i.toNatClampNeg) :: st) h) := (mw_at mj_296_19).trans (z_iald)
theorem mj_296_20 : mc_P 296 20 = some (.i2l, 1, 0, 0, 0) := by decide +kernel
theorem s_296_20 {x0 x1 : Option Value} {x : Int32} : mw d 296 Q 20 [x0, x1] (.int x :: st) h = mw d 296 Q 21 [x0, x1] (.long x.toInt64 :: st) h := (mw_at mj_296_20).trans (z_i2l)
theorem mj_296_21 : mc_P 296 21 = some (.lneg, 1, 0, 0, 0) := by decide +kernel
theorem s_296_21 {x0 x1 : Option Value} {x : Int64} : mw d 296 Q 21 [x0, x1] (.long x :: st) h = mw d 296 Q 22 [x0, x1] (.long (-x) :: st) h := (mw_at mj_296_21).trans (z_lneg)
theorem mj_296_22 : mc_P 296 22 = some (.lreturn, 1, 0, 0, 0) := by decide +kernel
theorem s_296_22 {x0 x1 : Option Value} {x : Int64} : mw d 296 Q 22 [x0, x1] ([.long x]) h = Q (some (.long x)) h := (mw_at mj_296_22).trans (z_lret)
theorem e_296 {a0 : Int32} {a1 : Nat} : mcall d 296 [.int a0, .ref a1] h Q = mw d 296 Q 0 [some (.int a0), some (.ref a1)] [] h := by
  show mw d 296 Q 0 (me_en (mc_nl 296) _) [] h = _
  rw [nl_296]; rfl

end SR
