/-! rules of methods, by program (wip/whole/srule.py) -/
section SR
variable {d : Nat} {Q : Option Value → mh_H → Prop} {st : List Value} {h : mh_H}
/-! InvariantDesk$Program.numberName(II)I -/
theorem mj_82_0 : mc_P 82 0 = some (.aload_n 0, 1, 0, 0, 0) := by decide +kernel
theorem s_82_0 {x1 x2 : Option Value} {w : Value} : mw d 82 Q 0 [some w, x1, x2] (st) h = mv_a w (mw d 82 Q 1 [some w, x1, x2] (w :: st) h) := (mw_at mj_82_0).trans (z_aload_n rfl)
theorem mj_82_1 : mc_P 82 1 = some (.getfield 63, 3, 4, 13, 0) := by decide +kernel
theorem s_82_1 {x0 x1 x2 : Option Value} {o : Nat} : mw d 82 Q 1 [x0, x1, x2] (.ref o :: st) h = (mg h o 4 ∧ mw d 82 Q 4 [x0, x1, x2] (va_rf (mh_r h o 13) :: st) h) := (mw_at mj_82_1).trans (z_getr (by decide) (by decide) rfl)
theorem mj_82_4 : mc_P 82 4 = some (.bipush 18, 2, 0, 0, 0) := by decide +kernel
theorem s_82_4 {x0 x1 x2 : Option Value} : mw d 82 Q 4 [x0, x1, x2] (st) h = mw d 82 Q 6 [x0, x1, x2] (.int 18 :: st) h := (mw_at mj_82_4).trans (z_bipush (by decide))
theorem mj_82_6 : mc_P 82 6 = some (.iload_n 1, 1, 0, 0, 0) := by decide +kernel
theorem s_82_6 {x0 x2 : Option Value} {w : Value} : mw d 82 Q 6 [x0, some w, x2] (st) h = mv_i w (mw d 82 Q 7 [x0, some w, x2] (w :: st) h) := (mw_at mj_82_6).trans (z_iload_n rfl)
theorem mj_82_7 : mc_P 82 7 = some (.imul, 1, 0, 0, 0) := by decide +kernel
theorem s_82_7 {x0 x1 x2 : Option Value} {x w : Int32} : mw d 82 Q 7 [x0, x1, x2] (.int w :: .int x :: st) h = mw d 82 Q 8 [x0, x1, x2] (.int (x * w) :: st) h := (mw_at mj_82_7).trans (z_imul)
theorem mj_82_8 : mc_P 82 8 = some (.iload_n 2, 1, 0, 0, 0) := by decide +kernel
theorem s_82_8 {x0 x1 : Option Value} {w : Value} : mw d 82 Q 8 [x0, x1, some w] (st) h = mv_i w (mw d 82 Q 9 [x0, x1, some w] (w :: st) h) := (mw_at mj_82_8).trans (z_iload_n rfl)
theorem mj_82_9 : mc_P 82 9 = some (.iadd, 1, 0, 0, 0) := by decide +kernel
theorem s_82_9 {x0 x1 x2 : Option Value} {x w : Int32} : mw d 82 Q 9 [x0, x1, x2] (.int w :: .int x :: st) h = mw d 82 Q 10 [x0, x1, x2] (.int (x + w) :: st) h := (mw_at mj_82_9).trans (z_iadd)
theorem mj_82_10 : mc_P 82 10 = some (.iaload, 1, 0, 0, 0) := by decide +kernel
theorem s_82_10 {x0 x1 x2 : Option Value} {o : Nat} {i : Int32} : mw d 82 Q 10 [x0, x1, x2] (.int i :: .ref o :: st) h = (mg h o 100 ∧ mx i (mh_l h o) ∧ mw d 82 Q 11 [x0, x1, x2] (.int (mh_i h o i.toNatClampNeg) :: st) h) := (mw_at mj_82_10).trans (z_iald)
theorem mj_82_11 : mc_P 82 11 = some (.ireturn, 1, 0, 0, 0) := by decide +kernel
theorem s_82_11 {x0 x1 x2 : Option Value} {x : Int32} : mw d 82 Q 11 [x0, x1, x2] ([.int x]) h = (Q (some (.int x)) h) := (mw_at mj_82_11).trans (z_iret)
theorem e_82 {a0 : Nat} {a1 : Int32} {a2 : Int32} : mcall d 82 [.ref a0, .int a1, .int a2] h Q = mw d 82 Q 0 [some (.ref a0), some (.int a1), some (.int a2)] [] h := by
  show mw d 82 Q 0 (me_en (mc_nl 82) _) [] h = _
  rw [nl_82]; rfl

/-! InvariantDesk$Program.arrayName(II)I -/
theorem mj_83_0 : mc_P 83 0 = some (.aload_n 0, 1, 0, 0, 0) := by decide +kernel
theorem s_83_0 {x1 x2 : Option Value} {w : Value} : mw d 83 Q 0 [some w, x1, x2] (st) h = mv_a w (mw d 83 Q 1 [some w, x1, x2] (w :: st) h) := (mw_at mj_83_0).trans (z_aload_n rfl)
theorem mj_83_1 : mc_P 83 1 = some (.getfield 63, 3, 4, 13, 0) := by decide +kernel
theorem s_83_1 {x0 x1 x2 : Option Value} {o : Nat} : mw d 83 Q 1 [x0, x1, x2] (.ref o :: st) h = (mg h o 4 ∧ mw d 83 Q 4 [x0, x1, x2] (va_rf (mh_r h o 13) :: st) h) := (mw_at mj_83_1).trans (z_getr (by decide) (by decide) rfl)
theorem mj_83_4 : mc_P 83 4 = some (.bipush 18, 2, 0, 0, 0) := by decide +kernel
theorem s_83_4 {x0 x1 x2 : Option Value} : mw d 83 Q 4 [x0, x1, x2] (st) h = mw d 83 Q 6 [x0, x1, x2] (.int 18 :: st) h := (mw_at mj_83_4).trans (z_bipush (by decide))
theorem mj_83_6 : mc_P 83 6 = some (.iload_n 1, 1, 0, 0, 0) := by decide +kernel
theorem s_83_6 {x0 x2 : Option Value} {w : Value} : mw d 83 Q 6 [x0, some w, x2] (st) h = mv_i w (mw d 83 Q 7 [x0, some w, x2] (w :: st) h) := (mw_at mj_83_6).trans (z_iload_n rfl)
theorem mj_83_7 : mc_P 83 7 = some (.imul, 1, 0, 0, 0) := by decide +kernel
theorem s_83_7 {x0 x1 x2 : Option Value} {x w : Int32} : mw d 83 Q 7 [x0, x1, x2] (.int w :: .int x :: st) h = mw d 83 Q 8 [x0, x1, x2] (.int (x * w) :: st) h := (mw_at mj_83_7).trans (z_imul)
theorem mj_83_8 : mc_P 83 8 = some (.bipush 12, 2, 0, 0, 0) := by decide +kernel
theorem s_83_8 {x0 x1 x2 : Option Value} : mw d 83 Q 8 [x0, x1, x2] (st) h = mw d 83 Q 10 [x0, x1, x2] (.int 12 :: st) h := (mw_at mj_83_8).trans (z_bipush (by decide))
theorem mj_83_10 : mc_P 83 10 = some (.iadd, 1, 0, 0, 0) := by decide +kernel
theorem s_83_10 {x0 x1 x2 : Option Value} {x w : Int32} : mw d 83 Q 10 [x0, x1, x2] (.int w :: .int x :: st) h = mw d 83 Q 11 [x0, x1, x2] (.int (x + w) :: st) h := (mw_at mj_83_10).trans (z_iadd)
theorem mj_83_11 : mc_P 83 11 = some (.iload_n 2, 1, 0, 0, 0) := by decide +kernel
theorem s_83_11 {x0 x1 : Option Value} {w : Value} : mw d 83 Q 11 [x0, x1, some w] (st) h = mv_i w (mw d 83 Q 12 [x0, x1, some w] (w :: st) h) := (mw_at mj_83_11).trans (z_iload_n rfl)
theorem mj_83_12 : mc_P 83 12 = some (.iadd, 1, 0, 0, 0) := by decide +kernel
theorem s_83_12 {x0 x1 x2 : Option Value} {x w : Int32} : mw d 83 Q 12 [x0, x1, x2] (.int w :: .int x :: st) h = mw d 83 Q 13 [x0, x1, x2] (.int (x + w) :: st) h := (mw_at mj_83_12).trans (z_iadd)
theorem mj_83_13 : mc_P 83 13 = some (.iaload, 1, 0, 0, 0) := by decide +kernel
theorem s_83_13 {x0 x1 x2 : Option Value} {o : Nat} {i : Int32} : mw d 83 Q 13 [x0, x1, x2] (.int i :: .ref o :: st) h = (mg h o 100 ∧ mx i (mh_l h o) ∧ mw d 83 Q 14 [x0, x1, x2] (.int (mh_i h o i.toNatClampNeg) :: st) h) := (mw_at mj_83_13).trans (z_iald)
theorem mj_83_14 : mc_P 83 14 = some (.ireturn, 1, 0, 0, 0) := by decide +kernel
theorem s_83_14 {x0 x1 x2 : Option Value} {x : Int32} : mw d 83 Q 14 [x0, x1, x2] ([.int x]) h = (Q (some (.int x)) h) := (mw_at mj_83_14).trans (z_iret)
theorem e_83 {a0 : Nat} {a1 : Int32} {a2 : Int32} : mcall d 83 [.ref a0, .int a1, .int a2] h Q = mw d 83 Q 0 [some (.ref a0), some (.int a1), some (.int a2)] [] h := by
  show mw d 83 Q 0 (me_en (mc_nl 83) _) [] h = _
  rw [nl_83]; rfl

/-! InvariantDesk$Program.taker(I)I -/
theorem mj_84_0 : mc_P 84 0 = some (.aload_n 0, 1, 0, 0, 0) := by decide +kernel
theorem s_84_0 {x1 x2 x3 : Option Value} {w : Value} : mw d 84 Q 0 [some w, x1, x2, x3] (st) h = mv_a w (mw d 84 Q 1 [some w, x1, x2, x3] (w :: st) h) := (mw_at mj_84_0).trans (z_aload_n rfl)
theorem mj_84_1 : mc_P 84 1 = some (.getfield 42, 3, 4, 6, 0) := by decide +kernel
theorem s_84_1 {x0 x1 x2 x3 : Option Value} {o : Nat} : mw d 84 Q 1 [x0, x1, x2, x3] (.ref o :: st) h = (mg h o 4 ∧ mw d 84 Q 4 [x0, x1, x2, x3] (va_rf (mh_r h o 6) :: st) h) := (mw_at mj_84_1).trans (z_getr (by decide) (by decide) rfl)
theorem mj_84_4 : mc_P 84 4 = some (.iload_n 1, 1, 0, 0, 0) := by decide +kernel
theorem s_84_4 {x0 x2 x3 : Option Value} {w : Value} : mw d 84 Q 4 [x0, some w, x2, x3] (st) h = mv_i w (mw d 84 Q 5 [x0, some w, x2, x3] (w :: st) h) := (mw_at mj_84_4).trans (z_iload_n rfl)
theorem mj_84_5 : mc_P 84 5 = some (.iaload, 1, 0, 0, 0) := by decide +kernel
theorem s_84_5 {x0 x1 x2 x3 : Option Value} {o : Nat} {i : Int32} : mw d 84 Q 5 [x0, x1, x2, x3] (.int i :: .ref o :: st) h = (mg h o 100 ∧ mx i (mh_l h o) ∧ mw d 84 Q 6 [x0, x1, x2, x3] (.int (mh_i h o i.toNatClampNeg) :: st) h) := (mw_at mj_84_5).trans (z_iald)
theorem s_84_5x {x0 x1 x2 x3 : Option Value} {i : Int32} : mw d 84 Q 5 [x0, x1, x2, x3] (.int i :: .retAddr 2 :: st) h = (mx i 24 ∧ mw d 84 Q 6 [x0, x1, x2, x3] (.int (mx_row.getD i.toNatClampNeg 0) :: st) h) := (mw_at mj_84_5).trans (z_iaX)
theorem mj_84_6 : mc_P 84 6 = some (.istore_n 2, 1, 0, 0, 0) := by decide +kernel
theorem s_84_6 {x0 x1 x2 x3 : Option Value} {w : Int32} : mw d 84 Q 6 [x0, x1, x2, x3] (.int w :: st) h = mw d 84 Q 7 [x0, mk2 x1, some (.int w), x3] (st) h := (mw_at mj_84_6).trans (z_istore_n (Nat.le_of_ble_eq_true rfl) (me_s1_mk (j := 1) (w := x1) rfl))
theorem mj_84_7 : mc_P 84 7 = some (.iload_n 2, 1, 0, 0, 0) := by decide +kernel
theorem s_84_7 {x0 x1 x3 : Option Value} {w : Value} : mw d 84 Q 7 [x0, x1, some w, x3] (st) h = mv_i w (mw d 84 Q 8 [x0, x1, some w, x3] (w :: st) h) := (mw_at mj_84_7).trans (z_iload_n rfl)
theorem mj_84_8 : mc_P 84 8 = some (.iconst (-1), 1, 0, 0, 0) := by decide +kernel
theorem s_84_8 {x0 x1 x2 x3 : Option Value} : mw d 84 Q 8 [x0, x1, x2, x3] (st) h = mw d 84 Q 9 [x0, x1, x2, x3] (.int (-1) :: st) h := (mw_at mj_84_8).trans (z_iconst (by decide))
theorem mj_84_9 : mc_P 84 9 = some (.if_icmp .eq 20, 3, 0, 0, 0) := by decide +kernel
theorem s_84_9 {x0 x1 x2 x3 : Option Value} {x w : Int32} : mw d 84 Q 9 [x0, x1, x2, x3] (.int w :: .int x :: st) h = mB (x = w) (mw d 84 Q) 29 12 [x0, x1, x2, x3] st h := (mw_at mj_84_9).trans (z_icmp_eq (by decide) rfl)
theorem mj_84_12 : mc_P 84 12 = some (.aload_n 0, 1, 0, 0, 0) := by decide +kernel
theorem s_84_12 {x1 x2 x3 : Option Value} {w : Value} : mw d 84 Q 12 [some w, x1, x2, x3] (st) h = mv_a w (mw d 84 Q 13 [some w, x1, x2, x3] (w :: st) h) := (mw_at mj_84_12).trans (z_aload_n rfl)
theorem mj_84_13 : mc_P 84 13 = some (.getfield 31, 3, 4, 3, 0) := by decide +kernel
theorem s_84_13 {x0 x1 x2 x3 : Option Value} {o : Nat} : mw d 84 Q 13 [x0, x1, x2, x3] (.ref o :: st) h = (mg h o 4 ∧ mw d 84 Q 16 [x0, x1, x2, x3] (va_rf (mh_r h o 3) :: st) h) := (mw_at mj_84_13).trans (z_getr (by decide) (by decide) rfl)
theorem mj_84_16 : mc_P 84 16 = some (.iload_n 2, 1, 0, 0, 0) := by decide +kernel
theorem s_84_16 {x0 x1 x3 : Option Value} {w : Value} : mw d 84 Q 16 [x0, x1, some w, x3] (st) h = mv_i w (mw d 84 Q 17 [x0, x1, some w, x3] (w :: st) h) := (mw_at mj_84_16).trans (z_iload_n rfl)
theorem mj_84_17 : mc_P 84 17 = some (.aaload, 1, 0, 0, 0) := by decide +kernel
theorem s_84_17 {x0 x1 x2 x3 : Option Value} {o : Nat} {i : Int32} : mw d 84 Q 17 [x0, x1, x2, x3] (.int i :: .ref o :: st) h = (mgr h o ∧ mx i (mh_l h o) ∧ mw d 84 Q 18 [x0, x1, x2, x3] (mrd (mh_k h o) h o i.toNatClampNeg :: st) h) := (mw_at mj_84_17).trans (z_aald)
theorem mj_84_18 : mc_P 84 18 = some (.getfield 89, 3, 9, 8, 0) := by decide +kernel
theorem s_84_18 {x0 x1 x2 x3 : Option Value} {o : Nat} : mw d 84 Q 18 [x0, x1, x2, x3] (.ref o :: st) h = (mg h o 9 ∧ mw d 84 Q 21 [x0, x1, x2, x3] (.int (mh_i h o 8) :: st) h) := (mw_at mj_84_18).trans (z_geti (by decide) (by decide) (Or.inl rfl))
theorem mj_84_21 : mc_P 84 21 = some (.iconst (-1), 1, 0, 0, 0) := by decide +kernel
theorem s_84_21 {x0 x1 x2 x3 : Option Value} : mw d 84 Q 21 [x0, x1, x2, x3] (st) h = mw d 84 Q 22 [x0, x1, x2, x3] (.int (-1) :: st) h := (mw_at mj_84_21).trans (z_iconst (by decide))
theorem mj_84_22 : mc_P 84 22 = some (.if_icmp .eq 7, 3, 0, 0, 0) := by decide +kernel
theorem s_84_22 {x0 x1 x2 x3 : Option Value} {x w : Int32} : mw d 84 Q 22 [x0, x1, x2, x3] (.int w :: .int x :: st) h = mB (x = w) (mw d 84 Q) 29 25 [x0, x1, x2, x3] st h := (mw_at mj_84_22).trans (z_icmp_eq (by decide) rfl)
theorem mj_84_25 : mc_P 84 25 = some (.iconst 1, 1, 0, 0, 0) := by decide +kernel
theorem s_84_25 {x0 x1 x2 x3 : Option Value} : mw d 84 Q 25 [x0, x1, x2, x3] (st) h = mw d 84 Q 26 [x0, x1, x2, x3] (.int 1 :: st) h := (mw_at mj_84_25).trans (z_iconst (by decide))
theorem mj_84_26 : mc_P 84 26 = some (.goto 4, 3, 0, 0, 0) := by decide +kernel
theorem s_84_26 {x0 x1 x2 x3 : Option Value} : mw d 84 Q 26 [x0, x1, x2, x3] (st) h = mw d 84 Q 30 [x0, x1, x2, x3] (st) h := (mw_at mj_84_26).trans (z_goto (by decide))
theorem mj_84_29 : mc_P 84 29 = some (.iconst 0, 1, 0, 0, 0) := by decide +kernel
theorem s_84_29 {x0 x1 x2 x3 : Option Value} : mw d 84 Q 29 [x0, x1, x2, x3] (st) h = mw d 84 Q 30 [x0, x1, x2, x3] (.int 0 :: st) h := (mw_at mj_84_29).trans (z_iconst (by decide))
theorem mj_84_30 : mc_P 84 30 = some (.istore_n 3, 1, 0, 0, 0) := by decide +kernel
theorem s_84_30 {x0 x1 x2 x3 : Option Value} {w : Int32} : mw d 84 Q 30 [x0, x1, x2, x3] (.int w :: st) h = mw d 84 Q 31 [x0, x1, mk2 x2, some (.int w)] (st) h := (mw_at mj_84_30).trans (z_istore_n (Nat.le_of_ble_eq_true rfl) (me_s1_mk (j := 2) (w := x2) rfl))
theorem mj_84_31 : mc_P 84 31 = some (.iload_n 3, 1, 0, 0, 0) := by decide +kernel
theorem s_84_31 {x0 x1 x2 : Option Value} {w : Value} : mw d 84 Q 31 [x0, x1, x2, some w] (st) h = mv_i w (mw d 84 Q 32 [x0, x1, x2, some w] (w :: st) h) := (mw_at mj_84_31).trans (z_iload_n rfl)
theorem mj_84_32 : mc_P 84 32 = some (.ifCond .eq 22, 3, 0, 0, 0) := by decide +kernel
theorem s_84_32 {x0 x1 x2 x3 : Option Value} {x : Int32} : mw d 84 Q 32 [x0, x1, x2, x3] (.int x :: st) h = mB (x = 0) (mw d 84 Q) 54 35 [x0, x1, x2, x3] st h := (mw_at mj_84_32).trans (z_if_eq (by decide) rfl)
theorem mj_84_35 : mc_P 84 35 = some (.aload_n 0, 1, 0, 0, 0) := by decide +kernel
theorem s_84_35 {x1 x2 x3 : Option Value} {w : Value} : mw d 84 Q 35 [some w, x1, x2, x3] (st) h = mv_a w (mw d 84 Q 36 [some w, x1, x2, x3] (w :: st) h) := (mw_at mj_84_35).trans (z_aload_n rfl)
theorem mj_84_36 : mc_P 84 36 = some (.getfield 35, 3, 4, 4, 0) := by decide +kernel
theorem s_84_36 {x0 x1 x2 x3 : Option Value} {o : Nat} : mw d 84 Q 36 [x0, x1, x2, x3] (.ref o :: st) h = (mg h o 4 ∧ mw d 84 Q 39 [x0, x1, x2, x3] (va_rf (mh_r h o 4) :: st) h) := (mw_at mj_84_36).trans (z_getr (by decide) (by decide) rfl)
theorem mj_84_39 : mc_P 84 39 = some (.iload_n 2, 1, 0, 0, 0) := by decide +kernel
theorem s_84_39 {x0 x1 x3 : Option Value} {w : Value} : mw d 84 Q 39 [x0, x1, some w, x3] (st) h = mv_i w (mw d 84 Q 40 [x0, x1, some w, x3] (w :: st) h) := (mw_at mj_84_39).trans (z_iload_n rfl)
theorem mj_84_40 : mc_P 84 40 = some (.iaload, 1, 0, 0, 0) := by decide +kernel
theorem s_84_40 {x0 x1 x2 x3 : Option Value} {o : Nat} {i : Int32} : mw d 84 Q 40 [x0, x1, x2, x3] (.int i :: .ref o :: st) h = (mg h o 100 ∧ mx i (mh_l h o) ∧ mw d 84 Q 41 [x0, x1, x2, x3] (.int (mh_i h o i.toNatClampNeg) :: st) h) := (mw_at mj_84_40).trans (z_iald)
theorem s_84_40x {x0 x1 x2 x3 : Option Value} {i : Int32} : mw d 84 Q 40 [x0, x1, x2, x3] (.int i :: .retAddr 2 :: st) h = (mx i 24 ∧ mw d 84 Q 41 [x0, x1, x2, x3] (.int (mx_row.getD i.toNatClampNeg 0) :: st) h) := (mw_at mj_84_40).trans (z_iaX)
theorem mj_84_41 : mc_P 84 41 = some (.aload_n 0, 1, 0, 0, 0) := by decide +kernel
theorem s_84_41 {x1 x2 x3 : Option Value} {w : Value} : mw d 84 Q 41 [some w, x1, x2, x3] (st) h = mv_a w (mw d 84 Q 42 [some w, x1, x2, x3] (w :: st) h) := (mw_at mj_84_41).trans (z_aload_n rfl)
theorem mj_84_42 : mc_P 84 42 = some (.getfield 31, 3, 4, 3, 0) := by decide +kernel
theorem s_84_42 {x0 x1 x2 x3 : Option Value} {o : Nat} : mw d 84 Q 42 [x0, x1, x2, x3] (.ref o :: st) h = (mg h o 4 ∧ mw d 84 Q 45 [x0, x1, x2, x3] (va_rf (mh_r h o 3) :: st) h) := (mw_at mj_84_42).trans (z_getr (by decide) (by decide) rfl)
theorem mj_84_45 : mc_P 84 45 = some (.iload_n 2, 1, 0, 0, 0) := by decide +kernel
theorem s_84_45 {x0 x1 x3 : Option Value} {w : Value} : mw d 84 Q 45 [x0, x1, some w, x3] (st) h = mv_i w (mw d 84 Q 46 [x0, x1, some w, x3] (w :: st) h) := (mw_at mj_84_45).trans (z_iload_n rfl)
theorem mj_84_46 : mc_P 84 46 = some (.aaload, 1, 0, 0, 0) := by decide +kernel
theorem s_84_46 {x0 x1 x2 x3 : Option Value} {o : Nat} {i : Int32} : mw d 84 Q 46 [x0, x1, x2, x3] (.int i :: .ref o :: st) h = (mgr h o ∧ mx i (mh_l h o) ∧ mw d 84 Q 47 [x0, x1, x2, x3] (mrd (mh_k h o) h o i.toNatClampNeg :: st) h) := (mw_at mj_84_46).trans (z_aald)
theorem mj_84_47 : mc_P 84 47 = some (.getfield 89, 3, 9, 8, 0) := by decide +kernel
theorem s_84_47 {x0 x1 x2 x3 : Option Value} {o : Nat} : mw d 84 Q 47 [x0, x1, x2, x3] (.ref o :: st) h = (mg h o 9 ∧ mw d 84 Q 50 [x0, x1, x2, x3] (.int (mh_i h o 8) :: st) h) := (mw_at mj_84_47).trans (z_geti (by decide) (by decide) (Or.inl rfl))
theorem mj_84_50 : mc_P 84 50 = some (.iadd, 1, 0, 0, 0) := by decide +kernel
theorem s_84_50 {x0 x1 x2 x3 : Option Value} {x w : Int32} : mw d 84 Q 50 [x0, x1, x2, x3] (.int w :: .int x :: st) h = mw d 84 Q 51 [x0, x1, x2, x3] (.int (x + w) :: st) h := (mw_at mj_84_50).trans (z_iadd)
theorem mj_84_51 : mc_P 84 51 = some (.goto 4, 3, 0, 0, 0) := by decide +kernel
theorem s_84_51 {x0 x1 x2 x3 : Option Value} : mw d 84 Q 51 [x0, x1, x2, x3] (st) h = mw d 84 Q 55 [x0, x1, x2, x3] (st) h := (mw_at mj_84_51).trans (z_goto (by decide))
theorem mj_84_54 : mc_P 84 54 = some (.iconst (-1), 1, 0, 0, 0) := by decide +kernel
theorem s_84_54 {x0 x1 x2 x3 : Option Value} : mw d 84 Q 54 [x0, x1, x2, x3] (st) h = mw d 84 Q 55 [x0, x1, x2, x3] (.int (-1) :: st) h := (mw_at mj_84_54).trans (z_iconst (by decide))
theorem mj_84_55 : mc_P 84 55 = some (.ireturn, 1, 0, 0, 0) := by decide +kernel
theorem s_84_55 {x0 x1 x2 x3 : Option Value} {x : Int32} : mw d 84 Q 55 [x0, x1, x2, x3] ([.int x]) h = (Q (some (.int x)) h) := (mw_at mj_84_55).trans (z_iret)
theorem e_84 {a0 : Nat} {a1 : Int32} : mcall d 84 [.ref a0, .int a1] h Q = mw d 84 Q 0 [some (.ref a0), some (.int a1), none, none] [] h := by
  show mw d 84 Q 0 (me_en (mc_nl 84) _) [] h = _
  rw [nl_84]; rfl

/-! InvariantDesk$Statement.asks()Z -/
theorem mj_165_0 : mc_P 165 0 = some (.aload_n 0, 1, 0, 0, 0) := by decide +kernel
theorem s_165_0 {w : Value} : mw d 165 Q 0 [some w] (st) h = mv_a w (mw d 165 Q 1 [some w] (w :: st) h) := (mw_at mj_165_0).trans (z_aload_n rfl)
theorem mj_165_1 : mc_P 165 1 = some (.getfield 15, 3, 9, 0, 0) := by decide +kernel
theorem s_165_1 {x0 : Option Value} {o : Nat} : mw d 165 Q 1 [x0] (.ref o :: st) h = (mg h o 9 ∧ mw d 165 Q 4 [x0] (.int (mh_i h o 0) :: st) h) := (mw_at mj_165_1).trans (z_geti (by decide) (by decide) (Or.inl rfl))
theorem mj_165_4 : mc_P 165 4 = some (.iconst 5, 1, 0, 0, 0) := by decide +kernel
theorem s_165_4 {x0 : Option Value} : mw d 165 Q 4 [x0] (st) h = mw d 165 Q 5 [x0] (.int 5 :: st) h := (mw_at mj_165_4).trans (z_iconst (by decide))
theorem mj_165_5 : mc_P 165 5 = some (.if_icmp .eq 21, 3, 0, 0, 0) := by decide +kernel
theorem s_165_5 {x0 : Option Value} {x w : Int32} : mw d 165 Q 5 [x0] (.int w :: .int x :: st) h = mB (x = w) (mw d 165 Q) 26 8 [x0] st h := (mw_at mj_165_5).trans (z_icmp_eq (by decide) rfl)
theorem mj_165_8 : mc_P 165 8 = some (.aload_n 0, 1, 0, 0, 0) := by decide +kernel
theorem s_165_8 {w : Value} : mw d 165 Q 8 [some w] (st) h = mv_a w (mw d 165 Q 9 [some w] (w :: st) h) := (mw_at mj_165_8).trans (z_aload_n rfl)
theorem mj_165_9 : mc_P 165 9 = some (.getfield 15, 3, 9, 0, 0) := by decide +kernel
theorem s_165_9 {x0 : Option Value} {o : Nat} : mw d 165 Q 9 [x0] (.ref o :: st) h = (mg h o 9 ∧ mw d 165 Q 12 [x0] (.int (mh_i h o 0) :: st) h) := (mw_at mj_165_9).trans (z_geti (by decide) (by decide) (Or.inl rfl))
theorem mj_165_12 : mc_P 165 12 = some (.bipush 6, 2, 0, 0, 0) := by decide +kernel
theorem s_165_12 {x0 : Option Value} : mw d 165 Q 12 [x0] (st) h = mw d 165 Q 14 [x0] (.int 6 :: st) h := (mw_at mj_165_12).trans (z_bipush (by decide))
theorem mj_165_14 : mc_P 165 14 = some (.if_icmp .eq 12, 3, 0, 0, 0) := by decide +kernel
theorem s_165_14 {x0 : Option Value} {x w : Int32} : mw d 165 Q 14 [x0] (.int w :: .int x :: st) h = mB (x = w) (mw d 165 Q) 26 17 [x0] st h := (mw_at mj_165_14).trans (z_icmp_eq (by decide) rfl)
theorem mj_165_17 : mc_P 165 17 = some (.aload_n 0, 1, 0, 0, 0) := by decide +kernel
theorem s_165_17 {w : Value} : mw d 165 Q 17 [some w] (st) h = mv_a w (mw d 165 Q 18 [some w] (w :: st) h) := (mw_at mj_165_17).trans (z_aload_n rfl)
theorem mj_165_18 : mc_P 165 18 = some (.getfield 15, 3, 9, 0, 0) := by decide +kernel
theorem s_165_18 {x0 : Option Value} {o : Nat} : mw d 165 Q 18 [x0] (.ref o :: st) h = (mg h o 9 ∧ mw d 165 Q 21 [x0] (.int (mh_i h o 0) :: st) h) := (mw_at mj_165_18).trans (z_geti (by decide) (by decide) (Or.inl rfl))
theorem mj_165_21 : mc_P 165 21 = some (.bipush 7, 2, 0, 0, 0) := by decide +kernel
theorem s_165_21 {x0 : Option Value} : mw d 165 Q 21 [x0] (st) h = mw d 165 Q 23 [x0] (.int 7 :: st) h := (mw_at mj_165_21).trans (z_bipush (by decide))
theorem mj_165_23 : mc_P 165 23 = some (.if_icmp .ne 7, 3, 0, 0, 0) := by decide +kernel
theorem s_165_23 {x0 : Option Value} {x w : Int32} : mw d 165 Q 23 [x0] (.int w :: .int x :: st) h = mB (¬ x = w) (mw d 165 Q) 30 26 [x0] st h := (mw_at mj_165_23).trans (z_icmp_ne (by decide) rfl)
theorem mj_165_26 : mc_P 165 26 = some (.iconst 1, 1, 0, 0, 0) := by decide +kernel
theorem s_165_26 {x0 : Option Value} : mw d 165 Q 26 [x0] (st) h = mw d 165 Q 27 [x0] (.int 1 :: st) h := (mw_at mj_165_26).trans (z_iconst (by decide))
theorem mj_165_27 : mc_P 165 27 = some (.goto 4, 3, 0, 0, 0) := by decide +kernel
theorem s_165_27 {x0 : Option Value} : mw d 165 Q 27 [x0] (st) h = mw d 165 Q 31 [x0] (st) h := (mw_at mj_165_27).trans (z_goto (by decide))
theorem mj_165_30 : mc_P 165 30 = some (.iconst 0, 1, 0, 0, 0) := by decide +kernel
theorem s_165_30 {x0 : Option Value} : mw d 165 Q 30 [x0] (st) h = mw d 165 Q 31 [x0] (.int 0 :: st) h := (mw_at mj_165_30).trans (z_iconst (by decide))
theorem mj_165_31 : mc_P 165 31 = some (.ireturn, 1, 0, 3, 0) := by decide +kernel
theorem s_165_31 {x0 : Option Value} {x : Int32} : mw d 165 Q 31 [x0] ([.int x]) h = ((x = 0 ∨ x = 1) ∧ Q (some (.int x)) h) := (mw_at mj_165_31).trans (z_zret)
theorem e_165 {a0 : Nat} : mcall d 165 [.ref a0] h Q = mw d 165 Q 0 [some (.ref a0)] [] h := by
  show mw d 165 Q 0 (me_en (mc_nl 165) _) [] h = _
  rw [nl_165]; rfl

/-! InvariantDesk$Statement.forks()Z -/
theorem mj_166_0 : mc_P 166 0 = some (.aload_n 0, 1, 0, 0, 0) := by decide +kernel
theorem s_166_0 {w : Value} : mw d 166 Q 0 [some w] (st) h = mv_a w (mw d 166 Q 1 [some w] (w :: st) h) := (mw_at mj_166_0).trans (z_aload_n rfl)
theorem mj_166_1 : mc_P 166 1 = some (.getfield 15, 3, 9, 0, 0) := by decide +kernel
theorem s_166_1 {x0 : Option Value} {o : Nat} : mw d 166 Q 1 [x0] (.ref o :: st) h = (mg h o 9 ∧ mw d 166 Q 4 [x0] (.int (mh_i h o 0) :: st) h) := (mw_at mj_166_1).trans (z_geti (by decide) (by decide) (Or.inl rfl))
theorem mj_166_4 : mc_P 166 4 = some (.iconst 5, 1, 0, 0, 0) := by decide +kernel
theorem s_166_4 {x0 : Option Value} : mw d 166 Q 4 [x0] (st) h = mw d 166 Q 5 [x0] (.int 5 :: st) h := (mw_at mj_166_4).trans (z_iconst (by decide))
theorem mj_166_5 : mc_P 166 5 = some (.if_icmp .eq 12, 3, 0, 0, 0) := by decide +kernel
theorem s_166_5 {x0 : Option Value} {x w : Int32} : mw d 166 Q 5 [x0] (.int w :: .int x :: st) h = mB (x = w) (mw d 166 Q) 17 8 [x0] st h := (mw_at mj_166_5).trans (z_icmp_eq (by decide) rfl)
theorem mj_166_8 : mc_P 166 8 = some (.aload_n 0, 1, 0, 0, 0) := by decide +kernel
theorem s_166_8 {w : Value} : mw d 166 Q 8 [some w] (st) h = mv_a w (mw d 166 Q 9 [some w] (w :: st) h) := (mw_at mj_166_8).trans (z_aload_n rfl)
theorem mj_166_9 : mc_P 166 9 = some (.getfield 15, 3, 9, 0, 0) := by decide +kernel
theorem s_166_9 {x0 : Option Value} {o : Nat} : mw d 166 Q 9 [x0] (.ref o :: st) h = (mg h o 9 ∧ mw d 166 Q 12 [x0] (.int (mh_i h o 0) :: st) h) := (mw_at mj_166_9).trans (z_geti (by decide) (by decide) (Or.inl rfl))
theorem mj_166_12 : mc_P 166 12 = some (.bipush 6, 2, 0, 0, 0) := by decide +kernel
theorem s_166_12 {x0 : Option Value} : mw d 166 Q 12 [x0] (st) h = mw d 166 Q 14 [x0] (.int 6 :: st) h := (mw_at mj_166_12).trans (z_bipush (by decide))
theorem mj_166_14 : mc_P 166 14 = some (.if_icmp .ne 7, 3, 0, 0, 0) := by decide +kernel
theorem s_166_14 {x0 : Option Value} {x w : Int32} : mw d 166 Q 14 [x0] (.int w :: .int x :: st) h = mB (¬ x = w) (mw d 166 Q) 21 17 [x0] st h := (mw_at mj_166_14).trans (z_icmp_ne (by decide) rfl)
theorem mj_166_17 : mc_P 166 17 = some (.iconst 1, 1, 0, 0, 0) := by decide +kernel
theorem s_166_17 {x0 : Option Value} : mw d 166 Q 17 [x0] (st) h = mw d 166 Q 18 [x0] (.int 1 :: st) h := (mw_at mj_166_17).trans (z_iconst (by decide))
theorem mj_166_18 : mc_P 166 18 = some (.goto 4, 3, 0, 0, 0) := by decide +kernel
theorem s_166_18 {x0 : Option Value} : mw d 166 Q 18 [x0] (st) h = mw d 166 Q 22 [x0] (st) h := (mw_at mj_166_18).trans (z_goto (by decide))
theorem mj_166_21 : mc_P 166 21 = some (.iconst 0, 1, 0, 0, 0) := by decide +kernel
theorem s_166_21 {x0 : Option Value} : mw d 166 Q 21 [x0] (st) h = mw d 166 Q 22 [x0] (.int 0 :: st) h := (mw_at mj_166_21).trans (z_iconst (by decide))
theorem mj_166_22 : mc_P 166 22 = some (.ireturn, 1, 0, 3, 0) := by decide +kernel
theorem s_166_22 {x0 : Option Value} {x : Int32} : mw d 166 Q 22 [x0] ([.int x]) h = ((x = 0 ∨ x = 1) ∧ Q (some (.int x)) h) := (mw_at mj_166_22).trans (z_zret)
theorem e_166 {a0 : Nat} : mcall d 166 [.ref a0] h Q = mw d 166 Q 0 [some (.ref a0)] [] h := by
  show mw d 166 Q 0 (me_en (mc_nl 166) _) [] h = _
  rw [nl_166]; rfl

end SR
