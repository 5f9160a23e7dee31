/-! rules of methods, by program (wip/whole/srule.py) -/
section SR
variable {d : Nat} {Q : Option Value → mh_H → Prop} {st : List Value} {h : mh_H}
/-! InvariantDeskModel.point(II)I -/
theorem mj_352_0 : mc_P 352 0 = some (.iload_n 1, 1, 0, 0, 0) := by decide +kernel
theorem s_352_0 {x0 x2 x3 x4 : Option Value} {w : Value} : mw d 352 Q 0 [x0, some w, x2, x3, x4] (st) h = mv_i w (mw d 352 Q 1 [x0, some w, x2, x3, x4] (w :: st) h) := (mw_at mj_352_0).trans (z_iload_n rfl)
theorem mj_352_1 : mc_P 352 1 = some (.ifCond .lt 21, 3, 0, 0, 0) := by decide +kernel
theorem s_352_1 {x0 x1 x2 x3 x4 : Option Value} {x : Int32} : mw d 352 Q 1 [x0, x1, x2, x3, x4] (.int x :: st) h = mB (x < 0) (mw d 352 Q) 22 4 [x0, x1, x2, x3, x4] st h := (mw_at mj_352_1).trans (z_if_lt (by decide) rfl)
theorem mj_352_4 : mc_P 352 4 = some (.iload_n 1, 1, 0, 0, 0) := by decide +kernel
theorem s_352_4 {x0 x2 x3 x4 : Option Value} {w : Value} : mw d 352 Q 4 [x0, some w, x2, x3, x4] (st) h = mv_i w (mw d 352 Q 5 [x0, some w, x2, x3, x4] (w :: st) h) := (mw_at mj_352_4).trans (z_iload_n rfl)
theorem mj_352_5 : mc_P 352 5 = some (.aload_n 0, 1, 0, 0, 0) := by decide +kernel
theorem s_352_5 {x1 x2 x3 x4 : Option Value} {w : Value} : mw d 352 Q 5 [some w, x1, x2, x3, x4] (st) h = mv_a w (mw d 352 Q 6 [some w, x1, x2, x3, x4] (w :: st) h) := (mw_at mj_352_5).trans (z_aload_n rfl)
theorem mj_352_6 : mc_P 352 6 = some (.getfield 176, 3, 14, 33, 0) := by decide +kernel
theorem s_352_6 {x0 x1 x2 x3 x4 : Option Value} {o : Nat} : mw d 352 Q 6 [x0, x1, x2, x3, x4] (.ref o :: st) h = (mg h o 14 ∧ mw d 352 Q 9 [x0, x1, x2, x3, x4] (.int (mh_i h o 33) :: st) h) := (mw_at mj_352_6).trans (z_geti (by decide) (by decide) (Or.inl rfl))
theorem mj_352_9 : mc_P 352 9 = some (.if_icmp .ge 13, 3, 0, 0, 0) := by decide +kernel
theorem s_352_9 {x0 x1 x2 x3 x4 : Option Value} {x w : Int32} : mw d 352 Q 9 [x0, x1, x2, x3, x4] (.int w :: .int x :: st) h = mB (w ≤ x) (mw d 352 Q) 22 12 [x0, x1, x2, x3, x4] st h := (mw_at mj_352_9).trans (z_icmp_ge (by decide) rfl)
theorem mj_352_12 : mc_P 352 12 = some (.iload_n 2, 1, 0, 0, 0) := by decide +kernel
theorem s_352_12 {x0 x1 x3 x4 : Option Value} {w : Value} : mw d 352 Q 12 [x0, x1, some w, x3, x4] (st) h = mv_i w (mw d 352 Q 13 [x0, x1, some w, x3, x4] (w :: st) h) := (mw_at mj_352_12).trans (z_iload_n rfl)
theorem mj_352_13 : mc_P 352 13 = some (.ifCond .lt 9, 3, 0, 0, 0) := by decide +kernel
theorem s_352_13 {x0 x1 x2 x3 x4 : Option Value} {x : Int32} : mw d 352 Q 13 [x0, x1, x2, x3, x4] (.int x :: st) h = mB (x < 0) (mw d 352 Q) 22 16 [x0, x1, x2, x3, x4] st h := (mw_at mj_352_13).trans (z_if_lt (by decide) rfl)
theorem mj_352_16 : mc_P 352 16 = some (.iload_n 2, 1, 0, 0, 0) := by decide +kernel
theorem s_352_16 {x0 x1 x3 x4 : Option Value} {w : Value} : mw d 352 Q 16 [x0, x1, some w, x3, x4] (st) h = mv_i w (mw d 352 Q 17 [x0, x1, some w, x3, x4] (w :: st) h) := (mw_at mj_352_16).trans (z_iload_n rfl)
theorem mj_352_17 : mc_P 352 17 = some (.bipush 6, 2, 0, 0, 0) := by decide +kernel
theorem s_352_17 {x0 x1 x2 x3 x4 : Option Value} : mw d 352 Q 17 [x0, x1, x2, x3, x4] (st) h = mw d 352 Q 19 [x0, x1, x2, x3, x4] (.int 6 :: st) h := (mw_at mj_352_17).trans (z_bipush (by decide))
theorem mj_352_19 : mc_P 352 19 = some (.if_icmp .le 5, 3, 0, 0, 0) := by decide +kernel
theorem s_352_19 {x0 x1 x2 x3 x4 : Option Value} {x w : Int32} : mw d 352 Q 19 [x0, x1, x2, x3, x4] (.int w :: .int x :: st) h = mB (x ≤ w) (mw d 352 Q) 24 22 [x0, x1, x2, x3, x4] st h := (mw_at mj_352_19).trans (z_icmp_le (by decide) rfl)
theorem mj_352_22 : mc_P 352 22 = some (.iconst (-1), 1, 0, 0, 0) := by decide +kernel
theorem s_352_22 {x0 x1 x2 x3 x4 : Option Value} : mw d 352 Q 22 [x0, x1, x2, x3, x4] (st) h = mw d 352 Q 23 [x0, x1, x2, x3, x4] (.int (-1) :: st) h := (mw_at mj_352_22).trans (z_iconst (by decide))
theorem mj_352_23 : mc_P 352 23 = some (.ireturn, 1, 0, 0, 0) := by decide +kernel
theorem s_352_23 {x0 x1 x2 x3 x4 : Option Value} {x : Int32} : mw d 352 Q 23 [x0, x1, x2, x3, x4] ([.int x]) h = (Q (some (.int x)) h) := (mw_at mj_352_23).trans (z_iret)
theorem mj_352_24 : mc_P 352 24 = some (.aload_n 0, 1, 0, 0, 0) := by decide +kernel
theorem s_352_24 {x1 x2 x3 x4 : Option Value} {w : Value} : mw d 352 Q 24 [some w, x1, x2, x3, x4] (st) h = mv_a w (mw d 352 Q 25 [some w, x1, x2, x3, x4] (w :: st) h) := (mw_at mj_352_24).trans (z_aload_n rfl)
theorem mj_352_25 : mc_P 352 25 = some (.getfield 70, 3, 14, 28, 0) := by decide +kernel
theorem s_352_25 {x0 x1 x2 x3 x4 : Option Value} {o : Nat} : mw d 352 Q 25 [x0, x1, x2, x3, x4] (.ref o :: st) h = (mg h o 14 ∧ mw d 352 Q 28 [x0, x1, x2, x3, x4] (va_rf (mh_r h o 28) :: st) h) := (mw_at mj_352_25).trans (z_getr (by decide) (by decide) rfl)
theorem mj_352_28 : mc_P 352 28 = some (.iload_n 1, 1, 0, 0, 0) := by decide +kernel
theorem s_352_28 {x0 x2 x3 x4 : Option Value} {w : Value} : mw d 352 Q 28 [x0, some w, x2, x3, x4] (st) h = mv_i w (mw d 352 Q 29 [x0, some w, x2, x3, x4] (w :: st) h) := (mw_at mj_352_28).trans (z_iload_n rfl)
theorem mj_352_29 : mc_P 352 29 = some (.iaload, 1, 0, 0, 0) := by decide +kernel
theorem s_352_29 {x0 x1 x2 x3 x4 : Option Value} {o : Nat} {i : Int32} : mw d 352 Q 29 [x0, x1, x2, x3, x4] (.int i :: .ref o :: st) h = (mg h o 100 ∧ mx i (mh_l h o) ∧ mw d 352 Q 30 [x0, x1, x2, x3, x4] (.int (mh_i h o i.toNatClampNeg) :: st) h) := (mw_at mj_352_29).trans (z_iald)
theorem s_352_29x {x0 x1 x2 x3 x4 : Option Value} {i : Int32} : mw d 352 Q 29 [x0, x1, x2, x3, x4] (.int i :: .retAddr 2 :: st) h = (mx i 24 ∧ mw d 352 Q 30 [x0, x1, x2, x3, x4] (.int (mx_row.getD i.toNatClampNeg 0) :: st) h) := (mw_at mj_352_29).trans (z_iaX)
theorem mj_352_30 : mc_P 352 30 = some (.istore_n 3, 1, 0, 0, 0) := by decide +kernel
theorem s_352_30 {x0 x1 x2 x3 x4 : Option Value} {w : Int32} : mw d 352 Q 30 [x0, x1, x2, x3, x4] (.int w :: st) h = mw d 352 Q 31 [x0, x1, mk2 x2, some (.int w), x4] (st) h := (mw_at mj_352_30).trans (z_istore_n (Nat.le_of_ble_eq_true rfl) (me_s1_mk (j := 2) (w := x2) rfl))
theorem mj_352_31 : mc_P 352 31 = some (.iload_n 2, 1, 0, 0, 0) := by decide +kernel
theorem s_352_31 {x0 x1 x3 x4 : Option Value} {w : Value} : mw d 352 Q 31 [x0, x1, some w, x3, x4] (st) h = mv_i w (mw d 352 Q 32 [x0, x1, some w, x3, x4] (w :: st) h) := (mw_at mj_352_31).trans (z_iload_n rfl)
theorem mj_352_32 : mc_P 352 32 = some (.ifCond .ne 44, 3, 0, 0, 0) := by decide +kernel
theorem s_352_32 {x0 x1 x2 x3 x4 : Option Value} {x : Int32} : mw d 352 Q 32 [x0, x1, x2, x3, x4] (.int x :: st) h = mB (¬ x = 0) (mw d 352 Q) 76 35 [x0, x1, x2, x3, x4] st h := (mw_at mj_352_32).trans (z_if_ne (by decide) rfl)
theorem mj_352_35 : mc_P 352 35 = some (.iload_n 3, 1, 0, 0, 0) := by decide +kernel
theorem s_352_35 {x0 x1 x2 x4 : Option Value} {w : Value} : mw d 352 Q 35 [x0, x1, x2, some w, x4] (st) h = mv_i w (mw d 352 Q 36 [x0, x1, x2, some w, x4] (w :: st) h) := (mw_at mj_352_35).trans (z_iload_n rfl)
theorem mj_352_36 : mc_P 352 36 = some (.iconst (-1), 1, 0, 0, 0) := by decide +kernel
theorem s_352_36 {x0 x1 x2 x3 x4 : Option Value} : mw d 352 Q 36 [x0, x1, x2, x3, x4] (st) h = mw d 352 Q 37 [x0, x1, x2, x3, x4] (.int (-1) :: st) h := (mw_at mj_352_36).trans (z_iconst (by decide))
theorem mj_352_37 : mc_P 352 37 = some (.if_icmp .ne 7, 3, 0, 0, 0) := by decide +kernel
theorem s_352_37 {x0 x1 x2 x3 x4 : Option Value} {x w : Int32} : mw d 352 Q 37 [x0, x1, x2, x3, x4] (.int w :: .int x :: st) h = mB (¬ x = w) (mw d 352 Q) 44 40 [x0, x1, x2, x3, x4] st h := (mw_at mj_352_37).trans (z_icmp_ne (by decide) rfl)
theorem mj_352_40 : mc_P 352 40 = some (.iconst 0, 1, 0, 0, 0) := by decide +kernel
theorem s_352_40 {x0 x1 x2 x3 x4 : Option Value} : mw d 352 Q 40 [x0, x1, x2, x3, x4] (st) h = mw d 352 Q 41 [x0, x1, x2, x3, x4] (.int 0 :: st) h := (mw_at mj_352_40).trans (z_iconst (by decide))
theorem mj_352_41 : mc_P 352 41 = some (.goto 9, 3, 0, 0, 0) := by decide +kernel
theorem s_352_41 {x0 x1 x2 x3 x4 : Option Value} : mw d 352 Q 41 [x0, x1, x2, x3, x4] (st) h = mw d 352 Q 50 [x0, x1, x2, x3, x4] (st) h := (mw_at mj_352_41).trans (z_goto (by decide))
theorem mj_352_44 : mc_P 352 44 = some (.aload_n 0, 1, 0, 0, 0) := by decide +kernel
theorem s_352_44 {x1 x2 x3 x4 : Option Value} {w : Value} : mw d 352 Q 44 [some w, x1, x2, x3, x4] (st) h = mv_a w (mw d 352 Q 45 [some w, x1, x2, x3, x4] (w :: st) h) := (mw_at mj_352_44).trans (z_aload_n rfl)
theorem mj_352_45 : mc_P 352 45 = some (.getfield 48, 3, 14, 19, 0) := by decide +kernel
theorem s_352_45 {x0 x1 x2 x3 x4 : Option Value} {o : Nat} : mw d 352 Q 45 [x0, x1, x2, x3, x4] (.ref o :: st) h = (mg h o 14 ∧ mw d 352 Q 48 [x0, x1, x2, x3, x4] (va_rf (mh_r h o 19) :: st) h) := (mw_at mj_352_45).trans (z_getr (by decide) (by decide) rfl)
theorem mj_352_48 : mc_P 352 48 = some (.iload_n 3, 1, 0, 0, 0) := by decide +kernel
theorem s_352_48 {x0 x1 x2 x4 : Option Value} {w : Value} : mw d 352 Q 48 [x0, x1, x2, some w, x4] (st) h = mv_i w (mw d 352 Q 49 [x0, x1, x2, some w, x4] (w :: st) h) := (mw_at mj_352_48).trans (z_iload_n rfl)
theorem mj_352_49 : mc_P 352 49 = some (.baload, 1, 0, 0, 0) := by decide +kernel
theorem s_352_49 {x0 x1 x2 x3 x4 : Option Value} {o : Nat} {i : Int32} : mw d 352 Q 49 [x0, x1, x2, x3, x4] (.int i :: .ref o :: st) h = (mgb h o ∧ mx i (mh_l h o) ∧ mw d 352 Q 50 [x0, x1, x2, x3, x4] (.int (mh_i h o i.toNatClampNeg) :: st) h) := (mw_at mj_352_49).trans (z_bald)
theorem mj_352_50 : mc_P 352 50 = some (.istore 4, 2, 0, 0, 0) := by decide +kernel
theorem s_352_50 {x0 x1 x2 x3 x4 : Option Value} {w : Int32} : mw d 352 Q 50 [x0, x1, x2, x3, x4] (.int w :: st) h = mw d 352 Q 52 [x0, x1, x2, mk2 x3, some (.int w)] (st) h := (mw_at mj_352_50).trans (z_istore (Nat.le_of_ble_eq_true rfl) (me_s1_mk (j := 3) (w := x3) rfl))
theorem mj_352_52 : mc_P 352 52 = some (.iload 4, 2, 0, 0, 0) := by decide +kernel
theorem s_352_52 {x0 x1 x2 x3 : Option Value} {w : Value} : mw d 352 Q 52 [x0, x1, x2, x3, some w] (st) h = mv_i w (mw d 352 Q 54 [x0, x1, x2, x3, some w] (w :: st) h) := (mw_at mj_352_52).trans (z_iload rfl)
theorem mj_352_54 : mc_P 352 54 = some (.ifCond .ne 7, 3, 0, 0, 0) := by decide +kernel
theorem s_352_54 {x0 x1 x2 x3 x4 : Option Value} {x : Int32} : mw d 352 Q 54 [x0, x1, x2, x3, x4] (.int x :: st) h = mB (¬ x = 0) (mw d 352 Q) 61 57 [x0, x1, x2, x3, x4] st h := (mw_at mj_352_54).trans (z_if_ne (by decide) rfl)
theorem mj_352_57 : mc_P 352 57 = some (.iconst 0, 1, 0, 0, 0) := by decide +kernel
theorem s_352_57 {x0 x1 x2 x3 x4 : Option Value} : mw d 352 Q 57 [x0, x1, x2, x3, x4] (st) h = mw d 352 Q 58 [x0, x1, x2, x3, x4] (.int 0 :: st) h := (mw_at mj_352_57).trans (z_iconst (by decide))
theorem mj_352_58 : mc_P 352 58 = some (.goto 17, 3, 0, 0, 0) := by decide +kernel
theorem s_352_58 {x0 x1 x2 x3 x4 : Option Value} : mw d 352 Q 58 [x0, x1, x2, x3, x4] (st) h = mw d 352 Q 75 [x0, x1, x2, x3, x4] (st) h := (mw_at mj_352_58).trans (z_goto (by decide))
theorem mj_352_61 : mc_P 352 61 = some (.iload 4, 2, 0, 0, 0) := by decide +kernel
theorem s_352_61 {x0 x1 x2 x3 : Option Value} {w : Value} : mw d 352 Q 61 [x0, x1, x2, x3, some w] (st) h = mv_i w (mw d 352 Q 63 [x0, x1, x2, x3, some w] (w :: st) h) := (mw_at mj_352_61).trans (z_iload rfl)
theorem mj_352_63 : mc_P 352 63 = some (.iconst 5, 1, 0, 0, 0) := by decide +kernel
theorem s_352_63 {x0 x1 x2 x3 x4 : Option Value} : mw d 352 Q 63 [x0, x1, x2, x3, x4] (st) h = mw d 352 Q 64 [x0, x1, x2, x3, x4] (.int 5 :: st) h := (mw_at mj_352_63).trans (z_iconst (by decide))
theorem mj_352_64 : mc_P 352 64 = some (.if_icmp .ge 7, 3, 0, 0, 0) := by decide +kernel
theorem s_352_64 {x0 x1 x2 x3 x4 : Option Value} {x w : Int32} : mw d 352 Q 64 [x0, x1, x2, x3, x4] (.int w :: .int x :: st) h = mB (w ≤ x) (mw d 352 Q) 71 67 [x0, x1, x2, x3, x4] st h := (mw_at mj_352_64).trans (z_icmp_ge (by decide) rfl)
theorem mj_352_67 : mc_P 352 67 = some (.iconst 1, 1, 0, 0, 0) := by decide +kernel
theorem s_352_67 {x0 x1 x2 x3 x4 : Option Value} : mw d 352 Q 67 [x0, x1, x2, x3, x4] (st) h = mw d 352 Q 68 [x0, x1, x2, x3, x4] (.int 1 :: st) h := (mw_at mj_352_67).trans (z_iconst (by decide))
theorem mj_352_68 : mc_P 352 68 = some (.goto 7, 3, 0, 0, 0) := by decide +kernel
theorem s_352_68 {x0 x1 x2 x3 x4 : Option Value} : mw d 352 Q 68 [x0, x1, x2, x3, x4] (st) h = mw d 352 Q 75 [x0, x1, x2, x3, x4] (st) h := (mw_at mj_352_68).trans (z_goto (by decide))
theorem mj_352_71 : mc_P 352 71 = some (.iload 4, 2, 0, 0, 0) := by decide +kernel
theorem s_352_71 {x0 x1 x2 x3 : Option Value} {w : Value} : mw d 352 Q 71 [x0, x1, x2, x3, some w] (st) h = mv_i w (mw d 352 Q 73 [x0, x1, x2, x3, some w] (w :: st) h) := (mw_at mj_352_71).trans (z_iload rfl)
theorem mj_352_73 : mc_P 352 73 = some (.iconst 3, 1, 0, 0, 0) := by decide +kernel
theorem s_352_73 {x0 x1 x2 x3 x4 : Option Value} : mw d 352 Q 73 [x0, x1, x2, x3, x4] (st) h = mw d 352 Q 74 [x0, x1, x2, x3, x4] (.int 3 :: st) h := (mw_at mj_352_73).trans (z_iconst (by decide))
theorem mj_352_74 : mc_P 352 74 = some (.isub, 1, 0, 0, 0) := by decide +kernel
theorem s_352_74 {x0 x1 x2 x3 x4 : Option Value} {x w : Int32} : mw d 352 Q 74 [x0, x1, x2, x3, x4] (.int w :: .int x :: st) h = mw d 352 Q 75 [x0, x1, x2, x3, x4] (.int (x - w) :: st) h := (mw_at mj_352_74).trans (z_isub)
theorem mj_352_75 : mc_P 352 75 = some (.ireturn, 1, 0, 0, 0) := by decide +kernel
theorem s_352_75 {x0 x1 x2 x3 x4 : Option Value} {x : Int32} : mw d 352 Q 75 [x0, x1, x2, x3, x4] ([.int x]) h = (Q (some (.int x)) h) := (mw_at mj_352_75).trans (z_iret)
theorem mj_352_76 : mc_P 352 76 = some (.iload_n 2, 1, 0, 0, 0) := by decide +kernel
theorem s_352_76 {x0 x1 x3 x4 : Option Value} {w : Value} : mw d 352 Q 76 [x0, x1, some w, x3, x4] (st) h = mv_i w (mw d 352 Q 77 [x0, x1, some w, x3, x4] (w :: st) h) := (mw_at mj_352_76).trans (z_iload_n rfl)
theorem mj_352_77 : mc_P 352 77 = some (.iconst 4, 1, 0, 0, 0) := by decide +kernel
theorem s_352_77 {x0 x1 x2 x3 x4 : Option Value} : mw d 352 Q 77 [x0, x1, x2, x3, x4] (st) h = mw d 352 Q 78 [x0, x1, x2, x3, x4] (.int 4 :: st) h := (mw_at mj_352_77).trans (z_iconst (by decide))
theorem mj_352_78 : mc_P 352 78 = some (.if_icmp .le 41, 3, 0, 0, 0) := by decide +kernel
theorem s_352_78 {x0 x1 x2 x3 x4 : Option Value} {x w : Int32} : mw d 352 Q 78 [x0, x1, x2, x3, x4] (.int w :: .int x :: st) h = mB (x ≤ w) (mw d 352 Q) 119 81 [x0, x1, x2, x3, x4] st h := (mw_at mj_352_78).trans (z_icmp_le (by decide) rfl)
theorem mj_352_81 : mc_P 352 81 = some (.iload_n 2, 1, 0, 0, 0) := by decide +kernel
theorem s_352_81 {x0 x1 x3 x4 : Option Value} {w : Value} : mw d 352 Q 81 [x0, x1, some w, x3, x4] (st) h = mv_i w (mw d 352 Q 82 [x0, x1, some w, x3, x4] (w :: st) h) := (mw_at mj_352_81).trans (z_iload_n rfl)
theorem mj_352_82 : mc_P 352 82 = some (.iconst 5, 1, 0, 0, 0) := by decide +kernel
theorem s_352_82 {x0 x1 x2 x3 x4 : Option Value} : mw d 352 Q 82 [x0, x1, x2, x3, x4] (st) h = mw d 352 Q 83 [x0, x1, x2, x3, x4] (.int 5 :: st) h := (mw_at mj_352_82).trans (z_iconst (by decide))
theorem mj_352_83 : mc_P 352 83 = some (.if_icmp .ne 15, 3, 0, 0, 0) := by decide +kernel
theorem s_352_83 {x0 x1 x2 x3 x4 : Option Value} {x w : Int32} : mw d 352 Q 83 [x0, x1, x2, x3, x4] (.int w :: .int x :: st) h = mB (¬ x = w) (mw d 352 Q) 98 86 [x0, x1, x2, x3, x4] st h := (mw_at mj_352_83).trans (z_icmp_ne (by decide) rfl)
theorem mj_352_86 : mc_P 352 86 = some (.aload_n 0, 1, 0, 0, 0) := by decide +kernel
theorem s_352_86 {x1 x2 x3 x4 : Option Value} {w : Value} : mw d 352 Q 86 [some w, x1, x2, x3, x4] (st) h = mv_a w (mw d 352 Q 87 [some w, x1, x2, x3, x4] (w :: st) h) := (mw_at mj_352_86).trans (z_aload_n rfl)
theorem mj_352_87 : mc_P 352 87 = some (.getfield 121, 3, 14, 52, 0) := by decide +kernel
theorem s_352_87 {x0 x1 x2 x3 x4 : Option Value} {o : Nat} : mw d 352 Q 87 [x0, x1, x2, x3, x4] (.ref o :: st) h = (mg h o 14 ∧ mw d 352 Q 90 [x0, x1, x2, x3, x4] (va_rf (mh_r h o 52) :: st) h) := (mw_at mj_352_87).trans (z_getr (by decide) (by decide) rfl)
theorem mj_352_90 : mc_P 352 90 = some (.getfield 412, 3, 12, 4, 0) := by decide +kernel
theorem s_352_90 {x0 x1 x2 x3 x4 : Option Value} {o : Nat} : mw d 352 Q 90 [x0, x1, x2, x3, x4] (.ref o :: st) h = (mg h o 12 ∧ mw d 352 Q 93 [x0, x1, x2, x3, x4] (va_rf (mh_r h o 4) :: st) h) := (mw_at mj_352_90).trans (z_getr (by decide) (by decide) rfl)
theorem mj_352_93 : mc_P 352 93 = some (.iload_n 1, 1, 0, 0, 0) := by decide +kernel
theorem s_352_93 {x0 x2 x3 x4 : Option Value} {w : Value} : mw d 352 Q 93 [x0, some w, x2, x3, x4] (st) h = mv_i w (mw d 352 Q 94 [x0, some w, x2, x3, x4] (w :: st) h) := (mw_at mj_352_93).trans (z_iload_n rfl)
theorem mj_352_94 : mc_P 352 94 = some (.aaload, 1, 0, 0, 0) := by decide +kernel
theorem s_352_94 {x0 x1 x2 x3 x4 : Option Value} {o : Nat} {i : Int32} : mw d 352 Q 94 [x0, x1, x2, x3, x4] (.int i :: .ref o :: st) h = (mgr h o ∧ mx i (mh_l h o) ∧ mw d 352 Q 95 [x0, x1, x2, x3, x4] (mrd (mh_k h o) h o i.toNatClampNeg :: st) h) := (mw_at mj_352_94).trans (z_aald)
theorem mj_352_95 : mc_P 352 95 = some (.goto 12, 3, 0, 0, 0) := by decide +kernel
theorem s_352_95 {x0 x1 x2 x3 x4 : Option Value} : mw d 352 Q 95 [x0, x1, x2, x3, x4] (st) h = mw d 352 Q 107 [x0, x1, x2, x3, x4] (st) h := (mw_at mj_352_95).trans (z_goto (by decide))
theorem mj_352_98 : mc_P 352 98 = some (.aload_n 0, 1, 0, 0, 0) := by decide +kernel
theorem s_352_98 {x1 x2 x3 x4 : Option Value} {w : Value} : mw d 352 Q 98 [some w, x1, x2, x3, x4] (st) h = mv_a w (mw d 352 Q 99 [some w, x1, x2, x3, x4] (w :: st) h) := (mw_at mj_352_98).trans (z_aload_n rfl)
theorem mj_352_99 : mc_P 352 99 = some (.getfield 121, 3, 14, 52, 0) := by decide +kernel
theorem s_352_99 {x0 x1 x2 x3 x4 : Option Value} {o : Nat} : mw d 352 Q 99 [x0, x1, x2, x3, x4] (.ref o :: st) h = (mg h o 14 ∧ mw d 352 Q 102 [x0, x1, x2, x3, x4] (va_rf (mh_r h o 52) :: st) h) := (mw_at mj_352_99).trans (z_getr (by decide) (by decide) rfl)
theorem mj_352_102 : mc_P 352 102 = some (.getfield 416, 3, 12, 5, 0) := by decide +kernel
theorem s_352_102 {x0 x1 x2 x3 x4 : Option Value} {o : Nat} : mw d 352 Q 102 [x0, x1, x2, x3, x4] (.ref o :: st) h = (mg h o 12 ∧ mw d 352 Q 105 [x0, x1, x2, x3, x4] (va_rf (mh_r h o 5) :: st) h) := (mw_at mj_352_102).trans (z_getr (by decide) (by decide) rfl)
theorem mj_352_105 : mc_P 352 105 = some (.iload_n 1, 1, 0, 0, 0) := by decide +kernel
theorem s_352_105 {x0 x2 x3 x4 : Option Value} {w : Value} : mw d 352 Q 105 [x0, some w, x2, x3, x4] (st) h = mv_i w (mw d 352 Q 106 [x0, some w, x2, x3, x4] (w :: st) h) := (mw_at mj_352_105).trans (z_iload_n rfl)
theorem mj_352_106 : mc_P 352 106 = some (.aaload, 1, 0, 0, 0) := by decide +kernel
theorem s_352_106 {x0 x1 x2 x3 x4 : Option Value} {o : Nat} {i : Int32} : mw d 352 Q 106 [x0, x1, x2, x3, x4] (.int i :: .ref o :: st) h = (mgr h o ∧ mx i (mh_l h o) ∧ mw d 352 Q 107 [x0, x1, x2, x3, x4] (mrd (mh_k h o) h o i.toNatClampNeg :: st) h) := (mw_at mj_352_106).trans (z_aald)
theorem mj_352_107 : mc_P 352 107 = some (.getfield 419, 3, 13, 0, 0) := by decide +kernel
theorem s_352_107 {x0 x1 x2 x3 x4 : Option Value} {o : Nat} : mw d 352 Q 107 [x0, x1, x2, x3, x4] (.ref o :: st) h = (mg h o 13 ∧ mw d 352 Q 110 [x0, x1, x2, x3, x4] (.int (mh_i h o 0) :: st) h) := (mw_at mj_352_107).trans (z_geti (by decide) (by decide) (Or.inr rfl))
theorem mj_352_110 : mc_P 352 110 = some (.ifCond .eq 7, 3, 0, 0, 0) := by decide +kernel
theorem s_352_110 {x0 x1 x2 x3 x4 : Option Value} {x : Int32} : mw d 352 Q 110 [x0, x1, x2, x3, x4] (.int x :: st) h = mB (x = 0) (mw d 352 Q) 117 113 [x0, x1, x2, x3, x4] st h := (mw_at mj_352_110).trans (z_if_eq (by decide) rfl)
theorem mj_352_113 : mc_P 352 113 = some (.iconst 0, 1, 0, 0, 0) := by decide +kernel
theorem s_352_113 {x0 x1 x2 x3 x4 : Option Value} : mw d 352 Q 113 [x0, x1, x2, x3, x4] (st) h = mw d 352 Q 114 [x0, x1, x2, x3, x4] (.int 0 :: st) h := (mw_at mj_352_113).trans (z_iconst (by decide))
theorem mj_352_114 : mc_P 352 114 = some (.goto 4, 3, 0, 0, 0) := by decide +kernel
theorem s_352_114 {x0 x1 x2 x3 x4 : Option Value} : mw d 352 Q 114 [x0, x1, x2, x3, x4] (st) h = mw d 352 Q 118 [x0, x1, x2, x3, x4] (st) h := (mw_at mj_352_114).trans (z_goto (by decide))
theorem mj_352_117 : mc_P 352 117 = some (.iconst 1, 1, 0, 0, 0) := by decide +kernel
theorem s_352_117 {x0 x1 x2 x3 x4 : Option Value} : mw d 352 Q 117 [x0, x1, x2, x3, x4] (st) h = mw d 352 Q 118 [x0, x1, x2, x3, x4] (.int 1 :: st) h := (mw_at mj_352_117).trans (z_iconst (by decide))
theorem mj_352_118 : mc_P 352 118 = some (.ireturn, 1, 0, 0, 0) := by decide +kernel
theorem s_352_118 {x0 x1 x2 x3 x4 : Option Value} {x : Int32} : mw d 352 Q 118 [x0, x1, x2, x3, x4] ([.int x]) h = (Q (some (.int x)) h) := (mw_at mj_352_118).trans (z_iret)
theorem mj_352_119 : mc_P 352 119 = some (.iload_n 2, 1, 0, 0, 0) := by decide +kernel
theorem s_352_119 {x0 x1 x3 x4 : Option Value} {w : Value} : mw d 352 Q 119 [x0, x1, some w, x3, x4] (st) h = mv_i w (mw d 352 Q 120 [x0, x1, some w, x3, x4] (w :: st) h) := (mw_at mj_352_119).trans (z_iload_n rfl)
theorem mj_352_120 : mc_P 352 120 = some (.iconst 1, 1, 0, 0, 0) := by decide +kernel
theorem s_352_120 {x0 x1 x2 x3 x4 : Option Value} : mw d 352 Q 120 [x0, x1, x2, x3, x4] (st) h = mw d 352 Q 121 [x0, x1, x2, x3, x4] (.int 1 :: st) h := (mw_at mj_352_120).trans (z_iconst (by decide))
theorem mj_352_121 : mc_P 352 121 = some (.if_icmp .ne 21, 3, 0, 0, 0) := by decide +kernel
theorem s_352_121 {x0 x1 x2 x3 x4 : Option Value} {x w : Int32} : mw d 352 Q 121 [x0, x1, x2, x3, x4] (.int w :: .int x :: st) h = mB (¬ x = w) (mw d 352 Q) 142 124 [x0, x1, x2, x3, x4] st h := (mw_at mj_352_121).trans (z_icmp_ne (by decide) rfl)
theorem mj_352_124 : mc_P 352 124 = some (.iload_n 3, 1, 0, 0, 0) := by decide +kernel
theorem s_352_124 {x0 x1 x2 x4 : Option Value} {w : Value} : mw d 352 Q 124 [x0, x1, x2, some w, x4] (st) h = mv_i w (mw d 352 Q 125 [x0, x1, x2, some w, x4] (w :: st) h) := (mw_at mj_352_124).trans (z_iload_n rfl)
theorem mj_352_125 : mc_P 352 125 = some (.iconst (-1), 1, 0, 0, 0) := by decide +kernel
theorem s_352_125 {x0 x1 x2 x3 x4 : Option Value} : mw d 352 Q 125 [x0, x1, x2, x3, x4] (st) h = mw d 352 Q 126 [x0, x1, x2, x3, x4] (.int (-1) :: st) h := (mw_at mj_352_125).trans (z_iconst (by decide))
theorem mj_352_126 : mc_P 352 126 = some (.if_icmp .ne 7, 3, 0, 0, 0) := by decide +kernel
theorem s_352_126 {x0 x1 x2 x3 x4 : Option Value} {x w : Int32} : mw d 352 Q 126 [x0, x1, x2, x3, x4] (.int w :: .int x :: st) h = mB (¬ x = w) (mw d 352 Q) 133 129 [x0, x1, x2, x3, x4] st h := (mw_at mj_352_126).trans (z_icmp_ne (by decide) rfl)
theorem mj_352_129 : mc_P 352 129 = some (.iconst 0, 1, 0, 0, 0) := by decide +kernel
theorem s_352_129 {x0 x1 x2 x3 x4 : Option Value} : mw d 352 Q 129 [x0, x1, x2, x3, x4] (st) h = mw d 352 Q 130 [x0, x1, x2, x3, x4] (.int 0 :: st) h := (mw_at mj_352_129).trans (z_iconst (by decide))
theorem mj_352_130 : mc_P 352 130 = some (.goto 49, 3, 0, 0, 0) := by decide +kernel
theorem s_352_130 {x0 x1 x2 x3 x4 : Option Value} : mw d 352 Q 130 [x0, x1, x2, x3, x4] (st) h = mw d 352 Q 179 [x0, x1, x2, x3, x4] (st) h := (mw_at mj_352_130).trans (z_goto (by decide))
theorem mj_352_133 : mc_P 352 133 = some (.aload_n 0, 1, 0, 0, 0) := by decide +kernel
theorem s_352_133 {x1 x2 x3 x4 : Option Value} {w : Value} : mw d 352 Q 133 [some w, x1, x2, x3, x4] (st) h = mv_a w (mw d 352 Q 134 [some w, x1, x2, x3, x4] (w :: st) h) := (mw_at mj_352_133).trans (z_aload_n rfl)
theorem mj_352_134 : mc_P 352 134 = some (.getfield 52, 3, 14, 20, 0) := by decide +kernel
theorem s_352_134 {x0 x1 x2 x3 x4 : Option Value} {o : Nat} : mw d 352 Q 134 [x0, x1, x2, x3, x4] (.ref o :: st) h = (mg h o 14 ∧ mw d 352 Q 137 [x0, x1, x2, x3, x4] (va_rf (mh_r h o 20) :: st) h) := (mw_at mj_352_134).trans (z_getr (by decide) (by decide) rfl)
theorem mj_352_137 : mc_P 352 137 = some (.iload_n 3, 1, 0, 0, 0) := by decide +kernel
theorem s_352_137 {x0 x1 x2 x4 : Option Value} {w : Value} : mw d 352 Q 137 [x0, x1, x2, some w, x4] (st) h = mv_i w (mw d 352 Q 138 [x0, x1, x2, some w, x4] (w :: st) h) := (mw_at mj_352_137).trans (z_iload_n rfl)
theorem mj_352_138 : mc_P 352 138 = some (.iaload, 1, 0, 0, 0) := by decide +kernel
theorem s_352_138 {x0 x1 x2 x3 x4 : Option Value} {o : Nat} {i : Int32} : mw d 352 Q 138 [x0, x1, x2, x3, x4] (.int i :: .ref o :: st) h = (mg h o 100 ∧ mx i (mh_l h o) ∧ mw d 352 Q 139 [x0, x1, x2, x3, x4] (.int (mh_i h o i.toNatClampNeg) :: st) h) := (mw_at mj_352_138).trans (z_iald)
theorem s_352_138x {x0 x1 x2 x3 x4 : Option Value} {i : Int32} : mw d 352 Q 138 [x0, x1, x2, x3, x4] (.int i :: .retAddr 2 :: st) h = (mx i 24 ∧ mw d 352 Q 139 [x0, x1, x2, x3, x4] (.int (mx_row.getD i.toNatClampNeg 0) :: st) h) := (mw_at mj_352_138).trans (z_iaX)
theorem mj_352_139 : mc_P 352 139 = some (.goto 40, 3, 0, 0, 0) := by decide +kernel
theorem s_352_139 {x0 x1 x2 x3 x4 : Option Value} : mw d 352 Q 139 [x0, x1, x2, x3, x4] (st) h = mw d 352 Q 179 [x0, x1, x2, x3, x4] (st) h := (mw_at mj_352_139).trans (z_goto (by decide))
theorem mj_352_142 : mc_P 352 142 = some (.iload_n 2, 1, 0, 0, 0) := by decide +kernel
theorem s_352_142 {x0 x1 x3 x4 : Option Value} {w : Value} : mw d 352 Q 142 [x0, x1, some w, x3, x4] (st) h = mv_i w (mw d 352 Q 143 [x0, x1, some w, x3, x4] (w :: st) h) := (mw_at mj_352_142).trans (z_iload_n rfl)
theorem mj_352_143 : mc_P 352 143 = some (.iconst 2, 1, 0, 0, 0) := by decide +kernel
theorem s_352_143 {x0 x1 x2 x3 x4 : Option Value} : mw d 352 Q 143 [x0, x1, x2, x3, x4] (st) h = mw d 352 Q 144 [x0, x1, x2, x3, x4] (.int 2 :: st) h := (mw_at mj_352_143).trans (z_iconst (by decide))
theorem mj_352_144 : mc_P 352 144 = some (.if_icmp .ne 15, 3, 0, 0, 0) := by decide +kernel
theorem s_352_144 {x0 x1 x2 x3 x4 : Option Value} {x w : Int32} : mw d 352 Q 144 [x0, x1, x2, x3, x4] (.int w :: .int x :: st) h = mB (¬ x = w) (mw d 352 Q) 159 147 [x0, x1, x2, x3, x4] st h := (mw_at mj_352_144).trans (z_icmp_ne (by decide) rfl)
theorem mj_352_147 : mc_P 352 147 = some (.aload_n 0, 1, 0, 0, 0) := by decide +kernel
theorem s_352_147 {x1 x2 x3 x4 : Option Value} {w : Value} : mw d 352 Q 147 [some w, x1, x2, x3, x4] (st) h = mv_a w (mw d 352 Q 148 [some w, x1, x2, x3, x4] (w :: st) h) := (mw_at mj_352_147).trans (z_aload_n rfl)
theorem mj_352_148 : mc_P 352 148 = some (.getfield 121, 3, 14, 52, 0) := by decide +kernel
theorem s_352_148 {x0 x1 x2 x3 x4 : Option Value} {o : Nat} : mw d 352 Q 148 [x0, x1, x2, x3, x4] (.ref o :: st) h = (mg h o 14 ∧ mw d 352 Q 151 [x0, x1, x2, x3, x4] (va_rf (mh_r h o 52) :: st) h) := (mw_at mj_352_148).trans (z_getr (by decide) (by decide) rfl)
theorem mj_352_151 : mc_P 352 151 = some (.getfield 421, 3, 12, 6, 0) := by decide +kernel
theorem s_352_151 {x0 x1 x2 x3 x4 : Option Value} {o : Nat} : mw d 352 Q 151 [x0, x1, x2, x3, x4] (.ref o :: st) h = (mg h o 12 ∧ mw d 352 Q 154 [x0, x1, x2, x3, x4] (va_rf (mh_r h o 6) :: st) h) := (mw_at mj_352_151).trans (z_getr (by decide) (by decide) rfl)
theorem mj_352_154 : mc_P 352 154 = some (.iload_n 1, 1, 0, 0, 0) := by decide +kernel
theorem s_352_154 {x0 x2 x3 x4 : Option Value} {w : Value} : mw d 352 Q 154 [x0, some w, x2, x3, x4] (st) h = mv_i w (mw d 352 Q 155 [x0, some w, x2, x3, x4] (w :: st) h) := (mw_at mj_352_154).trans (z_iload_n rfl)
theorem mj_352_155 : mc_P 352 155 = some (.iaload, 1, 0, 0, 0) := by decide +kernel
theorem s_352_155 {x0 x1 x2 x3 x4 : Option Value} {o : Nat} {i : Int32} : mw d 352 Q 155 [x0, x1, x2, x3, x4] (.int i :: .ref o :: st) h = (mg h o 100 ∧ mx i (mh_l h o) ∧ mw d 352 Q 156 [x0, x1, x2, x3, x4] (.int (mh_i h o i.toNatClampNeg) :: st) h) := (mw_at mj_352_155).trans (z_iald)
theorem s_352_155x {x0 x1 x2 x3 x4 : Option Value} {i : Int32} : mw d 352 Q 155 [x0, x1, x2, x3, x4] (.int i :: .retAddr 2 :: st) h = (mx i 24 ∧ mw d 352 Q 156 [x0, x1, x2, x3, x4] (.int (mx_row.getD i.toNatClampNeg 0) :: st) h) := (mw_at mj_352_155).trans (z_iaX)
theorem mj_352_156 : mc_P 352 156 = some (.goto 23, 3, 0, 0, 0) := by decide +kernel
theorem s_352_156 {x0 x1 x2 x3 x4 : Option Value} : mw d 352 Q 156 [x0, x1, x2, x3, x4] (st) h = mw d 352 Q 179 [x0, x1, x2, x3, x4] (st) h := (mw_at mj_352_156).trans (z_goto (by decide))
theorem mj_352_159 : mc_P 352 159 = some (.iload_n 2, 1, 0, 0, 0) := by decide +kernel
theorem s_352_159 {x0 x1 x3 x4 : Option Value} {w : Value} : mw d 352 Q 159 [x0, x1, some w, x3, x4] (st) h = mv_i w (mw d 352 Q 160 [x0, x1, some w, x3, x4] (w :: st) h) := (mw_at mj_352_159).trans (z_iload_n rfl)
theorem mj_352_160 : mc_P 352 160 = some (.iconst 3, 1, 0, 0, 0) := by decide +kernel
theorem s_352_160 {x0 x1 x2 x3 x4 : Option Value} : mw d 352 Q 160 [x0, x1, x2, x3, x4] (st) h = mw d 352 Q 161 [x0, x1, x2, x3, x4] (.int 3 :: st) h := (mw_at mj_352_160).trans (z_iconst (by decide))
theorem mj_352_161 : mc_P 352 161 = some (.if_icmp .ne 12, 3, 0, 0, 0) := by decide +kernel
theorem s_352_161 {x0 x1 x2 x3 x4 : Option Value} {x w : Int32} : mw d 352 Q 161 [x0, x1, x2, x3, x4] (.int w :: .int x :: st) h = mB (¬ x = w) (mw d 352 Q) 173 164 [x0, x1, x2, x3, x4] st h := (mw_at mj_352_161).trans (z_icmp_ne (by decide) rfl)
theorem mj_352_164 : mc_P 352 164 = some (.aload_n 0, 1, 0, 0, 0) := by decide +kernel
theorem s_352_164 {x1 x2 x3 x4 : Option Value} {w : Value} : mw d 352 Q 164 [some w, x1, x2, x3, x4] (st) h = mv_a w (mw d 352 Q 165 [some w, x1, x2, x3, x4] (w :: st) h) := (mw_at mj_352_164).trans (z_aload_n rfl)
theorem mj_352_165 : mc_P 352 165 = some (.getfield 79, 3, 14, 31, 0) := by decide +kernel
theorem s_352_165 {x0 x1 x2 x3 x4 : Option Value} {o : Nat} : mw d 352 Q 165 [x0, x1, x2, x3, x4] (.ref o :: st) h = (mg h o 14 ∧ mw d 352 Q 168 [x0, x1, x2, x3, x4] (va_rf (mh_r h o 31) :: st) h) := (mw_at mj_352_165).trans (z_getr (by decide) (by decide) rfl)
theorem mj_352_168 : mc_P 352 168 = some (.iload_n 1, 1, 0, 0, 0) := by decide +kernel
theorem s_352_168 {x0 x2 x3 x4 : Option Value} {w : Value} : mw d 352 Q 168 [x0, some w, x2, x3, x4] (st) h = mv_i w (mw d 352 Q 169 [x0, some w, x2, x3, x4] (w :: st) h) := (mw_at mj_352_168).trans (z_iload_n rfl)
theorem mj_352_169 : mc_P 352 169 = some (.iaload, 1, 0, 0, 0) := by decide +kernel
theorem s_352_169 {x0 x1 x2 x3 x4 : Option Value} {o : Nat} {i : Int32} : mw d 352 Q 169 [x0, x1, x2, x3, x4] (.int i :: .ref o :: st) h = (mg h o 100 ∧ mx i (mh_l h o) ∧ mw d 352 Q 170 [x0, x1, x2, x3, x4] (.int (mh_i h o i.toNatClampNeg) :: st) h) := (mw_at mj_352_169).trans (z_iald)
theorem s_352_169x {x0 x1 x2 x3 x4 : Option Value} {i : Int32} : mw d 352 Q 169 [x0, x1, x2, x3, x4] (.int i :: .retAddr 2 :: st) h = (mx i 24 ∧ mw d 352 Q 170 [x0, x1, x2, x3, x4] (.int (mx_row.getD i.toNatClampNeg 0) :: st) h) := (mw_at mj_352_169).trans (z_iaX)
theorem mj_352_170 : mc_P 352 170 = some (.goto 9, 3, 0, 0, 0) := by decide +kernel
theorem s_352_170 {x0 x1 x2 x3 x4 : Option Value} : mw d 352 Q 170 [x0, x1, x2, x3, x4] (st) h = mw d 352 Q 179 [x0, x1, x2, x3, x4] (st) h := (mw_at mj_352_170).trans (z_goto (by decide))
theorem mj_352_173 : mc_P 352 173 = some (.aload_n 0, 1, 0, 0, 0) := by decide +kernel
theorem s_352_173 {x1 x2 x3 x4 : Option Value} {w : Value} : mw d 352 Q 173 [some w, x1, x2, x3, x4] (st) h = mv_a w (mw d 352 Q 174 [some w, x1, x2, x3, x4] (w :: st) h) := (mw_at mj_352_173).trans (z_aload_n rfl)
theorem mj_352_174 : mc_P 352 174 = some (.getfield 82, 3, 14, 32, 0) := by decide +kernel
theorem s_352_174 {x0 x1 x2 x3 x4 : Option Value} {o : Nat} : mw d 352 Q 174 [x0, x1, x2, x3, x4] (.ref o :: st) h = (mg h o 14 ∧ mw d 352 Q 177 [x0, x1, x2, x3, x4] (va_rf (mh_r h o 32) :: st) h) := (mw_at mj_352_174).trans (z_getr (by decide) (by decide) rfl)
theorem mj_352_177 : mc_P 352 177 = some (.iload_n 1, 1, 0, 0, 0) := by decide +kernel
theorem s_352_177 {x0 x2 x3 x4 : Option Value} {w : Value} : mw d 352 Q 177 [x0, some w, x2, x3, x4] (st) h = mv_i w (mw d 352 Q 178 [x0, some w, x2, x3, x4] (w :: st) h) := (mw_at mj_352_177).trans (z_iload_n rfl)
theorem mj_352_178 : mc_P 352 178 = some (.iaload, 1, 0, 0, 0) := by decide +kernel
theorem s_352_178 {x0 x1 x2 x3 x4 : Option Value} {o : Nat} {i : Int32} : mw d 352 Q 178 [x0, x1, x2, x3, x4] (.int i :: .ref o :: st) h = (mg h o 100 ∧ mx i (mh_l h o) ∧ mw d 352 Q 179 [x0, x1, x2, x3, x4] (.int (mh_i h o i.toNatClampNeg) :: st) h) := (mw_at mj_352_178).trans (z_iald)
theorem s_352_178x {x0 x1 x2 x3 x4 : Option Value} {i : Int32} : mw d 352 Q 178 [x0, x1, x2, x3, x4] (.int i :: .retAddr 2 :: st) h = (mx i 24 ∧ mw d 352 Q 179 [x0, x1, x2, x3, x4] (.int (mx_row.getD i.toNatClampNeg 0) :: st) h) := (mw_at mj_352_178).trans (z_iaX)
theorem mj_352_179 : mc_P 352 179 = some (.ireturn, 1, 0, 0, 0) := by decide +kernel
theorem s_352_179 {x0 x1 x2 x3 x4 : Option Value} {x : Int32} : mw d 352 Q 179 [x0, x1, x2, x3, x4] ([.int x]) h = (Q (some (.int x)) h) := (mw_at mj_352_179).trans (z_iret)
theorem e_352 {a0 : Nat} {a1 : Int32} {a2 : Int32} : mcall d 352 [.ref a0, .int a1, .int a2] h Q = mw d 352 Q 0 [some (.ref a0), some (.int a1), some (.int a2), none, none] [] h := by
  show mw d 352 Q 0 (me_en (mc_nl 352) _) [] h = _
  rw [nl_352]; rfl

/-! InvariantDeskModel.input(I)I -/
theorem mj_353_0 : mc_P 353 0 = some (.aload_n 0, 1, 0, 0, 0) := by decide +kernel
theorem s_353_0 {x1 : Option Value} {w : Value} : mw d 353 Q 0 [some w, x1] (st) h = mv_a w (mw d 353 Q 1 [some w, x1] (w :: st) h) := (mw_at mj_353_0).trans (z_aload_n rfl)
theorem mj_353_1 : mc_P 353 1 = some (.getfield 424, 3, 14, 60, 0) := by decide +kernel
theorem s_353_1 {x0 x1 : Option Value} {o : Nat} : mw d 353 Q 1 [x0, x1] (.ref o :: st) h = (mg h o 14 ∧ mw d 353 Q 4 [x0, x1] (.int (mh_i h o 60) :: st) h) := (mw_at mj_353_1).trans (z_geti (by decide) (by decide) (Or.inl rfl))
theorem mj_353_4 : mc_P 353 4 = some (.sipush 1000, 3, 0, 0, 0) := by decide +kernel
theorem s_353_4 {x0 x1 : Option Value} : mw d 353 Q 4 [x0, x1] (st) h = mw d 353 Q 7 [x0, x1] (.int 1000 :: st) h := (mw_at mj_353_4).trans (z_sipush (by decide))
theorem mj_353_7 : mc_P 353 7 = some (.if_icmp .ne 5, 3, 0, 0, 0) := by decide +kernel
theorem s_353_7 {x0 x1 : Option Value} {x w : Int32} : mw d 353 Q 7 [x0, x1] (.int w :: .int x :: st) h = mB (¬ x = w) (mw d 353 Q) 12 10 [x0, x1] st h := (mw_at mj_353_7).trans (z_icmp_ne (by decide) rfl)
theorem mj_353_10 : mc_P 353 10 = some (.iconst (-1), 1, 0, 0, 0) := by decide +kernel
theorem s_353_10 {x0 x1 : Option Value} : mw d 353 Q 10 [x0, x1] (st) h = mw d 353 Q 11 [x0, x1] (.int (-1) :: st) h := (mw_at mj_353_10).trans (z_iconst (by decide))
theorem mj_353_11 : mc_P 353 11 = some (.ireturn, 1, 0, 0, 0) := by decide +kernel
theorem s_353_11 {x0 x1 : Option Value} {x : Int32} : mw d 353 Q 11 [x0, x1] ([.int x]) h = (Q (some (.int x)) h) := (mw_at mj_353_11).trans (z_iret)
theorem mj_353_12 : mc_P 353 12 = some (.aload_n 0, 1, 0, 0, 0) := by decide +kernel
theorem s_353_12 {x1 : Option Value} {w : Value} : mw d 353 Q 12 [some w, x1] (st) h = mv_a w (mw d 353 Q 13 [some w, x1] (w :: st) h) := (mw_at mj_353_12).trans (z_aload_n rfl)
theorem mj_353_13 : mc_P 353 13 = some (.getfield 138, 3, 14, 59, 0) := by decide +kernel
theorem s_353_13 {x0 x1 : Option Value} {o : Nat} : mw d 353 Q 13 [x0, x1] (.ref o :: st) h = (mg h o 14 ∧ mw d 353 Q 16 [x0, x1] (va_rf (mh_r h o 59) :: st) h) := (mw_at mj_353_13).trans (z_getr (by decide) (by decide) rfl)
theorem mj_353_16 : mc_P 353 16 = some (.aload_n 0, 1, 0, 0, 0) := by decide +kernel
theorem s_353_16 {x1 : Option Value} {w : Value} : mw d 353 Q 16 [some w, x1] (st) h = mv_a w (mw d 353 Q 17 [some w, x1] (w :: st) h) := (mw_at mj_353_16).trans (z_aload_n rfl)
theorem mj_353_17 : mc_P 353 17 = some (.getfield 424, 3, 14, 60, 0) := by decide +kernel
theorem s_353_17 {x0 x1 : Option Value} {o : Nat} : mw d 353 Q 17 [x0, x1] (.ref o :: st) h = (mg h o 14 ∧ mw d 353 Q 20 [x0, x1] (.int (mh_i h o 60) :: st) h) := (mw_at mj_353_17).trans (z_geti (by decide) (by decide) (Or.inl rfl))
theorem mj_353_20 : mc_P 353 20 = some (.iload_n 1, 1, 0, 0, 0) := by decide +kernel
theorem s_353_20 {x0 : Option Value} {w : Value} : mw d 353 Q 20 [x0, some w] (st) h = mv_i w (mw d 353 Q 21 [x0, some w] (w :: st) h) := (mw_at mj_353_20).trans (z_iload_n rfl)
theorem mj_353_21 : mc_P 353 21 = some (.iastore, 1, 0, 0, 0) := by decide +kernel
theorem s_353_21 {x0 x1 : Option Value} {o : Nat} {i w : Int32} : mw d 353 Q 21 [x0, x1] (.int w :: .int i :: .ref o :: st) h = (mg h o 100 ∧ mx i (mh_l h o) ∧ mw d 353 Q 22 [x0, x1] (st) (mh_si h o i.toNatClampNeg w)) := (mw_at mj_353_21).trans (z_iast)
theorem mj_353_22 : mc_P 353 22 = some (.aload_n 0, 1, 0, 0, 0) := by decide +kernel
theorem s_353_22 {x1 : Option Value} {w : Value} : mw d 353 Q 22 [some w, x1] (st) h = mv_a w (mw d 353 Q 23 [some w, x1] (w :: st) h) := (mw_at mj_353_22).trans (z_aload_n rfl)
theorem mj_353_23 : mc_P 353 23 = some (.dup, 1, 0, 0, 0) := by decide +kernel
theorem s_353_23 {x0 x1 : Option Value} {w : Value} : mw d 353 Q 23 [x0, x1] (w :: st) h = (w.category = 1 ∧ mw d 353 Q 24 [x0, x1] (w :: w :: st) h) := (mw_at mj_353_23).trans (z_dup)
theorem mj_353_24 : mc_P 353 24 = some (.getfield 424, 3, 14, 60, 0) := by decide +kernel
theorem s_353_24 {x0 x1 : Option Value} {o : Nat} : mw d 353 Q 24 [x0, x1] (.ref o :: st) h = (mg h o 14 ∧ mw d 353 Q 27 [x0, x1] (.int (mh_i h o 60) :: st) h) := (mw_at mj_353_24).trans (z_geti (by decide) (by decide) (Or.inl rfl))
theorem mj_353_27 : mc_P 353 27 = some (.iconst 1, 1, 0, 0, 0) := by decide +kernel
theorem s_353_27 {x0 x1 : Option Value} : mw d 353 Q 27 [x0, x1] (st) h = mw d 353 Q 28 [x0, x1] (.int 1 :: st) h := (mw_at mj_353_27).trans (z_iconst (by decide))
theorem mj_353_28 : mc_P 353 28 = some (.iadd, 1, 0, 0, 0) := by decide +kernel
theorem s_353_28 {x0 x1 : Option Value} {x w : Int32} : mw d 353 Q 28 [x0, x1] (.int w :: .int x :: st) h = mw d 353 Q 29 [x0, x1] (.int (x + w) :: st) h := (mw_at mj_353_28).trans (z_iadd)
theorem mj_353_29 : mc_P 353 29 = some (.putfield 424, 3, 14, 60, 0) := by decide +kernel
theorem s_353_29 {x0 x1 : Option Value} {o : Nat} {w : Int32} : mw d 353 Q 29 [x0, x1] (.int w :: .ref o :: st) h = (mg h o 14 ∧ mw d 353 Q 32 [x0, x1] (st) (mh_si h o 60 w)) := (mw_at mj_353_29).trans (z_puti (by decide) (by decide) rfl)
theorem mj_353_32 : mc_P 353 32 = some (.aload_n 0, 1, 0, 0, 0) := by decide +kernel
theorem s_353_32 {x1 : Option Value} {w : Value} : mw d 353 Q 32 [some w, x1] (st) h = mv_a w (mw d 353 Q 33 [some w, x1] (w :: st) h) := (mw_at mj_353_32).trans (z_aload_n rfl)
theorem mj_353_33 : mc_P 353 33 = some (.getfield 424, 3, 14, 60, 0) := by decide +kernel
theorem s_353_33 {x0 x1 : Option Value} {o : Nat} : mw d 353 Q 33 [x0, x1] (.ref o :: st) h = (mg h o 14 ∧ mw d 353 Q 36 [x0, x1] (.int (mh_i h o 60) :: st) h) := (mw_at mj_353_33).trans (z_geti (by decide) (by decide) (Or.inl rfl))
theorem mj_353_36 : mc_P 353 36 = some (.ireturn, 1, 0, 0, 0) := by decide +kernel
theorem s_353_36 {x0 x1 : Option Value} {x : Int32} : mw d 353 Q 36 [x0, x1] ([.int x]) h = (Q (some (.int x)) h) := (mw_at mj_353_36).trans (z_iret)
theorem e_353 {a0 : Nat} {a1 : Int32} : mcall d 353 [.ref a0, .int a1] h Q = mw d 353 Q 0 [some (.ref a0), some (.int a1)] [] h := by
  show mw d 353 Q 0 (me_en (mc_nl 353) _) [] h = _
  rw [nl_353]; rfl

/-! InvariantDeskModel.drop()I -/
theorem mj_354_0 : mc_P 354 0 = some (.aload_n 0, 1, 0, 0, 0) := by decide +kernel
theorem s_354_0 {x1 : Option Value} {w : Value} : mw d 354 Q 0 [some w, x1] (st) h = mv_a w (mw d 354 Q 1 [some w, x1] (w :: st) h) := (mw_at mj_354_0).trans (z_aload_n rfl)
theorem mj_354_1 : mc_P 354 1 = some (.getfield 424, 3, 14, 60, 0) := by decide +kernel
theorem s_354_1 {x0 x1 : Option Value} {o : Nat} : mw d 354 Q 1 [x0, x1] (.ref o :: st) h = (mg h o 14 ∧ mw d 354 Q 4 [x0, x1] (.int (mh_i h o 60) :: st) h) := (mw_at mj_354_1).trans (z_geti (by decide) (by decide) (Or.inl rfl))
theorem mj_354_4 : mc_P 354 4 = some (.istore_n 1, 1, 0, 0, 0) := by decide +kernel
theorem s_354_4 {x0 x1 : Option Value} {w : Int32} : mw d 354 Q 4 [x0, x1] (.int w :: st) h = mw d 354 Q 5 [mk2 x0, some (.int w)] (st) h := (mw_at mj_354_4).trans (z_istore_n (Nat.le_of_ble_eq_true rfl) (me_s1_mk (j := 0) (w := x0) rfl))
theorem mj_354_5 : mc_P 354 5 = some (.aload_n 0, 1, 0, 0, 0) := by decide +kernel
theorem s_354_5 {x1 : Option Value} {w : Value} : mw d 354 Q 5 [some w, x1] (st) h = mv_a w (mw d 354 Q 6 [some w, x1] (w :: st) h) := (mw_at mj_354_5).trans (z_aload_n rfl)
theorem mj_354_6 : mc_P 354 6 = some (.iconst 0, 1, 0, 0, 0) := by decide +kernel
theorem s_354_6 {x0 x1 : Option Value} : mw d 354 Q 6 [x0, x1] (st) h = mw d 354 Q 7 [x0, x1] (.int 0 :: st) h := (mw_at mj_354_6).trans (z_iconst (by decide))
theorem mj_354_7 : mc_P 354 7 = some (.putfield 424, 3, 14, 60, 0) := by decide +kernel
theorem s_354_7 {x0 x1 : Option Value} {o : Nat} {w : Int32} : mw d 354 Q 7 [x0, x1] (.int w :: .ref o :: st) h = (mg h o 14 ∧ mw d 354 Q 10 [x0, x1] (st) (mh_si h o 60 w)) := (mw_at mj_354_7).trans (z_puti (by decide) (by decide) rfl)
theorem mj_354_10 : mc_P 354 10 = some (.iload_n 1, 1, 0, 0, 0) := by decide +kernel
theorem s_354_10 {x0 : Option Value} {w : Value} : mw d 354 Q 10 [x0, some w] (st) h = mv_i w (mw d 354 Q 11 [x0, some w] (w :: st) h) := (mw_at mj_354_10).trans (z_iload_n rfl)
theorem mj_354_11 : mc_P 354 11 = some (.ireturn, 1, 0, 0, 0) := by decide +kernel
theorem s_354_11 {x0 x1 : Option Value} {x : Int32} : mw d 354 Q 11 [x0, x1] ([.int x]) h = (Q (some (.int x)) h) := (mw_at mj_354_11).trans (z_iret)
theorem e_354 {a0 : Nat} : mcall d 354 [.ref a0] h Q = mw d 354 Q 0 [some (.ref a0), none] [] h := by
  show mw d 354 Q 0 (me_en (mc_nl 354) _) [] h = _
  rw [nl_354]; rfl

/-! InvariantDeskModel.run(I)I -/
theorem mj_366_0 : mc_P 366 0 = some (.iload_n 1, 1, 0, 0, 0) := by decide +kernel
theorem s_366_0 {x0 x2 x3 : Option Value} {w : Value} : mw d 366 Q 0 [x0, some w, x2, x3] (st) h = mv_i w (mw d 366 Q 1 [x0, some w, x2, x3] (w :: st) h) := (mw_at mj_366_0).trans (z_iload_n rfl)
theorem mj_366_1 : mc_P 366 1 = some (.ifCond .lt 10, 3, 0, 0, 0) := by decide +kernel
theorem s_366_1 {x0 x1 x2 x3 : Option Value} {x : Int32} : mw d 366 Q 1 [x0, x1, x2, x3] (.int x :: st) h = mB (x < 0) (mw d 366 Q) 11 4 [x0, x1, x2, x3] st h := (mw_at mj_366_1).trans (z_if_lt (by decide) rfl)
theorem mj_366_4 : mc_P 366 4 = some (.iload_n 1, 1, 0, 0, 0) := by decide +kernel
theorem s_366_4 {x0 x2 x3 : Option Value} {w : Value} : mw d 366 Q 4 [x0, some w, x2, x3] (st) h = mv_i w (mw d 366 Q 5 [x0, some w, x2, x3] (w :: st) h) := (mw_at mj_366_4).trans (z_iload_n rfl)
theorem mj_366_5 : mc_P 366 5 = some (.sipush 2000, 3, 0, 0, 0) := by decide +kernel
theorem s_366_5 {x0 x1 x2 x3 : Option Value} : mw d 366 Q 5 [x0, x1, x2, x3] (st) h = mw d 366 Q 8 [x0, x1, x2, x3] (.int 2000 :: st) h := (mw_at mj_366_5).trans (z_sipush (by decide))
theorem mj_366_8 : mc_P 366 8 = some (.if_icmp .le 5, 3, 0, 0, 0) := by decide +kernel
theorem s_366_8 {x0 x1 x2 x3 : Option Value} {x w : Int32} : mw d 366 Q 8 [x0, x1, x2, x3] (.int w :: .int x :: st) h = mB (x ≤ w) (mw d 366 Q) 13 11 [x0, x1, x2, x3] st h := (mw_at mj_366_8).trans (z_icmp_le (by decide) rfl)
theorem mj_366_11 : mc_P 366 11 = some (.iconst (-1), 1, 0, 0, 0) := by decide +kernel
theorem s_366_11 {x0 x1 x2 x3 : Option Value} : mw d 366 Q 11 [x0, x1, x2, x3] (st) h = mw d 366 Q 12 [x0, x1, x2, x3] (.int (-1) :: st) h := (mw_at mj_366_11).trans (z_iconst (by decide))
theorem mj_366_12 : mc_P 366 12 = some (.ireturn, 1, 0, 0, 0) := by decide +kernel
theorem s_366_12 {x0 x1 x2 x3 : Option Value} {x : Int32} : mw d 366 Q 12 [x0, x1, x2, x3] ([.int x]) h = (Q (some (.int x)) h) := (mw_at mj_366_12).trans (z_iret)
theorem mj_366_13 : mc_P 366 13 = some (.aload_n 0, 1, 0, 0, 0) := by decide +kernel
theorem s_366_13 {x1 x2 x3 : Option Value} {w : Value} : mw d 366 Q 13 [some w, x1, x2, x3] (st) h = mv_a w (mw d 366 Q 14 [some w, x1, x2, x3] (w :: st) h) := (mw_at mj_366_13).trans (z_aload_n rfl)
theorem mj_366_14 : mc_P 366 14 = some (.iconst 0, 1, 0, 0, 0) := by decide +kernel
theorem s_366_14 {x0 x1 x2 x3 : Option Value} : mw d 366 Q 14 [x0, x1, x2, x3] (st) h = mw d 366 Q 15 [x0, x1, x2, x3] (.int 0 :: st) h := (mw_at mj_366_14).trans (z_iconst (by decide))
theorem mj_366_15 : mc_P 366 15 = some (.putfield 179, 3, 14, 64, 0) := by decide +kernel
theorem s_366_15 {x0 x1 x2 x3 : Option Value} {o : Nat} {w : Int32} : mw d 366 Q 15 [x0, x1, x2, x3] (.int w :: .ref o :: st) h = (mg h o 14 ∧ mw d 366 Q 18 [x0, x1, x2, x3] (st) (mh_si h o 64 w)) := (mw_at mj_366_15).trans (z_puti (by decide) (by decide) rfl)
theorem mj_366_18 : mc_P 366 18 = some (.aload_n 0, 1, 0, 0, 0) := by decide +kernel
theorem s_366_18 {x1 x2 x3 : Option Value} {w : Value} : mw d 366 Q 18 [some w, x1, x2, x3] (st) h = mv_a w (mw d 366 Q 19 [some w, x1, x2, x3] (w :: st) h) := (mw_at mj_366_18).trans (z_aload_n rfl)
theorem mj_366_19 : mc_P 366 19 = some (.iconst 0, 1, 0, 0, 0) := by decide +kernel
theorem s_366_19 {x0 x1 x2 x3 : Option Value} : mw d 366 Q 19 [x0, x1, x2, x3] (st) h = mw d 366 Q 20 [x0, x1, x2, x3] (.int 0 :: st) h := (mw_at mj_366_19).trans (z_iconst (by decide))
theorem mj_366_20 : mc_P 366 20 = some (.putfield 182, 3, 14, 65, 0) := by decide +kernel
theorem s_366_20 {x0 x1 x2 x3 : Option Value} {o : Nat} {w : Int32} : mw d 366 Q 20 [x0, x1, x2, x3] (.int w :: .ref o :: st) h = (mg h o 14 ∧ mw d 366 Q 23 [x0, x1, x2, x3] (st) (mh_si h o 65 w)) := (mw_at mj_366_20).trans (z_puti (by decide) (by decide) rfl)
theorem mj_366_23 : mc_P 366 23 = some (.aload_n 0, 1, 0, 0, 0) := by decide +kernel
theorem s_366_23 {x1 x2 x3 : Option Value} {w : Value} : mw d 366 Q 23 [some w, x1, x2, x3] (st) h = mv_a w (mw d 366 Q 24 [some w, x1, x2, x3] (w :: st) h) := (mw_at mj_366_23).trans (z_aload_n rfl)
theorem mj_366_24 : mc_P 366 24 = some (.iconst 0, 1, 0, 0, 0) := by decide +kernel
theorem s_366_24 {x0 x1 x2 x3 : Option Value} : mw d 366 Q 24 [x0, x1, x2, x3] (st) h = mw d 366 Q 25 [x0, x1, x2, x3] (.int 0 :: st) h := (mw_at mj_366_24).trans (z_iconst (by decide))
theorem mj_366_25 : mc_P 366 25 = some (.putfield 436, 3, 14, 67, 0) := by decide +kernel
theorem s_366_25 {x0 x1 x2 x3 : Option Value} {o : Nat} {w : Int32} : mw d 366 Q 25 [x0, x1, x2, x3] (.int w :: .ref o :: st) h = (mg h o 14 ∧ mw d 366 Q 28 [x0, x1, x2, x3] (st) (mh_si h o 67 w)) := (mw_at mj_366_25).trans (z_puti (by decide) (by decide) rfl)
theorem mj_366_28 : mc_P 366 28 = some (.aload_n 0, 1, 0, 0, 0) := by decide +kernel
theorem s_366_28 {x1 x2 x3 : Option Value} {w : Value} : mw d 366 Q 28 [some w, x1, x2, x3] (st) h = mv_a w (mw d 366 Q 29 [some w, x1, x2, x3] (w :: st) h) := (mw_at mj_366_28).trans (z_aload_n rfl)
theorem mj_366_29 : mc_P 366 29 = some (.iconst 0, 1, 0, 0, 0) := by decide +kernel
theorem s_366_29 {x0 x1 x2 x3 : Option Value} : mw d 366 Q 29 [x0, x1, x2, x3] (st) h = mw d 366 Q 30 [x0, x1, x2, x3] (.int 0 :: st) h := (mw_at mj_366_29).trans (z_iconst (by decide))
theorem mj_366_30 : mc_P 366 30 = some (.putfield 427, 3, 14, 68, 0) := by decide +kernel
theorem s_366_30 {x0 x1 x2 x3 : Option Value} {o : Nat} {w : Int32} : mw d 366 Q 30 [x0, x1, x2, x3] (.int w :: .ref o :: st) h = (mg h o 14 ∧ mw d 366 Q 33 [x0, x1, x2, x3] (st) (mh_si h o 68 w)) := (mw_at mj_366_30).trans (z_puti (by decide) (by decide) rfl)
theorem mj_366_33 : mc_P 366 33 = some (.aload_n 0, 1, 0, 0, 0) := by decide +kernel
theorem s_366_33 {x1 x2 x3 : Option Value} {w : Value} : mw d 366 Q 33 [some w, x1, x2, x3] (st) h = mv_a w (mw d 366 Q 34 [some w, x1, x2, x3] (w :: st) h) := (mw_at mj_366_33).trans (z_aload_n rfl)
theorem mj_366_34 : mc_P 366 34 = some (.getfield 109, 3, 14, 49, 0) := by decide +kernel
theorem s_366_34 {x0 x1 x2 x3 : Option Value} {o : Nat} : mw d 366 Q 34 [x0, x1, x2, x3] (.ref o :: st) h = (mg h o 14 ∧ mw d 366 Q 37 [x0, x1, x2, x3] (.int (mh_i h o 49) :: st) h) := (mw_at mj_366_34).trans (z_geti (by decide) (by decide) (Or.inl rfl))
theorem mj_366_37 : mc_P 366 37 = some (.iconst 3, 1, 0, 0, 0) := by decide +kernel
theorem s_366_37 {x0 x1 x2 x3 : Option Value} : mw d 366 Q 37 [x0, x1, x2, x3] (st) h = mw d 366 Q 38 [x0, x1, x2, x3] (.int 3 :: st) h := (mw_at mj_366_37).trans (z_iconst (by decide))
theorem mj_366_38 : mc_P 366 38 = some (.if_icmp .eq 7, 3, 0, 0, 0) := by decide +kernel
theorem s_366_38 {x0 x1 x2 x3 : Option Value} {x w : Int32} : mw d 366 Q 38 [x0, x1, x2, x3] (.int w :: .int x :: st) h = mB (x = w) (mw d 366 Q) 45 41 [x0, x1, x2, x3] st h := (mw_at mj_366_38).trans (z_icmp_eq (by decide) rfl)
theorem mj_366_41 : mc_P 366 41 = some (.iconst 1, 1, 0, 0, 0) := by decide +kernel
theorem s_366_41 {x0 x1 x2 x3 : Option Value} : mw d 366 Q 41 [x0, x1, x2, x3] (st) h = mw d 366 Q 42 [x0, x1, x2, x3] (.int 1 :: st) h := (mw_at mj_366_41).trans (z_iconst (by decide))
theorem mj_366_42 : mc_P 366 42 = some (.goto 4, 3, 0, 0, 0) := by decide +kernel
theorem s_366_42 {x0 x1 x2 x3 : Option Value} : mw d 366 Q 42 [x0, x1, x2, x3] (st) h = mw d 366 Q 46 [x0, x1, x2, x3] (st) h := (mw_at mj_366_42).trans (z_goto (by decide))
theorem mj_366_45 : mc_P 366 45 = some (.iconst 0, 1, 0, 0, 0) := by decide +kernel
theorem s_366_45 {x0 x1 x2 x3 : Option Value} : mw d 366 Q 45 [x0, x1, x2, x3] (st) h = mw d 366 Q 46 [x0, x1, x2, x3] (.int 0 :: st) h := (mw_at mj_366_45).trans (z_iconst (by decide))
theorem mj_366_46 : mc_P 366 46 = some (.istore_n 2, 1, 0, 0, 0) := by decide +kernel
theorem s_366_46 {x0 x1 x2 x3 : Option Value} {w : Int32} : mw d 366 Q 46 [x0, x1, x2, x3] (.int w :: st) h = mw d 366 Q 47 [x0, mk2 x1, some (.int w), x3] (st) h := (mw_at mj_366_46).trans (z_istore_n (Nat.le_of_ble_eq_true rfl) (me_s1_mk (j := 1) (w := x1) rfl))
theorem mj_366_47 : mc_P 366 47 = some (.aload_n 0, 1, 0, 0, 0) := by decide +kernel
theorem s_366_47 {x1 x2 x3 : Option Value} {w : Value} : mw d 366 Q 47 [some w, x1, x2, x3] (st) h = mv_a w (mw d 366 Q 48 [some w, x1, x2, x3] (w :: st) h) := (mw_at mj_366_47).trans (z_aload_n rfl)
theorem mj_366_48 : mc_P 366 48 = some (.iload_n 2, 1, 0, 0, 0) := by decide +kernel
theorem s_366_48 {x0 x1 x3 : Option Value} {w : Value} : mw d 366 Q 48 [x0, x1, some w, x3] (st) h = mv_i w (mw d 366 Q 49 [x0, x1, some w, x3] (w :: st) h) := (mw_at mj_366_48).trans (z_iload_n rfl)
theorem mj_366_49 : mc_P 366 49 = some (.ifCond .eq 18, 3, 0, 0, 0) := by decide +kernel
theorem s_366_49 {x0 x1 x2 x3 : Option Value} {x : Int32} : mw d 366 Q 49 [x0, x1, x2, x3] (.int x :: st) h = mB (x = 0) (mw d 366 Q) 67 52 [x0, x1, x2, x3] st h := (mw_at mj_366_49).trans (z_if_eq (by decide) rfl)
theorem mj_366_52 : mc_P 366 52 = some (.aload_n 0, 1, 0, 0, 0) := by decide +kernel
theorem s_366_52 {x1 x2 x3 : Option Value} {w : Value} : mw d 366 Q 52 [some w, x1, x2, x3] (st) h = mv_a w (mw d 366 Q 53 [some w, x1, x2, x3] (w :: st) h) := (mw_at mj_366_52).trans (z_aload_n rfl)
theorem mj_366_53 : mc_P 366 53 = some (.getfield 121, 3, 14, 52, 0) := by decide +kernel
theorem s_366_53 {x0 x1 x2 x3 : Option Value} {o : Nat} : mw d 366 Q 53 [x0, x1, x2, x3] (.ref o :: st) h = (mg h o 14 ∧ mw d 366 Q 56 [x0, x1, x2, x3] (va_rf (mh_r h o 52) :: st) h) := (mw_at mj_366_53).trans (z_getr (by decide) (by decide) rfl)
theorem mj_366_56 : mc_P 366 56 = some (.invokevirtual 469, 3, 275, 12, 1) := by decide +kernel
theorem s_366_56 {x0 x1 x2 x3 : Option Value} {o : Nat} : mw (d + 1) 366 Q 56 [x0, x1, x2, x3] (.ref o :: st) h = (mg h o 12 ∧ mca st 8 ∧ mca [.ref o] 2 ∧ mcall d 275 [.ref o] h (mK (d + 1) 366 Q 59 [x0, x1, x2, x3] st)) := (mw_at mj_366_56).trans ((z_invv (As := []) (by decide) rfl rfl).trans (congrArg (And _) (congrArg (And _) (mC_nl nl_275))))
theorem mj_366_59 : mc_P 366 59 = some (.iconst (-1), 1, 0, 0, 0) := by decide +kernel
theorem s_366_59 {x0 x1 x2 x3 : Option Value} : mw d 366 Q 59 [x0, x1, x2, x3] (st) h = mw d 366 Q 60 [x0, x1, x2, x3] (.int (-1) :: st) h := (mw_at mj_366_59).trans (z_iconst (by decide))
theorem mj_366_60 : mc_P 366 60 = some (.if_icmp .ne 7, 3, 0, 0, 0) := by decide +kernel
theorem s_366_60 {x0 x1 x2 x3 : Option Value} {x w : Int32} : mw d 366 Q 60 [x0, x1, x2, x3] (.int w :: .int x :: st) h = mB (¬ x = w) (mw d 366 Q) 67 63 [x0, x1, x2, x3] st h := (mw_at mj_366_60).trans (z_icmp_ne (by decide) rfl)
theorem mj_366_63 : mc_P 366 63 = some (.iconst 1, 1, 0, 0, 0) := by decide +kernel
theorem s_366_63 {x0 x1 x2 x3 : Option Value} : mw d 366 Q 63 [x0, x1, x2, x3] (st) h = mw d 366 Q 64 [x0, x1, x2, x3] (.int 1 :: st) h := (mw_at mj_366_63).trans (z_iconst (by decide))
theorem mj_366_64 : mc_P 366 64 = some (.goto 4, 3, 0, 0, 0) := by decide +kernel
theorem s_366_64 {x0 x1 x2 x3 : Option Value} : mw d 366 Q 64 [x0, x1, x2, x3] (st) h = mw d 366 Q 68 [x0, x1, x2, x3] (st) h := (mw_at mj_366_64).trans (z_goto (by decide))
theorem mj_366_67 : mc_P 366 67 = some (.iconst 0, 1, 0, 0, 0) := by decide +kernel
theorem s_366_67 {x0 x1 x2 x3 : Option Value} : mw d 366 Q 67 [x0, x1, x2, x3] (st) h = mw d 366 Q 68 [x0, x1, x2, x3] (.int 0 :: st) h := (mw_at mj_366_67).trans (z_iconst (by decide))
theorem mj_366_68 : mc_P 366 68 = some (.putfield 472, 3, 14, 55, 0) := by decide +kernel
theorem s_366_68 {x0 x1 x2 x3 : Option Value} {o : Nat} {w : Int32} : mw d 366 Q 68 [x0, x1, x2, x3] (.int w :: .ref o :: st) h = (mg h o 14 ∧ (w = 0 ∨ w = 1) ∧ mw d 366 Q 71 [x0, x1, x2, x3] (st) (mh_si h o 55 w)) := (mw_at mj_366_68).trans (z_putz (by decide) (by decide) rfl)
theorem mj_366_71 : mc_P 366 71 = some (.aload_n 0, 1, 0, 0, 0) := by decide +kernel
theorem s_366_71 {x1 x2 x3 : Option Value} {w : Value} : mw d 366 Q 71 [some w, x1, x2, x3] (st) h = mv_a w (mw d 366 Q 72 [some w, x1, x2, x3] (w :: st) h) := (mw_at mj_366_71).trans (z_aload_n rfl)
theorem mj_366_72 : mc_P 366 72 = some (.dup, 1, 0, 0, 0) := by decide +kernel
theorem s_366_72 {x0 x1 x2 x3 : Option Value} {w : Value} : mw d 366 Q 72 [x0, x1, x2, x3] (w :: st) h = (w.category = 1 ∧ mw d 366 Q 73 [x0, x1, x2, x3] (w :: w :: st) h) := (mw_at mj_366_72).trans (z_dup)
theorem mj_366_73 : mc_P 366 73 = some (.getfield 475, 3, 14, 54, 0) := by decide +kernel
theorem s_366_73 {x0 x1 x2 x3 : Option Value} {o : Nat} : mw d 366 Q 73 [x0, x1, x2, x3] (.ref o :: st) h = (mg h o 14 ∧ mw d 366 Q 76 [x0, x1, x2, x3] (.int (mh_i h o 54) :: st) h) := (mw_at mj_366_73).trans (z_geti (by decide) (by decide) (Or.inl rfl))
theorem mj_366_76 : mc_P 366 76 = some (.iload_n 2, 1, 0, 0, 0) := by decide +kernel
theorem s_366_76 {x0 x1 x3 : Option Value} {w : Value} : mw d 366 Q 76 [x0, x1, some w, x3] (st) h = mv_i w (mw d 366 Q 77 [x0, x1, some w, x3] (w :: st) h) := (mw_at mj_366_76).trans (z_iload_n rfl)
theorem mj_366_77 : mc_P 366 77 = some (.ifCond .eq 14, 3, 0, 0, 0) := by decide +kernel
theorem s_366_77 {x0 x1 x2 x3 : Option Value} {x : Int32} : mw d 366 Q 77 [x0, x1, x2, x3] (.int x :: st) h = mB (x = 0) (mw d 366 Q) 91 80 [x0, x1, x2, x3] st h := (mw_at mj_366_77).trans (z_if_eq (by decide) rfl)
theorem mj_366_80 : mc_P 366 80 = some (.aload_n 0, 1, 0, 0, 0) := by decide +kernel
theorem s_366_80 {x1 x2 x3 : Option Value} {w : Value} : mw d 366 Q 80 [some w, x1, x2, x3] (st) h = mv_a w (mw d 366 Q 81 [some w, x1, x2, x3] (w :: st) h) := (mw_at mj_366_80).trans (z_aload_n rfl)
theorem mj_366_81 : mc_P 366 81 = some (.invokevirtual 478, 3, 367, 14, 1) := by decide +kernel
theorem s_366_81 {x0 x1 x2 x3 : Option Value} {o : Nat} : mw (d + 1) 366 Q 81 [x0, x1, x2, x3] (.ref o :: st) h = (mg h o 14 ∧ mca st 8 ∧ mca [.ref o] 1 ∧ mcall d 367 [.ref o] h (mK (d + 1) 366 Q 84 [x0, x1, x2, x3] st)) := (mw_at mj_366_81).trans ((z_invv (As := []) (by decide) rfl rfl).trans (congrArg (And _) (congrArg (And _) (mC_nl nl_367))))
theorem mj_366_84 : mc_P 366 84 = some (.ifCond .eq 7, 3, 0, 0, 0) := by decide +kernel
theorem s_366_84 {x0 x1 x2 x3 : Option Value} {x : Int32} : mw d 366 Q 84 [x0, x1, x2, x3] (.int x :: st) h = mB (x = 0) (mw d 366 Q) 91 87 [x0, x1, x2, x3] st h := (mw_at mj_366_84).trans (z_if_eq (by decide) rfl)
theorem mj_366_87 : mc_P 366 87 = some (.iconst 1, 1, 0, 0, 0) := by decide +kernel
theorem s_366_87 {x0 x1 x2 x3 : Option Value} : mw d 366 Q 87 [x0, x1, x2, x3] (st) h = mw d 366 Q 88 [x0, x1, x2, x3] (.int 1 :: st) h := (mw_at mj_366_87).trans (z_iconst (by decide))
theorem mj_366_88 : mc_P 366 88 = some (.goto 4, 3, 0, 0, 0) := by decide +kernel
theorem s_366_88 {x0 x1 x2 x3 : Option Value} : mw d 366 Q 88 [x0, x1, x2, x3] (st) h = mw d 366 Q 92 [x0, x1, x2, x3] (st) h := (mw_at mj_366_88).trans (z_goto (by decide))
theorem mj_366_91 : mc_P 366 91 = some (.iconst 0, 1, 0, 0, 0) := by decide +kernel
theorem s_366_91 {x0 x1 x2 x3 : Option Value} : mw d 366 Q 91 [x0, x1, x2, x3] (st) h = mw d 366 Q 92 [x0, x1, x2, x3] (.int 0 :: st) h := (mw_at mj_366_91).trans (z_iconst (by decide))
theorem mj_366_92 : mc_P 366 92 = some (.iadd, 1, 0, 0, 0) := by decide +kernel
theorem s_366_92 {x0 x1 x2 x3 : Option Value} {x w : Int32} : mw d 366 Q 92 [x0, x1, x2, x3] (.int w :: .int x :: st) h = mw d 366 Q 93 [x0, x1, x2, x3] (.int (x + w) :: st) h := (mw_at mj_366_92).trans (z_iadd)
theorem mj_366_93 : mc_P 366 93 = some (.putfield 475, 3, 14, 54, 0) := by decide +kernel
theorem s_366_93 {x0 x1 x2 x3 : Option Value} {o : Nat} {w : Int32} : mw d 366 Q 93 [x0, x1, x2, x3] (.int w :: .ref o :: st) h = (mg h o 14 ∧ mw d 366 Q 96 [x0, x1, x2, x3] (st) (mh_si h o 54 w)) := (mw_at mj_366_93).trans (z_puti (by decide) (by decide) rfl)
theorem mj_366_96 : mc_P 366 96 = some (.aload_n 0, 1, 0, 0, 0) := by decide +kernel
theorem s_366_96 {x1 x2 x3 : Option Value} {w : Value} : mw d 366 Q 96 [some w, x1, x2, x3] (st) h = mv_a w (mw d 366 Q 97 [some w, x1, x2, x3] (w :: st) h) := (mw_at mj_366_96).trans (z_aload_n rfl)
theorem mj_366_97 : mc_P 366 97 = some (.getfield 182, 3, 14, 65, 0) := by decide +kernel
theorem s_366_97 {x0 x1 x2 x3 : Option Value} {o : Nat} : mw d 366 Q 97 [x0, x1, x2, x3] (.ref o :: st) h = (mg h o 14 ∧ mw d 366 Q 100 [x0, x1, x2, x3] (.int (mh_i h o 65) :: st) h) := (mw_at mj_366_97).trans (z_geti (by decide) (by decide) (Or.inl rfl))
theorem mj_366_100 : mc_P 366 100 = some (.iload_n 1, 1, 0, 0, 0) := by decide +kernel
theorem s_366_100 {x0 x2 x3 : Option Value} {w : Value} : mw d 366 Q 100 [x0, some w, x2, x3] (st) h = mv_i w (mw d 366 Q 101 [x0, some w, x2, x3] (w :: st) h) := (mw_at mj_366_100).trans (z_iload_n rfl)
theorem mj_366_101 : mc_P 366 101 = some (.if_icmp .ge 119, 3, 0, 0, 0) := by decide +kernel
theorem s_366_101 {x0 x1 x2 x3 : Option Value} {x w : Int32} : mw d 366 Q 101 [x0, x1, x2, x3] (.int w :: .int x :: st) h = mB (w ≤ x) (mw d 366 Q) 220 104 [x0, x1, x2, x3] st h := (mw_at mj_366_101).trans (z_icmp_ge (by decide) rfl)
theorem mj_366_104 : mc_P 366 104 = some (.aload_n 0, 1, 0, 0, 0) := by decide +kernel
theorem s_366_104 {x1 x2 x3 : Option Value} {w : Value} : mw d 366 Q 104 [some w, x1, x2, x3] (st) h = mv_a w (mw d 366 Q 105 [some w, x1, x2, x3] (w :: st) h) := (mw_at mj_366_104).trans (z_aload_n rfl)
theorem mj_366_105 : mc_P 366 105 = some (.getfield 427, 3, 14, 68, 0) := by decide +kernel
theorem s_366_105 {x0 x1 x2 x3 : Option Value} {o : Nat} : mw d 366 Q 105 [x0, x1, x2, x3] (.ref o :: st) h = (mg h o 14 ∧ mw d 366 Q 108 [x0, x1, x2, x3] (.int (mh_i h o 68) :: st) h) := (mw_at mj_366_105).trans (z_geti (by decide) (by decide) (Or.inl rfl))
theorem mj_366_108 : mc_P 366 108 = some (.ifCond .ne 112, 3, 0, 0, 0) := by decide +kernel
theorem s_366_108 {x0 x1 x2 x3 : Option Value} {x : Int32} : mw d 366 Q 108 [x0, x1, x2, x3] (.int x :: st) h = mB (¬ x = 0) (mw d 366 Q) 220 111 [x0, x1, x2, x3] st h := (mw_at mj_366_108).trans (z_if_ne (by decide) rfl)
theorem mj_366_111 : mc_P 366 111 = some (.aload_n 0, 1, 0, 0, 0) := by decide +kernel
theorem s_366_111 {x1 x2 x3 : Option Value} {w : Value} : mw d 366 Q 111 [some w, x1, x2, x3] (st) h = mv_a w (mw d 366 Q 112 [some w, x1, x2, x3] (w :: st) h) := (mw_at mj_366_111).trans (z_aload_n rfl)
theorem mj_366_112 : mc_P 366 112 = some (.getfield 179, 3, 14, 64, 0) := by decide +kernel
theorem s_366_112 {x0 x1 x2 x3 : Option Value} {o : Nat} : mw d 366 Q 112 [x0, x1, x2, x3] (.ref o :: st) h = (mg h o 14 ∧ mw d 366 Q 115 [x0, x1, x2, x3] (.int (mh_i h o 64) :: st) h) := (mw_at mj_366_112).trans (z_geti (by decide) (by decide) (Or.inl rfl))
theorem mj_366_115 : mc_P 366 115 = some (.aload_n 0, 1, 0, 0, 0) := by decide +kernel
theorem s_366_115 {x1 x2 x3 : Option Value} {w : Value} : mw d 366 Q 115 [some w, x1, x2, x3] (st) h = mv_a w (mw d 366 Q 116 [some w, x1, x2, x3] (w :: st) h) := (mw_at mj_366_115).trans (z_aload_n rfl)
theorem mj_366_116 : mc_P 366 116 = some (.getfield 176, 3, 14, 33, 0) := by decide +kernel
theorem s_366_116 {x0 x1 x2 x3 : Option Value} {o : Nat} : mw d 366 Q 116 [x0, x1, x2, x3] (.ref o :: st) h = (mg h o 14 ∧ mw d 366 Q 119 [x0, x1, x2, x3] (.int (mh_i h o 33) :: st) h) := (mw_at mj_366_116).trans (z_geti (by decide) (by decide) (Or.inl rfl))
theorem mj_366_119 : mc_P 366 119 = some (.iconst 1, 1, 0, 0, 0) := by decide +kernel
theorem s_366_119 {x0 x1 x2 x3 : Option Value} : mw d 366 Q 119 [x0, x1, x2, x3] (st) h = mw d 366 Q 120 [x0, x1, x2, x3] (.int 1 :: st) h := (mw_at mj_366_119).trans (z_iconst (by decide))
theorem mj_366_120 : mc_P 366 120 = some (.isub, 1, 0, 0, 0) := by decide +kernel
theorem s_366_120 {x0 x1 x2 x3 : Option Value} {x w : Int32} : mw d 366 Q 120 [x0, x1, x2, x3] (.int w :: .int x :: st) h = mw d 366 Q 121 [x0, x1, x2, x3] (.int (x - w) :: st) h := (mw_at mj_366_120).trans (z_isub)
theorem mj_366_121 : mc_P 366 121 = some (.if_icmp .ge 99, 3, 0, 0, 0) := by decide +kernel
theorem s_366_121 {x0 x1 x2 x3 : Option Value} {x w : Int32} : mw d 366 Q 121 [x0, x1, x2, x3] (.int w :: .int x :: st) h = mB (w ≤ x) (mw d 366 Q) 220 124 [x0, x1, x2, x3] st h := (mw_at mj_366_121).trans (z_icmp_ge (by decide) rfl)
theorem mj_366_124 : mc_P 366 124 = some (.aload_n 0, 1, 0, 0, 0) := by decide +kernel
theorem s_366_124 {x1 x2 x3 : Option Value} {w : Value} : mw d 366 Q 124 [some w, x1, x2, x3] (st) h = mv_a w (mw d 366 Q 125 [some w, x1, x2, x3] (w :: st) h) := (mw_at mj_366_124).trans (z_aload_n rfl)
theorem mj_366_125 : mc_P 366 125 = some (.invokevirtual 481, 3, 364, 14, 1) := by decide +kernel
theorem s_366_125 {x0 x1 x2 x3 : Option Value} {o : Nat} : mw (d + 1) 366 Q 125 [x0, x1, x2, x3] (.ref o :: st) h = (mg h o 14 ∧ mca st 8 ∧ mca [.ref o] 10 ∧ mcall d 364 [.ref o] h (mK (d + 1) 366 Q 128 [x0, x1, x2, x3] st)) := (mw_at mj_366_125).trans ((z_invv (As := []) (by decide) rfl rfl).trans (congrArg (And _) (congrArg (And _) (mC_nl nl_364))))
theorem mj_366_128 : mc_P 366 128 = some (.istore_n 3, 1, 0, 0, 0) := by decide +kernel
theorem s_366_128 {x0 x1 x2 x3 : Option Value} {w : Int32} : mw d 366 Q 128 [x0, x1, x2, x3] (.int w :: st) h = mw d 366 Q 129 [x0, x1, mk2 x2, some (.int w)] (st) h := (mw_at mj_366_128).trans (z_istore_n (Nat.le_of_ble_eq_true rfl) (me_s1_mk (j := 2) (w := x2) rfl))
theorem mj_366_129 : mc_P 366 129 = some (.aload_n 0, 1, 0, 0, 0) := by decide +kernel
theorem s_366_129 {x1 x2 x3 : Option Value} {w : Value} : mw d 366 Q 129 [some w, x1, x2, x3] (st) h = mv_a w (mw d 366 Q 130 [some w, x1, x2, x3] (w :: st) h) := (mw_at mj_366_129).trans (z_aload_n rfl)
theorem mj_366_130 : mc_P 366 130 = some (.dup, 1, 0, 0, 0) := by decide +kernel
theorem s_366_130 {x0 x1 x2 x3 : Option Value} {w : Value} : mw d 366 Q 130 [x0, x1, x2, x3] (w :: st) h = (w.category = 1 ∧ mw d 366 Q 131 [x0, x1, x2, x3] (w :: w :: st) h) := (mw_at mj_366_130).trans (z_dup)
theorem mj_366_131 : mc_P 366 131 = some (.getfield 182, 3, 14, 65, 0) := by decide +kernel
theorem s_366_131 {x0 x1 x2 x3 : Option Value} {o : Nat} : mw d 366 Q 131 [x0, x1, x2, x3] (.ref o :: st) h = (mg h o 14 ∧ mw d 366 Q 134 [x0, x1, x2, x3] (.int (mh_i h o 65) :: st) h) := (mw_at mj_366_131).trans (z_geti (by decide) (by decide) (Or.inl rfl))
theorem mj_366_134 : mc_P 366 134 = some (.iconst 1, 1, 0, 0, 0) := by decide +kernel
theorem s_366_134 {x0 x1 x2 x3 : Option Value} : mw d 366 Q 134 [x0, x1, x2, x3] (st) h = mw d 366 Q 135 [x0, x1, x2, x3] (.int 1 :: st) h := (mw_at mj_366_134).trans (z_iconst (by decide))
theorem mj_366_135 : mc_P 366 135 = some (.iadd, 1, 0, 0, 0) := by decide +kernel
theorem s_366_135 {x0 x1 x2 x3 : Option Value} {x w : Int32} : mw d 366 Q 135 [x0, x1, x2, x3] (.int w :: .int x :: st) h = mw d 366 Q 136 [x0, x1, x2, x3] (.int (x + w) :: st) h := (mw_at mj_366_135).trans (z_iadd)
theorem mj_366_136 : mc_P 366 136 = some (.putfield 182, 3, 14, 65, 0) := by decide +kernel
theorem s_366_136 {x0 x1 x2 x3 : Option Value} {o : Nat} {w : Int32} : mw d 366 Q 136 [x0, x1, x2, x3] (.int w :: .ref o :: st) h = (mg h o 14 ∧ mw d 366 Q 139 [x0, x1, x2, x3] (st) (mh_si h o 65 w)) := (mw_at mj_366_136).trans (z_puti (by decide) (by decide) rfl)
theorem mj_366_139 : mc_P 366 139 = some (.aload_n 0, 1, 0, 0, 0) := by decide +kernel
theorem s_366_139 {x1 x2 x3 : Option Value} {w : Value} : mw d 366 Q 139 [some w, x1, x2, x3] (st) h = mv_a w (mw d 366 Q 140 [some w, x1, x2, x3] (w :: st) h) := (mw_at mj_366_139).trans (z_aload_n rfl)
theorem mj_366_140 : mc_P 366 140 = some (.getfield 427, 3, 14, 68, 0) := by decide +kernel
theorem s_366_140 {x0 x1 x2 x3 : Option Value} {o : Nat} : mw d 366 Q 140 [x0, x1, x2, x3] (.ref o :: st) h = (mg h o 14 ∧ mw d 366 Q 143 [x0, x1, x2, x3] (.int (mh_i h o 68) :: st) h) := (mw_at mj_366_140).trans (z_geti (by decide) (by decide) (Or.inl rfl))
theorem mj_366_143 : mc_P 366 143 = some (.ifCond .ne 36, 3, 0, 0, 0) := by decide +kernel
theorem s_366_143 {x0 x1 x2 x3 : Option Value} {x : Int32} : mw d 366 Q 143 [x0, x1, x2, x3] (.int x :: st) h = mB (¬ x = 0) (mw d 366 Q) 179 146 [x0, x1, x2, x3] st h := (mw_at mj_366_143).trans (z_if_ne (by decide) rfl)
theorem mj_366_146 : mc_P 366 146 = some (.aload_n 0, 1, 0, 0, 0) := by decide +kernel
theorem s_366_146 {x1 x2 x3 : Option Value} {w : Value} : mw d 366 Q 146 [some w, x1, x2, x3] (st) h = mv_a w (mw d 366 Q 147 [some w, x1, x2, x3] (w :: st) h) := (mw_at mj_366_146).trans (z_aload_n rfl)
theorem mj_366_147 : mc_P 366 147 = some (.iload_n 3, 1, 0, 0, 0) := by decide +kernel
theorem s_366_147 {x0 x1 x2 : Option Value} {w : Value} : mw d 366 Q 147 [x0, x1, x2, some w] (st) h = mv_i w (mw d 366 Q 148 [x0, x1, x2, some w] (w :: st) h) := (mw_at mj_366_147).trans (z_iload_n rfl)
theorem mj_366_148 : mc_P 366 148 = some (.putfield 179, 3, 14, 64, 0) := by decide +kernel
theorem s_366_148 {x0 x1 x2 x3 : Option Value} {o : Nat} {w : Int32} : mw d 366 Q 148 [x0, x1, x2, x3] (.int w :: .ref o :: st) h = (mg h o 14 ∧ mw d 366 Q 151 [x0, x1, x2, x3] (st) (mh_si h o 64 w)) := (mw_at mj_366_148).trans (z_puti (by decide) (by decide) rfl)
theorem mj_366_151 : mc_P 366 151 = some (.aload_n 0, 1, 0, 0, 0) := by decide +kernel
theorem s_366_151 {x1 x2 x3 : Option Value} {w : Value} : mw d 366 Q 151 [some w, x1, x2, x3] (st) h = mv_a w (mw d 366 Q 152 [some w, x1, x2, x3] (w :: st) h) := (mw_at mj_366_151).trans (z_aload_n rfl)
theorem mj_366_152 : mc_P 366 152 = some (.dup, 1, 0, 0, 0) := by decide +kernel
theorem s_366_152 {x0 x1 x2 x3 : Option Value} {w : Value} : mw d 366 Q 152 [x0, x1, x2, x3] (w :: st) h = (w.category = 1 ∧ mw d 366 Q 153 [x0, x1, x2, x3] (w :: w :: st) h) := (mw_at mj_366_152).trans (z_dup)
theorem mj_366_153 : mc_P 366 153 = some (.getfield 475, 3, 14, 54, 0) := by decide +kernel
theorem s_366_153 {x0 x1 x2 x3 : Option Value} {o : Nat} : mw d 366 Q 153 [x0, x1, x2, x3] (.ref o :: st) h = (mg h o 14 ∧ mw d 366 Q 156 [x0, x1, x2, x3] (.int (mh_i h o 54) :: st) h) := (mw_at mj_366_153).trans (z_geti (by decide) (by decide) (Or.inl rfl))
theorem mj_366_156 : mc_P 366 156 = some (.iload_n 2, 1, 0, 0, 0) := by decide +kernel
theorem s_366_156 {x0 x1 x3 : Option Value} {w : Value} : mw d 366 Q 156 [x0, x1, some w, x3] (st) h = mv_i w (mw d 366 Q 157 [x0, x1, some w, x3] (w :: st) h) := (mw_at mj_366_156).trans (z_iload_n rfl)
theorem mj_366_157 : mc_P 366 157 = some (.ifCond .eq 14, 3, 0, 0, 0) := by decide +kernel
theorem s_366_157 {x0 x1 x2 x3 : Option Value} {x : Int32} : mw d 366 Q 157 [x0, x1, x2, x3] (.int x :: st) h = mB (x = 0) (mw d 366 Q) 171 160 [x0, x1, x2, x3] st h := (mw_at mj_366_157).trans (z_if_eq (by decide) rfl)
theorem mj_366_160 : mc_P 366 160 = some (.aload_n 0, 1, 0, 0, 0) := by decide +kernel
theorem s_366_160 {x1 x2 x3 : Option Value} {w : Value} : mw d 366 Q 160 [some w, x1, x2, x3] (st) h = mv_a w (mw d 366 Q 161 [some w, x1, x2, x3] (w :: st) h) := (mw_at mj_366_160).trans (z_aload_n rfl)
theorem mj_366_161 : mc_P 366 161 = some (.invokevirtual 478, 3, 367, 14, 1) := by decide +kernel
theorem s_366_161 {x0 x1 x2 x3 : Option Value} {o : Nat} : mw (d + 1) 366 Q 161 [x0, x1, x2, x3] (.ref o :: st) h = (mg h o 14 ∧ mca st 8 ∧ mca [.ref o] 1 ∧ mcall d 367 [.ref o] h (mK (d + 1) 366 Q 164 [x0, x1, x2, x3] st)) := (mw_at mj_366_161).trans ((z_invv (As := []) (by decide) rfl rfl).trans (congrArg (And _) (congrArg (And _) (mC_nl nl_367))))
theorem mj_366_164 : mc_P 366 164 = some (.ifCond .eq 7, 3, 0, 0, 0) := by decide +kernel
theorem s_366_164 {x0 x1 x2 x3 : Option Value} {x : Int32} : mw d 366 Q 164 [x0, x1, x2, x3] (.int x :: st) h = mB (x = 0) (mw d 366 Q) 171 167 [x0, x1, x2, x3] st h := (mw_at mj_366_164).trans (z_if_eq (by decide) rfl)
theorem mj_366_167 : mc_P 366 167 = some (.iconst 1, 1, 0, 0, 0) := by decide +kernel
theorem s_366_167 {x0 x1 x2 x3 : Option Value} : mw d 366 Q 167 [x0, x1, x2, x3] (st) h = mw d 366 Q 168 [x0, x1, x2, x3] (.int 1 :: st) h := (mw_at mj_366_167).trans (z_iconst (by decide))
theorem mj_366_168 : mc_P 366 168 = some (.goto 4, 3, 0, 0, 0) := by decide +kernel
theorem s_366_168 {x0 x1 x2 x3 : Option Value} : mw d 366 Q 168 [x0, x1, x2, x3] (st) h = mw d 366 Q 172 [x0, x1, x2, x3] (st) h := (mw_at mj_366_168).trans (z_goto (by decide))
theorem mj_366_171 : mc_P 366 171 = some (.iconst 0, 1, 0, 0, 0) := by decide +kernel
theorem s_366_171 {x0 x1 x2 x3 : Option Value} : mw d 366 Q 171 [x0, x1, x2, x3] (st) h = mw d 366 Q 172 [x0, x1, x2, x3] (.int 0 :: st) h := (mw_at mj_366_171).trans (z_iconst (by decide))
theorem mj_366_172 : mc_P 366 172 = some (.iadd, 1, 0, 0, 0) := by decide +kernel
theorem s_366_172 {x0 x1 x2 x3 : Option Value} {x w : Int32} : mw d 366 Q 172 [x0, x1, x2, x3] (.int w :: .int x :: st) h = mw d 366 Q 173 [x0, x1, x2, x3] (.int (x + w) :: st) h := (mw_at mj_366_172).trans (z_iadd)
theorem mj_366_173 : mc_P 366 173 = some (.putfield 475, 3, 14, 54, 0) := by decide +kernel
theorem s_366_173 {x0 x1 x2 x3 : Option Value} {o : Nat} {w : Int32} : mw d 366 Q 173 [x0, x1, x2, x3] (.int w :: .ref o :: st) h = (mg h o 14 ∧ mw d 366 Q 176 [x0, x1, x2, x3] (st) (mh_si h o 54 w)) := (mw_at mj_366_173).trans (z_puti (by decide) (by decide) rfl)
theorem mj_366_176 : mc_P 366 176 = some (.goto 41, 3, 0, 0, 0) := by decide +kernel
theorem s_366_176 {x0 x1 x2 x3 : Option Value} : mw d 366 Q 176 [x0, x1, x2, x3] (st) h = mw d 366 Q 217 [x0, x1, x2, x3] (st) h := (mw_at mj_366_176).trans (z_goto (by decide))
theorem mj_366_179 : mc_P 366 179 = some (.aload_n 0, 1, 0, 0, 0) := by decide +kernel
theorem s_366_179 {x1 x2 x3 : Option Value} {w : Value} : mw d 366 Q 179 [some w, x1, x2, x3] (st) h = mv_a w (mw d 366 Q 180 [some w, x1, x2, x3] (w :: st) h) := (mw_at mj_366_179).trans (z_aload_n rfl)
theorem mj_366_180 : mc_P 366 180 = some (.dup, 1, 0, 0, 0) := by decide +kernel
theorem s_366_180 {x0 x1 x2 x3 : Option Value} {w : Value} : mw d 366 Q 180 [x0, x1, x2, x3] (w :: st) h = (w.category = 1 ∧ mw d 366 Q 181 [x0, x1, x2, x3] (w :: w :: st) h) := (mw_at mj_366_180).trans (z_dup)
theorem mj_366_181 : mc_P 366 181 = some (.getfield 475, 3, 14, 54, 0) := by decide +kernel
theorem s_366_181 {x0 x1 x2 x3 : Option Value} {o : Nat} : mw d 366 Q 181 [x0, x1, x2, x3] (.ref o :: st) h = (mg h o 14 ∧ mw d 366 Q 184 [x0, x1, x2, x3] (.int (mh_i h o 54) :: st) h) := (mw_at mj_366_181).trans (z_geti (by decide) (by decide) (Or.inl rfl))
theorem mj_366_184 : mc_P 366 184 = some (.iload_n 2, 1, 0, 0, 0) := by decide +kernel
theorem s_366_184 {x0 x1 x3 : Option Value} {w : Value} : mw d 366 Q 184 [x0, x1, some w, x3] (st) h = mv_i w (mw d 366 Q 185 [x0, x1, some w, x3] (w :: st) h) := (mw_at mj_366_184).trans (z_iload_n rfl)
theorem mj_366_185 : mc_P 366 185 = some (.ifCond .eq 27, 3, 0, 0, 0) := by decide +kernel
theorem s_366_185 {x0 x1 x2 x3 : Option Value} {x : Int32} : mw d 366 Q 185 [x0, x1, x2, x3] (.int x :: st) h = mB (x = 0) (mw d 366 Q) 212 188 [x0, x1, x2, x3] st h := (mw_at mj_366_185).trans (z_if_eq (by decide) rfl)
theorem mj_366_188 : mc_P 366 188 = some (.aload_n 0, 1, 0, 0, 0) := by decide +kernel
theorem s_366_188 {x1 x2 x3 : Option Value} {w : Value} : mw d 366 Q 188 [some w, x1, x2, x3] (st) h = mv_a w (mw d 366 Q 189 [some w, x1, x2, x3] (w :: st) h) := (mw_at mj_366_188).trans (z_aload_n rfl)
theorem mj_366_189 : mc_P 366 189 = some (.getfield 121, 3, 14, 52, 0) := by decide +kernel
theorem s_366_189 {x0 x1 x2 x3 : Option Value} {o : Nat} : mw d 366 Q 189 [x0, x1, x2, x3] (.ref o :: st) h = (mg h o 14 ∧ mw d 366 Q 192 [x0, x1, x2, x3] (va_rf (mh_r h o 52) :: st) h) := (mw_at mj_366_189).trans (z_getr (by decide) (by decide) rfl)
theorem mj_366_192 : mc_P 366 192 = some (.getfield 421, 3, 12, 6, 0) := by decide +kernel
theorem s_366_192 {x0 x1 x2 x3 : Option Value} {o : Nat} : mw d 366 Q 192 [x0, x1, x2, x3] (.ref o :: st) h = (mg h o 12 ∧ mw d 366 Q 195 [x0, x1, x2, x3] (va_rf (mh_r h o 6) :: st) h) := (mw_at mj_366_192).trans (z_getr (by decide) (by decide) rfl)
theorem mj_366_195 : mc_P 366 195 = some (.aload_n 0, 1, 0, 0, 0) := by decide +kernel
theorem s_366_195 {x1 x2 x3 : Option Value} {w : Value} : mw d 366 Q 195 [some w, x1, x2, x3] (st) h = mv_a w (mw d 366 Q 196 [some w, x1, x2, x3] (w :: st) h) := (mw_at mj_366_195).trans (z_aload_n rfl)
theorem mj_366_196 : mc_P 366 196 = some (.getfield 179, 3, 14, 64, 0) := by decide +kernel
theorem s_366_196 {x0 x1 x2 x3 : Option Value} {o : Nat} : mw d 366 Q 196 [x0, x1, x2, x3] (.ref o :: st) h = (mg h o 14 ∧ mw d 366 Q 199 [x0, x1, x2, x3] (.int (mh_i h o 64) :: st) h) := (mw_at mj_366_196).trans (z_geti (by decide) (by decide) (Or.inl rfl))
theorem mj_366_199 : mc_P 366 199 = some (.iaload, 1, 0, 0, 0) := by decide +kernel
theorem s_366_199 {x0 x1 x2 x3 : Option Value} {o : Nat} {i : Int32} : mw d 366 Q 199 [x0, x1, x2, x3] (.int i :: .ref o :: st) h = (mg h o 100 ∧ mx i (mh_l h o) ∧ mw d 366 Q 200 [x0, x1, x2, x3] (.int (mh_i h o i.toNatClampNeg) :: st) h) := (mw_at mj_366_199).trans (z_iald)
theorem mj_366_200 : mc_P 366 200 = some (.aload_n 0, 1, 0, 0, 0) := by decide +kernel
theorem s_366_200 {x1 x2 x3 : Option Value} {w : Value} : mw d 366 Q 200 [some w, x1, x2, x3] (st) h = mv_a w (mw d 366 Q 201 [some w, x1, x2, x3] (w :: st) h) := (mw_at mj_366_200).trans (z_aload_n rfl)
theorem mj_366_201 : mc_P 366 201 = some (.getfield 427, 3, 14, 68, 0) := by decide +kernel
theorem s_366_201 {x0 x1 x2 x3 : Option Value} {o : Nat} : mw d 366 Q 201 [x0, x1, x2, x3] (.ref o :: st) h = (mg h o 14 ∧ mw d 366 Q 204 [x0, x1, x2, x3] (.int (mh_i h o 68) :: st) h) := (mw_at mj_366_201).trans (z_geti (by decide) (by decide) (Or.inl rfl))
theorem mj_366_204 : mc_P 366 204 = some (.iand, 1, 0, 0, 0) := by decide +kernel
theorem s_366_204 {x0 x1 x2 x3 : Option Value} {x w : Int32} : mw d 366 Q 204 [x0, x1, x2, x3] (.int w :: .int x :: st) h = mw d 366 Q 205 [x0, x1, x2, x3] (.int (x &&& w) :: st) h := (mw_at mj_366_204).trans (z_iand)
theorem mj_366_205 : mc_P 366 205 = some (.ifCond .ne 7, 3, 0, 0, 0) := by decide +kernel
theorem s_366_205 {x0 x1 x2 x3 : Option Value} {x : Int32} : mw d 366 Q 205 [x0, x1, x2, x3] (.int x :: st) h = mB (¬ x = 0) (mw d 366 Q) 212 208 [x0, x1, x2, x3] st h := (mw_at mj_366_205).trans (z_if_ne (by decide) rfl)
theorem mj_366_208 : mc_P 366 208 = some (.iconst 1, 1, 0, 0, 0) := by decide +kernel
theorem s_366_208 {x0 x1 x2 x3 : Option Value} : mw d 366 Q 208 [x0, x1, x2, x3] (st) h = mw d 366 Q 209 [x0, x1, x2, x3] (.int 1 :: st) h := (mw_at mj_366_208).trans (z_iconst (by decide))
theorem mj_366_209 : mc_P 366 209 = some (.goto 4, 3, 0, 0, 0) := by decide +kernel
theorem s_366_209 {x0 x1 x2 x3 : Option Value} : mw d 366 Q 209 [x0, x1, x2, x3] (st) h = mw d 366 Q 213 [x0, x1, x2, x3] (st) h := (mw_at mj_366_209).trans (z_goto (by decide))
theorem mj_366_212 : mc_P 366 212 = some (.iconst 0, 1, 0, 0, 0) := by decide +kernel
theorem s_366_212 {x0 x1 x2 x3 : Option Value} : mw d 366 Q 212 [x0, x1, x2, x3] (st) h = mw d 366 Q 213 [x0, x1, x2, x3] (.int 0 :: st) h := (mw_at mj_366_212).trans (z_iconst (by decide))
theorem mj_366_213 : mc_P 366 213 = some (.iadd, 1, 0, 0, 0) := by decide +kernel
theorem s_366_213 {x0 x1 x2 x3 : Option Value} {x w : Int32} : mw d 366 Q 213 [x0, x1, x2, x3] (.int w :: .int x :: st) h = mw d 366 Q 214 [x0, x1, x2, x3] (.int (x + w) :: st) h := (mw_at mj_366_213).trans (z_iadd)
theorem mj_366_214 : mc_P 366 214 = some (.putfield 475, 3, 14, 54, 0) := by decide +kernel
theorem s_366_214 {x0 x1 x2 x3 : Option Value} {o : Nat} {w : Int32} : mw d 366 Q 214 [x0, x1, x2, x3] (.int w :: .ref o :: st) h = (mg h o 14 ∧ mw d 366 Q 217 [x0, x1, x2, x3] (st) (mh_si h o 54 w)) := (mw_at mj_366_214).trans (z_puti (by decide) (by decide) rfl)
theorem mj_366_217 : mc_P 366 217 = some (.goto (-121), 3, 0, 0, 0) := by decide +kernel
theorem s_366_217 {x0 x1 x2 x3 : Option Value} : mw d 366 Q 217 [x0, x1, x2, x3] (st) h = mw d 366 Q 96 [x0, x1, x2, x3] (st) h := (mw_at mj_366_217).trans (z_goto (by decide))
theorem mj_366_220 : mc_P 366 220 = some (.aload_n 0, 1, 0, 0, 0) := by decide +kernel
theorem s_366_220 {x1 x2 x3 : Option Value} {w : Value} : mw d 366 Q 220 [some w, x1, x2, x3] (st) h = mv_a w (mw d 366 Q 221 [some w, x1, x2, x3] (w :: st) h) := (mw_at mj_366_220).trans (z_aload_n rfl)
theorem mj_366_221 : mc_P 366 221 = some (.aload_n 0, 1, 0, 0, 0) := by decide +kernel
theorem s_366_221 {x1 x2 x3 : Option Value} {w : Value} : mw d 366 Q 221 [some w, x1, x2, x3] (st) h = mv_a w (mw d 366 Q 222 [some w, x1, x2, x3] (w :: st) h) := (mw_at mj_366_221).trans (z_aload_n rfl)
theorem mj_366_222 : mc_P 366 222 = some (.getfield 436, 3, 14, 67, 0) := by decide +kernel
theorem s_366_222 {x0 x1 x2 x3 : Option Value} {o : Nat} : mw d 366 Q 222 [x0, x1, x2, x3] (.ref o :: st) h = (mg h o 14 ∧ mw d 366 Q 225 [x0, x1, x2, x3] (.int (mh_i h o 67) :: st) h) := (mw_at mj_366_222).trans (z_geti (by decide) (by decide) (Or.inl rfl))
theorem mj_366_225 : mc_P 366 225 = some (.aload_n 0, 1, 0, 0, 0) := by decide +kernel
theorem s_366_225 {x1 x2 x3 : Option Value} {w : Value} : mw d 366 Q 225 [some w, x1, x2, x3] (st) h = mv_a w (mw d 366 Q 226 [some w, x1, x2, x3] (w :: st) h) := (mw_at mj_366_225).trans (z_aload_n rfl)
theorem mj_366_226 : mc_P 366 226 = some (.getfield 424, 3, 14, 60, 0) := by decide +kernel
theorem s_366_226 {x0 x1 x2 x3 : Option Value} {o : Nat} : mw d 366 Q 226 [x0, x1, x2, x3] (.ref o :: st) h = (mg h o 14 ∧ mw d 366 Q 229 [x0, x1, x2, x3] (.int (mh_i h o 60) :: st) h) := (mw_at mj_366_226).trans (z_geti (by decide) (by decide) (Or.inl rfl))
theorem mj_366_229 : mc_P 366 229 = some (.invokestatic 484, 3, 0, 20, 0) := by decide +kernel
theorem s_366_229 {x0 x1 x2 x3 : Option Value} {x w : Int32} : mw d 366 Q 229 [x0, x1, x2, x3] (.int w :: .int x :: st) h = (mca st 8 ∧ mw d 366 Q 232 [x0, x1, x2, x3] (.int (if w < x then w else x) :: st) h) := (mw_at mj_366_229).trans (z_min)
theorem mj_366_232 : mc_P 366 232 = some (.putfield 185, 3, 14, 66, 0) := by decide +kernel
theorem s_366_232 {x0 x1 x2 x3 : Option Value} {o : Nat} {w : Int32} : mw d 366 Q 232 [x0, x1, x2, x3] (.int w :: .ref o :: st) h = (mg h o 14 ∧ mw d 366 Q 235 [x0, x1, x2, x3] (st) (mh_si h o 66 w)) := (mw_at mj_366_232).trans (z_puti (by decide) (by decide) rfl)
theorem mj_366_235 : mc_P 366 235 = some (.aload_n 0, 1, 0, 0, 0) := by decide +kernel
theorem s_366_235 {x1 x2 x3 : Option Value} {w : Value} : mw d 366 Q 235 [some w, x1, x2, x3] (st) h = mv_a w (mw d 366 Q 236 [some w, x1, x2, x3] (w :: st) h) := (mw_at mj_366_235).trans (z_aload_n rfl)
theorem mj_366_236 : mc_P 366 236 = some (.getfield 427, 3, 14, 68, 0) := by decide +kernel
theorem s_366_236 {x0 x1 x2 x3 : Option Value} {o : Nat} : mw d 366 Q 236 [x0, x1, x2, x3] (.ref o :: st) h = (mg h o 14 ∧ mw d 366 Q 239 [x0, x1, x2, x3] (.int (mh_i h o 68) :: st) h) := (mw_at mj_366_236).trans (z_geti (by decide) (by decide) (Or.inl rfl))
theorem mj_366_239 : mc_P 366 239 = some (.ifCond .le 10, 3, 0, 0, 0) := by decide +kernel
theorem s_366_239 {x0 x1 x2 x3 : Option Value} {x : Int32} : mw d 366 Q 239 [x0, x1, x2, x3] (.int x :: st) h = mB (x ≤ 0) (mw d 366 Q) 249 242 [x0, x1, x2, x3] st h := (mw_at mj_366_239).trans (z_if_le (by decide) rfl)
theorem mj_366_242 : mc_P 366 242 = some (.aload_n 0, 1, 0, 0, 0) := by decide +kernel
theorem s_366_242 {x1 x2 x3 : Option Value} {w : Value} : mw d 366 Q 242 [some w, x1, x2, x3] (st) h = mv_a w (mw d 366 Q 243 [some w, x1, x2, x3] (w :: st) h) := (mw_at mj_366_242).trans (z_aload_n rfl)
theorem mj_366_243 : mc_P 366 243 = some (.getfield 427, 3, 14, 68, 0) := by decide +kernel
theorem s_366_243 {x0 x1 x2 x3 : Option Value} {o : Nat} : mw d 366 Q 243 [x0, x1, x2, x3] (.ref o :: st) h = (mg h o 14 ∧ mw d 366 Q 246 [x0, x1, x2, x3] (.int (mh_i h o 68) :: st) h) := (mw_at mj_366_243).trans (z_geti (by decide) (by decide) (Or.inl rfl))
theorem mj_366_246 : mc_P 366 246 = some (.goto 22, 3, 0, 0, 0) := by decide +kernel
theorem s_366_246 {x0 x1 x2 x3 : Option Value} : mw d 366 Q 246 [x0, x1, x2, x3] (st) h = mw d 366 Q 268 [x0, x1, x2, x3] (st) h := (mw_at mj_366_246).trans (z_goto (by decide))
theorem mj_366_249 : mc_P 366 249 = some (.aload_n 0, 1, 0, 0, 0) := by decide +kernel
theorem s_366_249 {x1 x2 x3 : Option Value} {w : Value} : mw d 366 Q 249 [some w, x1, x2, x3] (st) h = mv_a w (mw d 366 Q 250 [some w, x1, x2, x3] (w :: st) h) := (mw_at mj_366_249).trans (z_aload_n rfl)
theorem mj_366_250 : mc_P 366 250 = some (.getfield 179, 3, 14, 64, 0) := by decide +kernel
theorem s_366_250 {x0 x1 x2 x3 : Option Value} {o : Nat} : mw d 366 Q 250 [x0, x1, x2, x3] (.ref o :: st) h = (mg h o 14 ∧ mw d 366 Q 253 [x0, x1, x2, x3] (.int (mh_i h o 64) :: st) h) := (mw_at mj_366_250).trans (z_geti (by decide) (by decide) (Or.inl rfl))
theorem mj_366_253 : mc_P 366 253 = some (.aload_n 0, 1, 0, 0, 0) := by decide +kernel
theorem s_366_253 {x1 x2 x3 : Option Value} {w : Value} : mw d 366 Q 253 [some w, x1, x2, x3] (st) h = mv_a w (mw d 366 Q 254 [some w, x1, x2, x3] (w :: st) h) := (mw_at mj_366_253).trans (z_aload_n rfl)
theorem mj_366_254 : mc_P 366 254 = some (.getfield 176, 3, 14, 33, 0) := by decide +kernel
theorem s_366_254 {x0 x1 x2 x3 : Option Value} {o : Nat} : mw d 366 Q 254 [x0, x1, x2, x3] (.ref o :: st) h = (mg h o 14 ∧ mw d 366 Q 257 [x0, x1, x2, x3] (.int (mh_i h o 33) :: st) h) := (mw_at mj_366_254).trans (z_geti (by decide) (by decide) (Or.inl rfl))
theorem mj_366_257 : mc_P 366 257 = some (.iconst 1, 1, 0, 0, 0) := by decide +kernel
theorem s_366_257 {x0 x1 x2 x3 : Option Value} : mw d 366 Q 257 [x0, x1, x2, x3] (st) h = mw d 366 Q 258 [x0, x1, x2, x3] (.int 1 :: st) h := (mw_at mj_366_257).trans (z_iconst (by decide))
theorem mj_366_258 : mc_P 366 258 = some (.isub, 1, 0, 0, 0) := by decide +kernel
theorem s_366_258 {x0 x1 x2 x3 : Option Value} {x w : Int32} : mw d 366 Q 258 [x0, x1, x2, x3] (.int w :: .int x :: st) h = mw d 366 Q 259 [x0, x1, x2, x3] (.int (x - w) :: st) h := (mw_at mj_366_258).trans (z_isub)
theorem mj_366_259 : mc_P 366 259 = some (.if_icmp .ne 7, 3, 0, 0, 0) := by decide +kernel
theorem s_366_259 {x0 x1 x2 x3 : Option Value} {x w : Int32} : mw d 366 Q 259 [x0, x1, x2, x3] (.int w :: .int x :: st) h = mB (¬ x = w) (mw d 366 Q) 266 262 [x0, x1, x2, x3] st h := (mw_at mj_366_259).trans (z_icmp_ne (by decide) rfl)
theorem mj_366_262 : mc_P 366 262 = some (.iconst 0, 1, 0, 0, 0) := by decide +kernel
theorem s_366_262 {x0 x1 x2 x3 : Option Value} : mw d 366 Q 262 [x0, x1, x2, x3] (st) h = mw d 366 Q 263 [x0, x1, x2, x3] (.int 0 :: st) h := (mw_at mj_366_262).trans (z_iconst (by decide))
theorem mj_366_263 : mc_P 366 263 = some (.goto 5, 3, 0, 0, 0) := by decide +kernel
theorem s_366_263 {x0 x1 x2 x3 : Option Value} : mw d 366 Q 263 [x0, x1, x2, x3] (st) h = mw d 366 Q 268 [x0, x1, x2, x3] (st) h := (mw_at mj_366_263).trans (z_goto (by decide))
theorem mj_366_266 : mc_P 366 266 = some (.bipush 16, 2, 0, 0, 0) := by decide +kernel
theorem s_366_266 {x0 x1 x2 x3 : Option Value} : mw d 366 Q 266 [x0, x1, x2, x3] (st) h = mw d 366 Q 268 [x0, x1, x2, x3] (.int 16 :: st) h := (mw_at mj_366_266).trans (z_bipush (by decide))
theorem mj_366_268 : mc_P 366 268 = some (.ireturn, 1, 0, 0, 0) := by decide +kernel
theorem s_366_268 {x0 x1 x2 x3 : Option Value} {x : Int32} : mw d 366 Q 268 [x0, x1, x2, x3] ([.int x]) h = (Q (some (.int x)) h) := (mw_at mj_366_268).trans (z_iret)
theorem e_366 {a0 : Nat} {a1 : Int32} : mcall d 366 [.ref a0, .int a1] h Q = mw d 366 Q 0 [some (.ref a0), some (.int a1), none, none] [] h := by
  show mw d 366 Q 0 (me_en (mc_nl 366) _) [] h = _
  rw [nl_366]; rfl

/-! InvariantDeskModel.isOutside()Z -/
theorem mj_367_0 : mc_P 367 0 = some (.aload_n 0, 1, 0, 0, 0) := by decide +kernel
theorem s_367_0 {w : Value} : mw d 367 Q 0 [some w] (st) h = mv_a w (mw d 367 Q 1 [some w] (w :: st) h) := (mw_at mj_367_0).trans (z_aload_n rfl)
theorem mj_367_1 : mc_P 367 1 = some (.getfield 121, 3, 14, 52, 0) := by decide +kernel
theorem s_367_1 {x0 : Option Value} {o : Nat} : mw d 367 Q 1 [x0] (.ref o :: st) h = (mg h o 14 ∧ mw d 367 Q 4 [x0] (va_rf (mh_r h o 52) :: st) h) := (mw_at mj_367_1).trans (z_getr (by decide) (by decide) rfl)
theorem mj_367_4 : mc_P 367 4 = some (.getfield 412, 3, 12, 4, 0) := by decide +kernel
theorem s_367_4 {x0 : Option Value} {o : Nat} : mw d 367 Q 4 [x0] (.ref o :: st) h = (mg h o 12 ∧ mw d 367 Q 7 [x0] (va_rf (mh_r h o 4) :: st) h) := (mw_at mj_367_4).trans (z_getr (by decide) (by decide) rfl)
theorem mj_367_7 : mc_P 367 7 = some (.aload_n 0, 1, 0, 0, 0) := by decide +kernel
theorem s_367_7 {w : Value} : mw d 367 Q 7 [some w] (st) h = mv_a w (mw d 367 Q 8 [some w] (w :: st) h) := (mw_at mj_367_7).trans (z_aload_n rfl)
theorem mj_367_8 : mc_P 367 8 = some (.getfield 179, 3, 14, 64, 0) := by decide +kernel
theorem s_367_8 {x0 : Option Value} {o : Nat} : mw d 367 Q 8 [x0] (.ref o :: st) h = (mg h o 14 ∧ mw d 367 Q 11 [x0] (.int (mh_i h o 64) :: st) h) := (mw_at mj_367_8).trans (z_geti (by decide) (by decide) (Or.inl rfl))
theorem mj_367_11 : mc_P 367 11 = some (.aaload, 1, 0, 0, 0) := by decide +kernel
theorem s_367_11 {x0 : Option Value} {o : Nat} {i : Int32} : mw d 367 Q 11 [x0] (.int i :: .ref o :: st) h = (mgr h o ∧ mx i (mh_l h o) ∧ mw d 367 Q 12 [x0] (mrd (mh_k h o) h o i.toNatClampNeg :: st) h) := (mw_at mj_367_11).trans (z_aald)
theorem mj_367_12 : mc_P 367 12 = some (.aload_n 0, 1, 0, 0, 0) := by decide +kernel
theorem s_367_12 {w : Value} : mw d 367 Q 12 [some w] (st) h = mv_a w (mw d 367 Q 13 [some w] (w :: st) h) := (mw_at mj_367_12).trans (z_aload_n rfl)
theorem mj_367_13 : mc_P 367 13 = some (.getfield 141, 3, 14, 61, 0) := by decide +kernel
theorem s_367_13 {x0 : Option Value} {o : Nat} : mw d 367 Q 13 [x0] (.ref o :: st) h = (mg h o 14 ∧ mw d 367 Q 16 [x0] (va_rf (mh_r h o 61) :: st) h) := (mw_at mj_367_13).trans (z_getr (by decide) (by decide) rfl)
theorem mj_367_16 : mc_P 367 16 = some (.aload_n 0, 1, 0, 0, 0) := by decide +kernel
theorem s_367_16 {w : Value} : mw d 367 Q 16 [some w] (st) h = mv_a w (mw d 367 Q 17 [some w] (w :: st) h) := (mw_at mj_367_16).trans (z_aload_n rfl)
theorem mj_367_17 : mc_P 367 17 = some (.getfield 144, 3, 14, 62, 0) := by decide +kernel
theorem s_367_17 {x0 : Option Value} {o : Nat} : mw d 367 Q 17 [x0] (.ref o :: st) h = (mg h o 14 ∧ mw d 367 Q 20 [x0] (va_rf (mh_r h o 62) :: st) h) := (mw_at mj_367_17).trans (z_getr (by decide) (by decide) rfl)
theorem mj_367_20 : mc_P 367 20 = some (.invokevirtual 489, 3, 297, 13, 3) := by decide +kernel
theorem s_367_20 {x0 : Option Value} {o : Nat} {a1 a2 : Value} : mw (d + 1) 367 Q 20 [x0] (a2 :: a1 :: .ref o :: st) h = (mg h o 13 ∧ mca st 8 ∧ mca [.ref o, a1, a2] 6 ∧ mcall d 297 [.ref o, a1, a2] h (mK (d + 1) 367 Q 23 [x0] st)) := (mw_at mj_367_20).trans ((z_invv (As := [a1, a2]) (by decide) rfl rfl).trans (congrArg (And _) (congrArg (And _) (mC_nl nl_297))))
theorem mj_367_23 : mc_P 367 23 = some (.ifCond .eq 36, 3, 0, 0, 0) := by decide +kernel
theorem s_367_23 {x0 : Option Value} {x : Int32} : mw d 367 Q 23 [x0] (.int x :: st) h = mB (x = 0) (mw d 367 Q) 59 26 [x0] st h := (mw_at mj_367_23).trans (z_if_eq (by decide) rfl)
theorem mj_367_26 : mc_P 367 26 = some (.aload_n 0, 1, 0, 0, 0) := by decide +kernel
theorem s_367_26 {w : Value} : mw d 367 Q 26 [some w] (st) h = mv_a w (mw d 367 Q 27 [some w] (w :: st) h) := (mw_at mj_367_26).trans (z_aload_n rfl)
theorem mj_367_27 : mc_P 367 27 = some (.getfield 472, 3, 14, 55, 0) := by decide +kernel
theorem s_367_27 {x0 : Option Value} {o : Nat} : mw d 367 Q 27 [x0] (.ref o :: st) h = (mg h o 14 ∧ mw d 367 Q 30 [x0] (.int (mh_i h o 55) :: st) h) := (mw_at mj_367_27).trans (z_geti (by decide) (by decide) (Or.inr rfl))
theorem mj_367_30 : mc_P 367 30 = some (.ifCond .eq 33, 3, 0, 0, 0) := by decide +kernel
theorem s_367_30 {x0 : Option Value} {x : Int32} : mw d 367 Q 30 [x0] (.int x :: st) h = mB (x = 0) (mw d 367 Q) 63 33 [x0] st h := (mw_at mj_367_30).trans (z_if_eq (by decide) rfl)
theorem mj_367_33 : mc_P 367 33 = some (.aload_n 0, 1, 0, 0, 0) := by decide +kernel
theorem s_367_33 {w : Value} : mw d 367 Q 33 [some w] (st) h = mv_a w (mw d 367 Q 34 [some w] (w :: st) h) := (mw_at mj_367_33).trans (z_aload_n rfl)
theorem mj_367_34 : mc_P 367 34 = some (.getfield 121, 3, 14, 52, 0) := by decide +kernel
theorem s_367_34 {x0 : Option Value} {o : Nat} : mw d 367 Q 34 [x0] (.ref o :: st) h = (mg h o 14 ∧ mw d 367 Q 37 [x0] (va_rf (mh_r h o 52) :: st) h) := (mw_at mj_367_34).trans (z_getr (by decide) (by decide) rfl)
theorem mj_367_37 : mc_P 367 37 = some (.getfield 416, 3, 12, 5, 0) := by decide +kernel
theorem s_367_37 {x0 : Option Value} {o : Nat} : mw d 367 Q 37 [x0] (.ref o :: st) h = (mg h o 12 ∧ mw d 367 Q 40 [x0] (va_rf (mh_r h o 5) :: st) h) := (mw_at mj_367_37).trans (z_getr (by decide) (by decide) rfl)
theorem mj_367_40 : mc_P 367 40 = some (.aload_n 0, 1, 0, 0, 0) := by decide +kernel
theorem s_367_40 {w : Value} : mw d 367 Q 40 [some w] (st) h = mv_a w (mw d 367 Q 41 [some w] (w :: st) h) := (mw_at mj_367_40).trans (z_aload_n rfl)
theorem mj_367_41 : mc_P 367 41 = some (.getfield 179, 3, 14, 64, 0) := by decide +kernel
theorem s_367_41 {x0 : Option Value} {o : Nat} : mw d 367 Q 41 [x0] (.ref o :: st) h = (mg h o 14 ∧ mw d 367 Q 44 [x0] (.int (mh_i h o 64) :: st) h) := (mw_at mj_367_41).trans (z_geti (by decide) (by decide) (Or.inl rfl))
theorem mj_367_44 : mc_P 367 44 = some (.aaload, 1, 0, 0, 0) := by decide +kernel
theorem s_367_44 {x0 : Option Value} {o : Nat} {i : Int32} : mw d 367 Q 44 [x0] (.int i :: .ref o :: st) h = (mgr h o ∧ mx i (mh_l h o) ∧ mw d 367 Q 45 [x0] (mrd (mh_k h o) h o i.toNatClampNeg :: st) h) := (mw_at mj_367_44).trans (z_aald)
theorem mj_367_45 : mc_P 367 45 = some (.aload_n 0, 1, 0, 0, 0) := by decide +kernel
theorem s_367_45 {w : Value} : mw d 367 Q 45 [some w] (st) h = mv_a w (mw d 367 Q 46 [some w] (w :: st) h) := (mw_at mj_367_45).trans (z_aload_n rfl)
theorem mj_367_46 : mc_P 367 46 = some (.getfield 141, 3, 14, 61, 0) := by decide +kernel
theorem s_367_46 {x0 : Option Value} {o : Nat} : mw d 367 Q 46 [x0] (.ref o :: st) h = (mg h o 14 ∧ mw d 367 Q 49 [x0] (va_rf (mh_r h o 61) :: st) h) := (mw_at mj_367_46).trans (z_getr (by decide) (by decide) rfl)
theorem mj_367_49 : mc_P 367 49 = some (.aload_n 0, 1, 0, 0, 0) := by decide +kernel
theorem s_367_49 {w : Value} : mw d 367 Q 49 [some w] (st) h = mv_a w (mw d 367 Q 50 [some w] (w :: st) h) := (mw_at mj_367_49).trans (z_aload_n rfl)
theorem mj_367_50 : mc_P 367 50 = some (.getfield 144, 3, 14, 62, 0) := by decide +kernel
theorem s_367_50 {x0 : Option Value} {o : Nat} : mw d 367 Q 50 [x0] (.ref o :: st) h = (mg h o 14 ∧ mw d 367 Q 53 [x0] (va_rf (mh_r h o 62) :: st) h) := (mw_at mj_367_50).trans (z_getr (by decide) (by decide) rfl)
theorem mj_367_53 : mc_P 367 53 = some (.invokevirtual 489, 3, 297, 13, 3) := by decide +kernel
theorem s_367_53 {x0 : Option Value} {o : Nat} {a1 a2 : Value} : mw (d + 1) 367 Q 53 [x0] (a2 :: a1 :: .ref o :: st) h = (mg h o 13 ∧ mca st 8 ∧ mca [.ref o, a1, a2] 6 ∧ mcall d 297 [.ref o, a1, a2] h (mK (d + 1) 367 Q 56 [x0] st)) := (mw_at mj_367_53).trans ((z_invv (As := [a1, a2]) (by decide) rfl rfl).trans (congrArg (And _) (congrArg (And _) (mC_nl nl_297))))
theorem mj_367_56 : mc_P 367 56 = some (.ifCond .ne 7, 3, 0, 0, 0) := by decide +kernel
theorem s_367_56 {x0 : Option Value} {x : Int32} : mw d 367 Q 56 [x0] (.int x :: st) h = mB (¬ x = 0) (mw d 367 Q) 63 59 [x0] st h := (mw_at mj_367_56).trans (z_if_ne (by decide) rfl)
theorem mj_367_59 : mc_P 367 59 = some (.iconst 1, 1, 0, 0, 0) := by decide +kernel
theorem s_367_59 {x0 : Option Value} : mw d 367 Q 59 [x0] (st) h = mw d 367 Q 60 [x0] (.int 1 :: st) h := (mw_at mj_367_59).trans (z_iconst (by decide))
theorem mj_367_60 : mc_P 367 60 = some (.goto 4, 3, 0, 0, 0) := by decide +kernel
theorem s_367_60 {x0 : Option Value} : mw d 367 Q 60 [x0] (st) h = mw d 367 Q 64 [x0] (st) h := (mw_at mj_367_60).trans (z_goto (by decide))
theorem mj_367_63 : mc_P 367 63 = some (.iconst 0, 1, 0, 0, 0) := by decide +kernel
theorem s_367_63 {x0 : Option Value} : mw d 367 Q 63 [x0] (st) h = mw d 367 Q 64 [x0] (.int 0 :: st) h := (mw_at mj_367_63).trans (z_iconst (by decide))
theorem mj_367_64 : mc_P 367 64 = some (.ireturn, 1, 0, 3, 0) := by decide +kernel
theorem s_367_64 {x0 : Option Value} {x : Int32} : mw d 367 Q 64 [x0] ([.int x]) h = ((x = 0 ∨ x = 1) ∧ Q (some (.int x)) h) := (mw_at mj_367_64).trans (z_zret)
theorem e_367 {a0 : Nat} : mcall d 367 [.ref a0] h Q = mw d 367 Q 0 [some (.ref a0)] [] h := by
  show mw d 367 Q 0 (me_en (mc_nl 367) _) [] h = _
  rw [nl_367]; rfl

/-! InvariantDeskModel.outside()I -/
theorem mj_368_0 : mc_P 368 0 = some (.aload_n 0, 1, 0, 0, 0) := by decide +kernel
theorem s_368_0 {w : Value} : mw d 368 Q 0 [some w] (st) h = mv_a w (mw d 368 Q 1 [some w] (w :: st) h) := (mw_at mj_368_0).trans (z_aload_n rfl)
theorem mj_368_1 : mc_P 368 1 = some (.getfield 475, 3, 14, 54, 0) := by decide +kernel
theorem s_368_1 {x0 : Option Value} {o : Nat} : mw d 368 Q 1 [x0] (.ref o :: st) h = (mg h o 14 ∧ mw d 368 Q 4 [x0] (.int (mh_i h o 54) :: st) h) := (mw_at mj_368_1).trans (z_geti (by decide) (by decide) (Or.inl rfl))
theorem mj_368_4 : mc_P 368 4 = some (.ireturn, 1, 0, 0, 0) := by decide +kernel
theorem s_368_4 {x0 : Option Value} {x : Int32} : mw d 368 Q 4 [x0] ([.int x]) h = (Q (some (.int x)) h) := (mw_at mj_368_4).trans (z_iret)
theorem e_368 {a0 : Nat} : mcall d 368 [.ref a0] h Q = mw d 368 Q 0 [some (.ref a0)] [] h := by
  show mw d 368 Q 0 (me_en (mc_nl 368) _) [] h = _
  rw [nl_368]; rfl

/-! InvariantDeskModel.ran(I)I -/
theorem mj_369_0 : mc_P 369 0 = some (.iload_n 1, 1, 0, 0, 0) := by decide +kernel
theorem s_369_0 {x0 : Option Value} {w : Value} : mw d 369 Q 0 [x0, some w] (st) h = mv_i w (mw d 369 Q 1 [x0, some w] (w :: st) h) := (mw_at mj_369_0).trans (z_iload_n rfl)
theorem mj_369_1 : mc_P 369 1 = some (.ifCond .ne 10, 3, 0, 0, 0) := by decide +kernel
theorem s_369_1 {x0 x1 : Option Value} {x : Int32} : mw d 369 Q 1 [x0, x1] (.int x :: st) h = mB (¬ x = 0) (mw d 369 Q) 11 4 [x0, x1] st h := (mw_at mj_369_1).trans (z_if_ne (by decide) rfl)
theorem mj_369_4 : mc_P 369 4 = some (.aload_n 0, 1, 0, 0, 0) := by decide +kernel
theorem s_369_4 {x1 : Option Value} {w : Value} : mw d 369 Q 4 [some w, x1] (st) h = mv_a w (mw d 369 Q 5 [some w, x1] (w :: st) h) := (mw_at mj_369_4).trans (z_aload_n rfl)
theorem mj_369_5 : mc_P 369 5 = some (.getfield 179, 3, 14, 64, 0) := by decide +kernel
theorem s_369_5 {x0 x1 : Option Value} {o : Nat} : mw d 369 Q 5 [x0, x1] (.ref o :: st) h = (mg h o 14 ∧ mw d 369 Q 8 [x0, x1] (.int (mh_i h o 64) :: st) h) := (mw_at mj_369_5).trans (z_geti (by decide) (by decide) (Or.inl rfl))
theorem mj_369_8 : mc_P 369 8 = some (.goto 28, 3, 0, 0, 0) := by decide +kernel
theorem s_369_8 {x0 x1 : Option Value} : mw d 369 Q 8 [x0, x1] (st) h = mw d 369 Q 36 [x0, x1] (st) h := (mw_at mj_369_8).trans (z_goto (by decide))
theorem mj_369_11 : mc_P 369 11 = some (.iload_n 1, 1, 0, 0, 0) := by decide +kernel
theorem s_369_11 {x0 : Option Value} {w : Value} : mw d 369 Q 11 [x0, some w] (st) h = mv_i w (mw d 369 Q 12 [x0, some w] (w :: st) h) := (mw_at mj_369_11).trans (z_iload_n rfl)
theorem mj_369_12 : mc_P 369 12 = some (.iconst 1, 1, 0, 0, 0) := by decide +kernel
theorem s_369_12 {x0 x1 : Option Value} : mw d 369 Q 12 [x0, x1] (st) h = mw d 369 Q 13 [x0, x1] (.int 1 :: st) h := (mw_at mj_369_12).trans (z_iconst (by decide))
theorem mj_369_13 : mc_P 369 13 = some (.if_icmp .ne 10, 3, 0, 0, 0) := by decide +kernel
theorem s_369_13 {x0 x1 : Option Value} {x w : Int32} : mw d 369 Q 13 [x0, x1] (.int w :: .int x :: st) h = mB (¬ x = w) (mw d 369 Q) 23 16 [x0, x1] st h := (mw_at mj_369_13).trans (z_icmp_ne (by decide) rfl)
theorem mj_369_16 : mc_P 369 16 = some (.aload_n 0, 1, 0, 0, 0) := by decide +kernel
theorem s_369_16 {x1 : Option Value} {w : Value} : mw d 369 Q 16 [some w, x1] (st) h = mv_a w (mw d 369 Q 17 [some w, x1] (w :: st) h) := (mw_at mj_369_16).trans (z_aload_n rfl)
theorem mj_369_17 : mc_P 369 17 = some (.getfield 182, 3, 14, 65, 0) := by decide +kernel
theorem s_369_17 {x0 x1 : Option Value} {o : Nat} : mw d 369 Q 17 [x0, x1] (.ref o :: st) h = (mg h o 14 ∧ mw d 369 Q 20 [x0, x1] (.int (mh_i h o 65) :: st) h) := (mw_at mj_369_17).trans (z_geti (by decide) (by decide) (Or.inl rfl))
theorem mj_369_20 : mc_P 369 20 = some (.goto 16, 3, 0, 0, 0) := by decide +kernel
theorem s_369_20 {x0 x1 : Option Value} : mw d 369 Q 20 [x0, x1] (st) h = mw d 369 Q 36 [x0, x1] (st) h := (mw_at mj_369_20).trans (z_goto (by decide))
theorem mj_369_23 : mc_P 369 23 = some (.iload_n 1, 1, 0, 0, 0) := by decide +kernel
theorem s_369_23 {x0 : Option Value} {w : Value} : mw d 369 Q 23 [x0, some w] (st) h = mv_i w (mw d 369 Q 24 [x0, some w] (w :: st) h) := (mw_at mj_369_23).trans (z_iload_n rfl)
theorem mj_369_24 : mc_P 369 24 = some (.iconst 2, 1, 0, 0, 0) := by decide +kernel
theorem s_369_24 {x0 x1 : Option Value} : mw d 369 Q 24 [x0, x1] (st) h = mw d 369 Q 25 [x0, x1] (.int 2 :: st) h := (mw_at mj_369_24).trans (z_iconst (by decide))
theorem mj_369_25 : mc_P 369 25 = some (.if_icmp .ne 10, 3, 0, 0, 0) := by decide +kernel
theorem s_369_25 {x0 x1 : Option Value} {x w : Int32} : mw d 369 Q 25 [x0, x1] (.int w :: .int x :: st) h = mB (¬ x = w) (mw d 369 Q) 35 28 [x0, x1] st h := (mw_at mj_369_25).trans (z_icmp_ne (by decide) rfl)
theorem mj_369_28 : mc_P 369 28 = some (.aload_n 0, 1, 0, 0, 0) := by decide +kernel
theorem s_369_28 {x1 : Option Value} {w : Value} : mw d 369 Q 28 [some w, x1] (st) h = mv_a w (mw d 369 Q 29 [some w, x1] (w :: st) h) := (mw_at mj_369_28).trans (z_aload_n rfl)
theorem mj_369_29 : mc_P 369 29 = some (.getfield 185, 3, 14, 66, 0) := by decide +kernel
theorem s_369_29 {x0 x1 : Option Value} {o : Nat} : mw d 369 Q 29 [x0, x1] (.ref o :: st) h = (mg h o 14 ∧ mw d 369 Q 32 [x0, x1] (.int (mh_i h o 66) :: st) h) := (mw_at mj_369_29).trans (z_geti (by decide) (by decide) (Or.inl rfl))
theorem mj_369_32 : mc_P 369 32 = some (.goto 4, 3, 0, 0, 0) := by decide +kernel
theorem s_369_32 {x0 x1 : Option Value} : mw d 369 Q 32 [x0, x1] (st) h = mw d 369 Q 36 [x0, x1] (st) h := (mw_at mj_369_32).trans (z_goto (by decide))
theorem mj_369_35 : mc_P 369 35 = some (.iconst (-1), 1, 0, 0, 0) := by decide +kernel
theorem s_369_35 {x0 x1 : Option Value} : mw d 369 Q 35 [x0, x1] (st) h = mw d 369 Q 36 [x0, x1] (.int (-1) :: st) h := (mw_at mj_369_35).trans (z_iconst (by decide))
theorem mj_369_36 : mc_P 369 36 = some (.ireturn, 1, 0, 0, 0) := by decide +kernel
theorem s_369_36 {x0 x1 : Option Value} {x : Int32} : mw d 369 Q 36 [x0, x1] ([.int x]) h = (Q (some (.int x)) h) := (mw_at mj_369_36).trans (z_iret)
theorem e_369 {a0 : Nat} {a1 : Int32} : mcall d 369 [.ref a0, .int a1] h Q = mw d 369 Q 0 [some (.ref a0), some (.int a1)] [] h := by
  show mw d 369 Q 0 (me_en (mc_nl 369) _) [] h = _
  rw [nl_369]; rfl

/-! InvariantDeskModel.value(I)I -/
theorem mj_370_0 : mc_P 370 0 = some (.iload_n 1, 1, 0, 0, 0) := by decide +kernel
theorem s_370_0 {x0 : Option Value} {w : Value} : mw d 370 Q 0 [x0, some w] (st) h = mv_i w (mw d 370 Q 1 [x0, some w] (w :: st) h) := (mw_at mj_370_0).trans (z_iload_n rfl)
theorem mj_370_1 : mc_P 370 1 = some (.ifCond .lt 16, 3, 0, 0, 0) := by decide +kernel
theorem s_370_1 {x0 x1 : Option Value} {x : Int32} : mw d 370 Q 1 [x0, x1] (.int x :: st) h = mB (x < 0) (mw d 370 Q) 17 4 [x0, x1] st h := (mw_at mj_370_1).trans (z_if_lt (by decide) rfl)
theorem mj_370_4 : mc_P 370 4 = some (.iload_n 1, 1, 0, 0, 0) := by decide +kernel
theorem s_370_4 {x0 : Option Value} {w : Value} : mw d 370 Q 4 [x0, some w] (st) h = mv_i w (mw d 370 Q 5 [x0, some w] (w :: st) h) := (mw_at mj_370_4).trans (z_iload_n rfl)
theorem mj_370_5 : mc_P 370 5 = some (.aload_n 0, 1, 0, 0, 0) := by decide +kernel
theorem s_370_5 {x1 : Option Value} {w : Value} : mw d 370 Q 5 [some w, x1] (st) h = mv_a w (mw d 370 Q 6 [some w, x1] (w :: st) h) := (mw_at mj_370_5).trans (z_aload_n rfl)
theorem mj_370_6 : mc_P 370 6 = some (.getfield 79, 3, 14, 31, 0) := by decide +kernel
theorem s_370_6 {x0 x1 : Option Value} {o : Nat} : mw d 370 Q 6 [x0, x1] (.ref o :: st) h = (mg h o 14 ∧ mw d 370 Q 9 [x0, x1] (va_rf (mh_r h o 31) :: st) h) := (mw_at mj_370_6).trans (z_getr (by decide) (by decide) rfl)
theorem mj_370_9 : mc_P 370 9 = some (.aload_n 0, 1, 0, 0, 0) := by decide +kernel
theorem s_370_9 {x1 : Option Value} {w : Value} : mw d 370 Q 9 [some w, x1] (st) h = mv_a w (mw d 370 Q 10 [some w, x1] (w :: st) h) := (mw_at mj_370_9).trans (z_aload_n rfl)
theorem mj_370_10 : mc_P 370 10 = some (.getfield 179, 3, 14, 64, 0) := by decide +kernel
theorem s_370_10 {x0 x1 : Option Value} {o : Nat} : mw d 370 Q 10 [x0, x1] (.ref o :: st) h = (mg h o 14 ∧ mw d 370 Q 13 [x0, x1] (.int (mh_i h o 64) :: st) h) := (mw_at mj_370_10).trans (z_geti (by decide) (by decide) (Or.inl rfl))
theorem mj_370_13 : mc_P 370 13 = some (.iaload, 1, 0, 0, 0) := by decide +kernel
theorem s_370_13 {x0 x1 : Option Value} {o : Nat} {i : Int32} : mw d 370 Q 13 [x0, x1] (.int i :: .ref o :: st) h = (mg h o 100 ∧ mx i (mh_l h o) ∧ mw d 370 Q 14 [x0, x1] (.int (mh_i h o i.toNatClampNeg) :: st) h) := (mw_at mj_370_13).trans (z_iald)
theorem mj_370_14 : mc_P 370 14 = some (.if_icmp .lt 7, 3, 0, 0, 0) := by decide +kernel
theorem s_370_14 {x0 x1 : Option Value} {x w : Int32} : mw d 370 Q 14 [x0, x1] (.int w :: .int x :: st) h = mB (x < w) (mw d 370 Q) 21 17 [x0, x1] st h := (mw_at mj_370_14).trans (z_icmp_lt (by decide) rfl)
theorem mj_370_17 : mc_P 370 17 = some (.iconst 0, 1, 0, 0, 0) := by decide +kernel
theorem s_370_17 {x0 x1 : Option Value} : mw d 370 Q 17 [x0, x1] (st) h = mw d 370 Q 18 [x0, x1] (.int 0 :: st) h := (mw_at mj_370_17).trans (z_iconst (by decide))
theorem mj_370_18 : mc_P 370 18 = some (.goto 9, 3, 0, 0, 0) := by decide +kernel
theorem s_370_18 {x0 x1 : Option Value} : mw d 370 Q 18 [x0, x1] (st) h = mw d 370 Q 27 [x0, x1] (st) h := (mw_at mj_370_18).trans (z_goto (by decide))
theorem mj_370_21 : mc_P 370 21 = some (.aload_n 0, 1, 0, 0, 0) := by decide +kernel
theorem s_370_21 {x1 : Option Value} {w : Value} : mw d 370 Q 21 [some w, x1] (st) h = mv_a w (mw d 370 Q 22 [some w, x1] (w :: st) h) := (mw_at mj_370_21).trans (z_aload_n rfl)
theorem mj_370_22 : mc_P 370 22 = some (.getfield 141, 3, 14, 61, 0) := by decide +kernel
theorem s_370_22 {x0 x1 : Option Value} {o : Nat} : mw d 370 Q 22 [x0, x1] (.ref o :: st) h = (mg h o 14 ∧ mw d 370 Q 25 [x0, x1] (va_rf (mh_r h o 61) :: st) h) := (mw_at mj_370_22).trans (z_getr (by decide) (by decide) rfl)
theorem mj_370_25 : mc_P 370 25 = some (.iload_n 1, 1, 0, 0, 0) := by decide +kernel
theorem s_370_25 {x0 : Option Value} {w : Value} : mw d 370 Q 25 [x0, some w] (st) h = mv_i w (mw d 370 Q 26 [x0, some w] (w :: st) h) := (mw_at mj_370_25).trans (z_iload_n rfl)
theorem mj_370_26 : mc_P 370 26 = some (.iaload, 1, 0, 0, 0) := by decide +kernel
theorem s_370_26 {x0 x1 : Option Value} {o : Nat} {i : Int32} : mw d 370 Q 26 [x0, x1] (.int i :: .ref o :: st) h = (mg h o 100 ∧ mx i (mh_l h o) ∧ mw d 370 Q 27 [x0, x1] (.int (mh_i h o i.toNatClampNeg) :: st) h) := (mw_at mj_370_26).trans (z_iald)
theorem mj_370_27 : mc_P 370 27 = some (.ireturn, 1, 0, 0, 0) := by decide +kernel
theorem s_370_27 {x0 x1 : Option Value} {x : Int32} : mw d 370 Q 27 [x0, x1] ([.int x]) h = (Q (some (.int x)) h) := (mw_at mj_370_27).trans (z_iret)
theorem e_370 {a0 : Nat} {a1 : Int32} : mcall d 370 [.ref a0, .int a1] h Q = mw d 370 Q 0 [some (.ref a0), some (.int a1)] [] h := by
  show mw d 370 Q 0 (me_en (mc_nl 370) _) [] h = _
  rw [nl_370]; rfl

/-! InvariantDeskModel.place(II)I -/
theorem mj_371_0 : mc_P 371 0 = some (.iload_n 1, 1, 0, 0, 0) := by decide +kernel
theorem s_371_0 {x0 x2 : Option Value} {w : Value} : mw d 371 Q 0 [x0, some w, x2] (st) h = mv_i w (mw d 371 Q 1 [x0, some w, x2] (w :: st) h) := (mw_at mj_371_0).trans (z_iload_n rfl)
theorem mj_371_1 : mc_P 371 1 = some (.ifCond .lt 26, 3, 0, 0, 0) := by decide +kernel
theorem s_371_1 {x0 x1 x2 : Option Value} {x : Int32} : mw d 371 Q 1 [x0, x1, x2] (.int x :: st) h = mB (x < 0) (mw d 371 Q) 27 4 [x0, x1, x2] st h := (mw_at mj_371_1).trans (z_if_lt (by decide) rfl)
theorem mj_371_4 : mc_P 371 4 = some (.iload_n 1, 1, 0, 0, 0) := by decide +kernel
theorem s_371_4 {x0 x2 : Option Value} {w : Value} : mw d 371 Q 4 [x0, some w, x2] (st) h = mv_i w (mw d 371 Q 5 [x0, some w, x2] (w :: st) h) := (mw_at mj_371_4).trans (z_iload_n rfl)
theorem mj_371_5 : mc_P 371 5 = some (.aload_n 0, 1, 0, 0, 0) := by decide +kernel
theorem s_371_5 {x1 x2 : Option Value} {w : Value} : mw d 371 Q 5 [some w, x1, x2] (st) h = mv_a w (mw d 371 Q 6 [some w, x1, x2] (w :: st) h) := (mw_at mj_371_5).trans (z_aload_n rfl)
theorem mj_371_6 : mc_P 371 6 = some (.getfield 82, 3, 14, 32, 0) := by decide +kernel
theorem s_371_6 {x0 x1 x2 : Option Value} {o : Nat} : mw d 371 Q 6 [x0, x1, x2] (.ref o :: st) h = (mg h o 14 ∧ mw d 371 Q 9 [x0, x1, x2] (va_rf (mh_r h o 32) :: st) h) := (mw_at mj_371_6).trans (z_getr (by decide) (by decide) rfl)
theorem mj_371_9 : mc_P 371 9 = some (.aload_n 0, 1, 0, 0, 0) := by decide +kernel
theorem s_371_9 {x1 x2 : Option Value} {w : Value} : mw d 371 Q 9 [some w, x1, x2] (st) h = mv_a w (mw d 371 Q 10 [some w, x1, x2] (w :: st) h) := (mw_at mj_371_9).trans (z_aload_n rfl)
theorem mj_371_10 : mc_P 371 10 = some (.getfield 179, 3, 14, 64, 0) := by decide +kernel
theorem s_371_10 {x0 x1 x2 : Option Value} {o : Nat} : mw d 371 Q 10 [x0, x1, x2] (.ref o :: st) h = (mg h o 14 ∧ mw d 371 Q 13 [x0, x1, x2] (.int (mh_i h o 64) :: st) h) := (mw_at mj_371_10).trans (z_geti (by decide) (by decide) (Or.inl rfl))
theorem mj_371_13 : mc_P 371 13 = some (.iaload, 1, 0, 0, 0) := by decide +kernel
theorem s_371_13 {x0 x1 x2 : Option Value} {o : Nat} {i : Int32} : mw d 371 Q 13 [x0, x1, x2] (.int i :: .ref o :: st) h = (mg h o 100 ∧ mx i (mh_l h o) ∧ mw d 371 Q 14 [x0, x1, x2] (.int (mh_i h o i.toNatClampNeg) :: st) h) := (mw_at mj_371_13).trans (z_iald)
theorem mj_371_14 : mc_P 371 14 = some (.if_icmp .ge 13, 3, 0, 0, 0) := by decide +kernel
theorem s_371_14 {x0 x1 x2 : Option Value} {x w : Int32} : mw d 371 Q 14 [x0, x1, x2] (.int w :: .int x :: st) h = mB (w ≤ x) (mw d 371 Q) 27 17 [x0, x1, x2] st h := (mw_at mj_371_14).trans (z_icmp_ge (by decide) rfl)
theorem mj_371_17 : mc_P 371 17 = some (.iload_n 2, 1, 0, 0, 0) := by decide +kernel
theorem s_371_17 {x0 x1 : Option Value} {w : Value} : mw d 371 Q 17 [x0, x1, some w] (st) h = mv_i w (mw d 371 Q 18 [x0, x1, some w] (w :: st) h) := (mw_at mj_371_17).trans (z_iload_n rfl)
theorem mj_371_18 : mc_P 371 18 = some (.ifCond .lt 9, 3, 0, 0, 0) := by decide +kernel
theorem s_371_18 {x0 x1 x2 : Option Value} {x : Int32} : mw d 371 Q 18 [x0, x1, x2] (.int x :: st) h = mB (x < 0) (mw d 371 Q) 27 21 [x0, x1, x2] st h := (mw_at mj_371_18).trans (z_if_lt (by decide) rfl)
theorem mj_371_21 : mc_P 371 21 = some (.iload_n 2, 1, 0, 0, 0) := by decide +kernel
theorem s_371_21 {x0 x1 : Option Value} {w : Value} : mw d 371 Q 21 [x0, x1, some w] (st) h = mv_i w (mw d 371 Q 22 [x0, x1, some w] (w :: st) h) := (mw_at mj_371_21).trans (z_iload_n rfl)
theorem mj_371_22 : mc_P 371 22 = some (.bipush 64, 2, 0, 0, 0) := by decide +kernel
theorem s_371_22 {x0 x1 x2 : Option Value} : mw d 371 Q 22 [x0, x1, x2] (st) h = mw d 371 Q 24 [x0, x1, x2] (.int 64 :: st) h := (mw_at mj_371_22).trans (z_bipush (by decide))
theorem mj_371_24 : mc_P 371 24 = some (.if_icmp .lt 7, 3, 0, 0, 0) := by decide +kernel
theorem s_371_24 {x0 x1 x2 : Option Value} {x w : Int32} : mw d 371 Q 24 [x0, x1, x2] (.int w :: .int x :: st) h = mB (x < w) (mw d 371 Q) 31 27 [x0, x1, x2] st h := (mw_at mj_371_24).trans (z_icmp_lt (by decide) rfl)
theorem mj_371_27 : mc_P 371 27 = some (.iconst 0, 1, 0, 0, 0) := by decide +kernel
theorem s_371_27 {x0 x1 x2 : Option Value} : mw d 371 Q 27 [x0, x1, x2] (st) h = mw d 371 Q 28 [x0, x1, x2] (.int 0 :: st) h := (mw_at mj_371_27).trans (z_iconst (by decide))
theorem mj_371_28 : mc_P 371 28 = some (.goto 14, 3, 0, 0, 0) := by decide +kernel
theorem s_371_28 {x0 x1 x2 : Option Value} : mw d 371 Q 28 [x0, x1, x2] (st) h = mw d 371 Q 42 [x0, x1, x2] (st) h := (mw_at mj_371_28).trans (z_goto (by decide))
theorem mj_371_31 : mc_P 371 31 = some (.aload_n 0, 1, 0, 0, 0) := by decide +kernel
theorem s_371_31 {x1 x2 : Option Value} {w : Value} : mw d 371 Q 31 [some w, x1, x2] (st) h = mv_a w (mw d 371 Q 32 [some w, x1, x2] (w :: st) h) := (mw_at mj_371_31).trans (z_aload_n rfl)
theorem mj_371_32 : mc_P 371 32 = some (.getfield 144, 3, 14, 62, 0) := by decide +kernel
theorem s_371_32 {x0 x1 x2 : Option Value} {o : Nat} : mw d 371 Q 32 [x0, x1, x2] (.ref o :: st) h = (mg h o 14 ∧ mw d 371 Q 35 [x0, x1, x2] (va_rf (mh_r h o 62) :: st) h) := (mw_at mj_371_32).trans (z_getr (by decide) (by decide) rfl)
theorem mj_371_35 : mc_P 371 35 = some (.bipush 64, 2, 0, 0, 0) := by decide +kernel
theorem s_371_35 {x0 x1 x2 : Option Value} : mw d 371 Q 35 [x0, x1, x2] (st) h = mw d 371 Q 37 [x0, x1, x2] (.int 64 :: st) h := (mw_at mj_371_35).trans (z_bipush (by decide))
theorem mj_371_37 : mc_P 371 37 = some (.iload_n 1, 1, 0, 0, 0) := by decide +kernel
theorem s_371_37 {x0 x2 : Option Value} {w : Value} : mw d 371 Q 37 [x0, some w, x2] (st) h = mv_i w (mw d 371 Q 38 [x0, some w, x2] (w :: st) h) := (mw_at mj_371_37).trans (z_iload_n rfl)
theorem mj_371_38 : mc_P 371 38 = some (.imul, 1, 0, 0, 0) := by decide +kernel
theorem s_371_38 {x0 x1 x2 : Option Value} {x w : Int32} : mw d 371 Q 38 [x0, x1, x2] (.int w :: .int x :: st) h = mw d 371 Q 39 [x0, x1, x2] (.int (x * w) :: st) h := (mw_at mj_371_38).trans (z_imul)
theorem mj_371_39 : mc_P 371 39 = some (.iload_n 2, 1, 0, 0, 0) := by decide +kernel
theorem s_371_39 {x0 x1 : Option Value} {w : Value} : mw d 371 Q 39 [x0, x1, some w] (st) h = mv_i w (mw d 371 Q 40 [x0, x1, some w] (w :: st) h) := (mw_at mj_371_39).trans (z_iload_n rfl)
theorem mj_371_40 : mc_P 371 40 = some (.iadd, 1, 0, 0, 0) := by decide +kernel
theorem s_371_40 {x0 x1 x2 : Option Value} {x w : Int32} : mw d 371 Q 40 [x0, x1, x2] (.int w :: .int x :: st) h = mw d 371 Q 41 [x0, x1, x2] (.int (x + w) :: st) h := (mw_at mj_371_40).trans (z_iadd)
theorem mj_371_41 : mc_P 371 41 = some (.iaload, 1, 0, 0, 0) := by decide +kernel
theorem s_371_41 {x0 x1 x2 : Option Value} {o : Nat} {i : Int32} : mw d 371 Q 41 [x0, x1, x2] (.int i :: .ref o :: st) h = (mg h o 100 ∧ mx i (mh_l h o) ∧ mw d 371 Q 42 [x0, x1, x2] (.int (mh_i h o i.toNatClampNeg) :: st) h) := (mw_at mj_371_41).trans (z_iald)
theorem mj_371_42 : mc_P 371 42 = some (.ireturn, 1, 0, 0, 0) := by decide +kernel
theorem s_371_42 {x0 x1 x2 : Option Value} {x : Int32} : mw d 371 Q 42 [x0, x1, x2] ([.int x]) h = (Q (some (.int x)) h) := (mw_at mj_371_42).trans (z_iret)
theorem e_371 {a0 : Nat} {a1 : Int32} {a2 : Int32} : mcall d 371 [.ref a0, .int a1, .int a2] h Q = mw d 371 Q 0 [some (.ref a0), some (.int a1), some (.int a2)] [] h := by
  show mw d 371 Q 0 (me_en (mc_nl 371) _) [] h = _
  rw [nl_371]; rfl

/-! InvariantDeskModel.at(ZI)LInvariantDeskModel$Known; -/
theorem mj_372_0 : mc_P 372 0 = some (.iload_n 1, 1, 0, 0, 0) := by decide +kernel
theorem s_372_0 {x0 x2 : Option Value} {w : Value} : mw d 372 Q 0 [x0, some w, x2] (st) h = mv_i w (mw d 372 Q 1 [x0, some w, x2] (w :: st) h) := (mw_at mj_372_0).trans (z_iload_n rfl)
theorem mj_372_1 : mc_P 372 1 = some (.ifCond .eq 15, 3, 0, 0, 0) := by decide +kernel
theorem s_372_1 {x0 x1 x2 : Option Value} {x : Int32} : mw d 372 Q 1 [x0, x1, x2] (.int x :: st) h = mB (x = 0) (mw d 372 Q) 16 4 [x0, x1, x2] st h := (mw_at mj_372_1).trans (z_if_eq (by decide) rfl)
theorem mj_372_4 : mc_P 372 4 = some (.aload_n 0, 1, 0, 0, 0) := by decide +kernel
theorem s_372_4 {x1 x2 : Option Value} {w : Value} : mw d 372 Q 4 [some w, x1, x2] (st) h = mv_a w (mw d 372 Q 5 [some w, x1, x2] (w :: st) h) := (mw_at mj_372_4).trans (z_aload_n rfl)
theorem mj_372_5 : mc_P 372 5 = some (.getfield 121, 3, 14, 52, 0) := by decide +kernel
theorem s_372_5 {x0 x1 x2 : Option Value} {o : Nat} : mw d 372 Q 5 [x0, x1, x2] (.ref o :: st) h = (mg h o 14 ∧ mw d 372 Q 8 [x0, x1, x2] (va_rf (mh_r h o 52) :: st) h) := (mw_at mj_372_5).trans (z_getr (by decide) (by decide) rfl)
theorem mj_372_8 : mc_P 372 8 = some (.getfield 416, 3, 12, 5, 0) := by decide +kernel
theorem s_372_8 {x0 x1 x2 : Option Value} {o : Nat} : mw d 372 Q 8 [x0, x1, x2] (.ref o :: st) h = (mg h o 12 ∧ mw d 372 Q 11 [x0, x1, x2] (va_rf (mh_r h o 5) :: st) h) := (mw_at mj_372_8).trans (z_getr (by decide) (by decide) rfl)
theorem mj_372_11 : mc_P 372 11 = some (.iload_n 2, 1, 0, 0, 0) := by decide +kernel
theorem s_372_11 {x0 x1 : Option Value} {w : Value} : mw d 372 Q 11 [x0, x1, some w] (st) h = mv_i w (mw d 372 Q 12 [x0, x1, some w] (w :: st) h) := (mw_at mj_372_11).trans (z_iload_n rfl)
theorem mj_372_12 : mc_P 372 12 = some (.aaload, 1, 0, 0, 0) := by decide +kernel
theorem s_372_12 {x0 x1 x2 : Option Value} {o : Nat} {i : Int32} : mw d 372 Q 12 [x0, x1, x2] (.int i :: .ref o :: st) h = (mgr h o ∧ mx i (mh_l h o) ∧ mw d 372 Q 13 [x0, x1, x2] (mrd (mh_k h o) h o i.toNatClampNeg :: st) h) := (mw_at mj_372_12).trans (z_aald)
theorem mj_372_13 : mc_P 372 13 = some (.goto 12, 3, 0, 0, 0) := by decide +kernel
theorem s_372_13 {x0 x1 x2 : Option Value} : mw d 372 Q 13 [x0, x1, x2] (st) h = mw d 372 Q 25 [x0, x1, x2] (st) h := (mw_at mj_372_13).trans (z_goto (by decide))
theorem mj_372_16 : mc_P 372 16 = some (.aload_n 0, 1, 0, 0, 0) := by decide +kernel
theorem s_372_16 {x1 x2 : Option Value} {w : Value} : mw d 372 Q 16 [some w, x1, x2] (st) h = mv_a w (mw d 372 Q 17 [some w, x1, x2] (w :: st) h) := (mw_at mj_372_16).trans (z_aload_n rfl)
theorem mj_372_17 : mc_P 372 17 = some (.getfield 121, 3, 14, 52, 0) := by decide +kernel
theorem s_372_17 {x0 x1 x2 : Option Value} {o : Nat} : mw d 372 Q 17 [x0, x1, x2] (.ref o :: st) h = (mg h o 14 ∧ mw d 372 Q 20 [x0, x1, x2] (va_rf (mh_r h o 52) :: st) h) := (mw_at mj_372_17).trans (z_getr (by decide) (by decide) rfl)
theorem mj_372_20 : mc_P 372 20 = some (.getfield 412, 3, 12, 4, 0) := by decide +kernel
theorem s_372_20 {x0 x1 x2 : Option Value} {o : Nat} : mw d 372 Q 20 [x0, x1, x2] (.ref o :: st) h = (mg h o 12 ∧ mw d 372 Q 23 [x0, x1, x2] (va_rf (mh_r h o 4) :: st) h) := (mw_at mj_372_20).trans (z_getr (by decide) (by decide) rfl)
theorem mj_372_23 : mc_P 372 23 = some (.iload_n 2, 1, 0, 0, 0) := by decide +kernel
theorem s_372_23 {x0 x1 : Option Value} {w : Value} : mw d 372 Q 23 [x0, x1, some w] (st) h = mv_i w (mw d 372 Q 24 [x0, x1, some w] (w :: st) h) := (mw_at mj_372_23).trans (z_iload_n rfl)
theorem mj_372_24 : mc_P 372 24 = some (.aaload, 1, 0, 0, 0) := by decide +kernel
theorem s_372_24 {x0 x1 x2 : Option Value} {o : Nat} {i : Int32} : mw d 372 Q 24 [x0, x1, x2] (.int i :: .ref o :: st) h = (mgr h o ∧ mx i (mh_l h o) ∧ mw d 372 Q 25 [x0, x1, x2] (mrd (mh_k h o) h o i.toNatClampNeg :: st) h) := (mw_at mj_372_24).trans (z_aald)
theorem mj_372_25 : mc_P 372 25 = some (.areturn, 1, 0, 0, 0) := by decide +kernel
theorem s_372_25 {x0 x1 x2 : Option Value} {x : Nat} : mw d 372 Q 25 [x0, x1, x2] ([.ref x]) h = Q (some (.ref x)) h := (mw_at mj_372_25).trans (z_aret)
theorem s_372_25n {x0 x1 x2 : Option Value} : mw d 372 Q 25 [x0, x1, x2] ([.null]) h = Q (some .null) h := (mw_at mj_372_25).trans (z_aretN)
theorem e_372 {a0 : Nat} {a1 : Int32} {a2 : Int32} : mcall d 372 [.ref a0, .int a1, .int a2] h Q = mw d 372 Q 0 [some (.ref a0), some (.int a1), some (.int a2)] [] h := by
  show mw d 372 Q 0 (me_en (mc_nl 372) _) [] h = _
  rw [nl_372]; rfl

/-! InvariantDeskModel.hasPoint(I)Z -/
theorem mj_373_0 : mc_P 373 0 = some (.iload_n 1, 1, 0, 0, 0) := by decide +kernel
theorem s_373_0 {x0 : Option Value} {w : Value} : mw d 373 Q 0 [x0, some w] (st) h = mv_i w (mw d 373 Q 1 [x0, some w] (w :: st) h) := (mw_at mj_373_0).trans (z_iload_n rfl)
theorem mj_373_1 : mc_P 373 1 = some (.ifCond .lt 15, 3, 0, 0, 0) := by decide +kernel
theorem s_373_1 {x0 x1 : Option Value} {x : Int32} : mw d 373 Q 1 [x0, x1] (.int x :: st) h = mB (x < 0) (mw d 373 Q) 16 4 [x0, x1] st h := (mw_at mj_373_1).trans (z_if_lt (by decide) rfl)
theorem mj_373_4 : mc_P 373 4 = some (.iload_n 1, 1, 0, 0, 0) := by decide +kernel
theorem s_373_4 {x0 : Option Value} {w : Value} : mw d 373 Q 4 [x0, some w] (st) h = mv_i w (mw d 373 Q 5 [x0, some w] (w :: st) h) := (mw_at mj_373_4).trans (z_iload_n rfl)
theorem mj_373_5 : mc_P 373 5 = some (.aload_n 0, 1, 0, 0, 0) := by decide +kernel
theorem s_373_5 {x1 : Option Value} {w : Value} : mw d 373 Q 5 [some w, x1] (st) h = mv_a w (mw d 373 Q 6 [some w, x1] (w :: st) h) := (mw_at mj_373_5).trans (z_aload_n rfl)
theorem mj_373_6 : mc_P 373 6 = some (.getfield 176, 3, 14, 33, 0) := by decide +kernel
theorem s_373_6 {x0 x1 : Option Value} {o : Nat} : mw d 373 Q 6 [x0, x1] (.ref o :: st) h = (mg h o 14 ∧ mw d 373 Q 9 [x0, x1] (.int (mh_i h o 33) :: st) h) := (mw_at mj_373_6).trans (z_geti (by decide) (by decide) (Or.inl rfl))
theorem mj_373_9 : mc_P 373 9 = some (.if_icmp .ge 7, 3, 0, 0, 0) := by decide +kernel
theorem s_373_9 {x0 x1 : Option Value} {x w : Int32} : mw d 373 Q 9 [x0, x1] (.int w :: .int x :: st) h = mB (w ≤ x) (mw d 373 Q) 16 12 [x0, x1] st h := (mw_at mj_373_9).trans (z_icmp_ge (by decide) rfl)
theorem mj_373_12 : mc_P 373 12 = some (.iconst 1, 1, 0, 0, 0) := by decide +kernel
theorem s_373_12 {x0 x1 : Option Value} : mw d 373 Q 12 [x0, x1] (st) h = mw d 373 Q 13 [x0, x1] (.int 1 :: st) h := (mw_at mj_373_12).trans (z_iconst (by decide))
theorem mj_373_13 : mc_P 373 13 = some (.goto 4, 3, 0, 0, 0) := by decide +kernel
theorem s_373_13 {x0 x1 : Option Value} : mw d 373 Q 13 [x0, x1] (st) h = mw d 373 Q 17 [x0, x1] (st) h := (mw_at mj_373_13).trans (z_goto (by decide))
theorem mj_373_16 : mc_P 373 16 = some (.iconst 0, 1, 0, 0, 0) := by decide +kernel
theorem s_373_16 {x0 x1 : Option Value} : mw d 373 Q 16 [x0, x1] (st) h = mw d 373 Q 17 [x0, x1] (.int 0 :: st) h := (mw_at mj_373_16).trans (z_iconst (by decide))
theorem mj_373_17 : mc_P 373 17 = some (.ireturn, 1, 0, 3, 0) := by decide +kernel
theorem s_373_17 {x0 x1 : Option Value} {x : Int32} : mw d 373 Q 17 [x0, x1] ([.int x]) h = ((x = 0 ∨ x = 1) ∧ Q (some (.int x)) h) := (mw_at mj_373_17).trans (z_zret)
theorem e_373 {a0 : Nat} {a1 : Int32} : mcall d 373 [.ref a0, .int a1] h Q = mw d 373 Q 0 [some (.ref a0), some (.int a1)] [] h := by
  show mw d 373 Q 0 (me_en (mc_nl 373) _) [] h = _
  rw [nl_373]; rfl

/-! InvariantDeskModel.areSlots(IIIII)Z -/
theorem mj_375_0 : mc_P 375 0 = some (.aload_n 0, 1, 0, 0, 0) := by decide +kernel
theorem s_375_0 {x1 x2 x3 x4 x5 : Option Value} {w : Value} : mw d 375 Q 0 [some w, x1, x2, x3, x4, x5] (st) h = mv_a w (mw d 375 Q 1 [some w, x1, x2, x3, x4, x5] (w :: st) h) := (mw_at mj_375_0).trans (z_aload_n rfl)
theorem mj_375_1 : mc_P 375 1 = some (.iload_n 1, 1, 0, 0, 0) := by decide +kernel
theorem s_375_1 {x0 x2 x3 x4 x5 : Option Value} {w : Value} : mw d 375 Q 1 [x0, some w, x2, x3, x4, x5] (st) h = mv_i w (mw d 375 Q 2 [x0, some w, x2, x3, x4, x5] (w :: st) h) := (mw_at mj_375_1).trans (z_iload_n rfl)
theorem mj_375_2 : mc_P 375 2 = some (.invokevirtual 493, 3, 373, 14, 2) := by decide +kernel
theorem s_375_2 {x0 x1 x2 x3 x4 x5 : Option Value} {o : Nat} {a1 : Value} : mw (d + 1) 375 Q 2 [x0, x1, x2, x3, x4, x5] (a1 :: .ref o :: st) h = (mg h o 14 ∧ mca st 8 ∧ mca [.ref o, a1] 2 ∧ mcall d 373 [.ref o, a1] h (mK (d + 1) 375 Q 5 [x0, x1, x2, x3, x4, x5] st)) := (mw_at mj_375_2).trans ((z_invv (As := [a1]) (by decide) rfl rfl).trans (congrArg (And _) (congrArg (And _) (mC_nl nl_373))))
theorem mj_375_5 : mc_P 375 5 = some (.ifCond .eq 64, 3, 0, 0, 0) := by decide +kernel
theorem s_375_5 {x0 x1 x2 x3 x4 x5 : Option Value} {x : Int32} : mw d 375 Q 5 [x0, x1, x2, x3, x4, x5] (.int x :: st) h = mB (x = 0) (mw d 375 Q) 69 8 [x0, x1, x2, x3, x4, x5] st h := (mw_at mj_375_5).trans (z_if_eq (by decide) rfl)
theorem mj_375_8 : mc_P 375 8 = some (.iload_n 2, 1, 0, 0, 0) := by decide +kernel
theorem s_375_8 {x0 x1 x3 x4 x5 : Option Value} {w : Value} : mw d 375 Q 8 [x0, x1, some w, x3, x4, x5] (st) h = mv_i w (mw d 375 Q 9 [x0, x1, some w, x3, x4, x5] (w :: st) h) := (mw_at mj_375_8).trans (z_iload_n rfl)
theorem mj_375_9 : mc_P 375 9 = some (.ifCond .lt 60, 3, 0, 0, 0) := by decide +kernel
theorem s_375_9 {x0 x1 x2 x3 x4 x5 : Option Value} {x : Int32} : mw d 375 Q 9 [x0, x1, x2, x3, x4, x5] (.int x :: st) h = mB (x < 0) (mw d 375 Q) 69 12 [x0, x1, x2, x3, x4, x5] st h := (mw_at mj_375_9).trans (z_if_lt (by decide) rfl)
theorem mj_375_12 : mc_P 375 12 = some (.iload_n 2, 1, 0, 0, 0) := by decide +kernel
theorem s_375_12 {x0 x1 x3 x4 x5 : Option Value} {w : Value} : mw d 375 Q 12 [x0, x1, some w, x3, x4, x5] (st) h = mv_i w (mw d 375 Q 13 [x0, x1, some w, x3, x4, x5] (w :: st) h) := (mw_at mj_375_12).trans (z_iload_n rfl)
theorem mj_375_13 : mc_P 375 13 = some (.aload_n 0, 1, 0, 0, 0) := by decide +kernel
theorem s_375_13 {x1 x2 x3 x4 x5 : Option Value} {w : Value} : mw d 375 Q 13 [some w, x1, x2, x3, x4, x5] (st) h = mv_a w (mw d 375 Q 14 [some w, x1, x2, x3, x4, x5] (w :: st) h) := (mw_at mj_375_13).trans (z_aload_n rfl)
theorem mj_375_14 : mc_P 375 14 = some (.getfield 79, 3, 14, 31, 0) := by decide +kernel
theorem s_375_14 {x0 x1 x2 x3 x4 x5 : Option Value} {o : Nat} : mw d 375 Q 14 [x0, x1, x2, x3, x4, x5] (.ref o :: st) h = (mg h o 14 ∧ mw d 375 Q 17 [x0, x1, x2, x3, x4, x5] (va_rf (mh_r h o 31) :: st) h) := (mw_at mj_375_14).trans (z_getr (by decide) (by decide) rfl)
theorem mj_375_17 : mc_P 375 17 = some (.iload_n 1, 1, 0, 0, 0) := by decide +kernel
theorem s_375_17 {x0 x2 x3 x4 x5 : Option Value} {w : Value} : mw d 375 Q 17 [x0, some w, x2, x3, x4, x5] (st) h = mv_i w (mw d 375 Q 18 [x0, some w, x2, x3, x4, x5] (w :: st) h) := (mw_at mj_375_17).trans (z_iload_n rfl)
theorem mj_375_18 : mc_P 375 18 = some (.iaload, 1, 0, 0, 0) := by decide +kernel
theorem s_375_18 {x0 x1 x2 x3 x4 x5 : Option Value} {o : Nat} {i : Int32} : mw d 375 Q 18 [x0, x1, x2, x3, x4, x5] (.int i :: .ref o :: st) h = (mg h o 100 ∧ mx i (mh_l h o) ∧ mw d 375 Q 19 [x0, x1, x2, x3, x4, x5] (.int (mh_i h o i.toNatClampNeg) :: st) h) := (mw_at mj_375_18).trans (z_iald)
theorem mj_375_19 : mc_P 375 19 = some (.if_icmp .ge 50, 3, 0, 0, 0) := by decide +kernel
theorem s_375_19 {x0 x1 x2 x3 x4 x5 : Option Value} {x w : Int32} : mw d 375 Q 19 [x0, x1, x2, x3, x4, x5] (.int w :: .int x :: st) h = mB (w ≤ x) (mw d 375 Q) 69 22 [x0, x1, x2, x3, x4, x5] st h := (mw_at mj_375_19).trans (z_icmp_ge (by decide) rfl)
theorem mj_375_22 : mc_P 375 22 = some (.iload 4, 2, 0, 0, 0) := by decide +kernel
theorem s_375_22 {x0 x1 x2 x3 x5 : Option Value} {w : Value} : mw d 375 Q 22 [x0, x1, x2, x3, some w, x5] (st) h = mv_i w (mw d 375 Q 24 [x0, x1, x2, x3, some w, x5] (w :: st) h) := (mw_at mj_375_22).trans (z_iload rfl)
theorem mj_375_24 : mc_P 375 24 = some (.ifCond .lt 45, 3, 0, 0, 0) := by decide +kernel
theorem s_375_24 {x0 x1 x2 x3 x4 x5 : Option Value} {x : Int32} : mw d 375 Q 24 [x0, x1, x2, x3, x4, x5] (.int x :: st) h = mB (x < 0) (mw d 375 Q) 69 27 [x0, x1, x2, x3, x4, x5] st h := (mw_at mj_375_24).trans (z_if_lt (by decide) rfl)
theorem mj_375_27 : mc_P 375 27 = some (.iload 4, 2, 0, 0, 0) := by decide +kernel
theorem s_375_27 {x0 x1 x2 x3 x5 : Option Value} {w : Value} : mw d 375 Q 27 [x0, x1, x2, x3, some w, x5] (st) h = mv_i w (mw d 375 Q 29 [x0, x1, x2, x3, some w, x5] (w :: st) h) := (mw_at mj_375_27).trans (z_iload rfl)
theorem mj_375_29 : mc_P 375 29 = some (.aload_n 0, 1, 0, 0, 0) := by decide +kernel
theorem s_375_29 {x1 x2 x3 x4 x5 : Option Value} {w : Value} : mw d 375 Q 29 [some w, x1, x2, x3, x4, x5] (st) h = mv_a w (mw d 375 Q 30 [some w, x1, x2, x3, x4, x5] (w :: st) h) := (mw_at mj_375_29).trans (z_aload_n rfl)
theorem mj_375_30 : mc_P 375 30 = some (.getfield 79, 3, 14, 31, 0) := by decide +kernel
theorem s_375_30 {x0 x1 x2 x3 x4 x5 : Option Value} {o : Nat} : mw d 375 Q 30 [x0, x1, x2, x3, x4, x5] (.ref o :: st) h = (mg h o 14 ∧ mw d 375 Q 33 [x0, x1, x2, x3, x4, x5] (va_rf (mh_r h o 31) :: st) h) := (mw_at mj_375_30).trans (z_getr (by decide) (by decide) rfl)
theorem mj_375_33 : mc_P 375 33 = some (.iload_n 1, 1, 0, 0, 0) := by decide +kernel
theorem s_375_33 {x0 x2 x3 x4 x5 : Option Value} {w : Value} : mw d 375 Q 33 [x0, some w, x2, x3, x4, x5] (st) h = mv_i w (mw d 375 Q 34 [x0, some w, x2, x3, x4, x5] (w :: st) h) := (mw_at mj_375_33).trans (z_iload_n rfl)
theorem mj_375_34 : mc_P 375 34 = some (.iaload, 1, 0, 0, 0) := by decide +kernel
theorem s_375_34 {x0 x1 x2 x3 x4 x5 : Option Value} {o : Nat} {i : Int32} : mw d 375 Q 34 [x0, x1, x2, x3, x4, x5] (.int i :: .ref o :: st) h = (mg h o 100 ∧ mx i (mh_l h o) ∧ mw d 375 Q 35 [x0, x1, x2, x3, x4, x5] (.int (mh_i h o i.toNatClampNeg) :: st) h) := (mw_at mj_375_34).trans (z_iald)
theorem mj_375_35 : mc_P 375 35 = some (.if_icmp .ge 34, 3, 0, 0, 0) := by decide +kernel
theorem s_375_35 {x0 x1 x2 x3 x4 x5 : Option Value} {x w : Int32} : mw d 375 Q 35 [x0, x1, x2, x3, x4, x5] (.int w :: .int x :: st) h = mB (w ≤ x) (mw d 375 Q) 69 38 [x0, x1, x2, x3, x4, x5] st h := (mw_at mj_375_35).trans (z_icmp_ge (by decide) rfl)
theorem mj_375_38 : mc_P 375 38 = some (.iload_n 3, 1, 0, 0, 0) := by decide +kernel
theorem s_375_38 {x0 x1 x2 x4 x5 : Option Value} {w : Value} : mw d 375 Q 38 [x0, x1, x2, some w, x4, x5] (st) h = mv_i w (mw d 375 Q 39 [x0, x1, x2, some w, x4, x5] (w :: st) h) := (mw_at mj_375_38).trans (z_iload_n rfl)
theorem mj_375_39 : mc_P 375 39 = some (.invokestatic 496, 3, 374, 0, 1) := by decide +kernel
theorem s_375_39 {x0 x1 x2 x3 x4 x5 : Option Value} {a0 : Value} : mw (d + 1) 375 Q 39 [x0, x1, x2, x3, x4, x5] (a0 :: st) h = (mca st 8 ∧ mca [a0] 1 ∧ mcall d 374 [a0] h (mK (d + 1) 375 Q 42 [x0, x1, x2, x3, x4, x5] st)) := (mw_at mj_375_39).trans ((z_invs (As := [a0]) rfl rfl).trans (congrArg (And _) (mC_nl nl_374)))
theorem mj_375_42 : mc_P 375 42 = some (.ifCond .eq 27, 3, 0, 0, 0) := by decide +kernel
theorem s_375_42 {x0 x1 x2 x3 x4 x5 : Option Value} {x : Int32} : mw d 375 Q 42 [x0, x1, x2, x3, x4, x5] (.int x :: st) h = mB (x = 0) (mw d 375 Q) 69 45 [x0, x1, x2, x3, x4, x5] st h := (mw_at mj_375_42).trans (z_if_eq (by decide) rfl)
theorem mj_375_45 : mc_P 375 45 = some (.iload 5, 2, 0, 0, 0) := by decide +kernel
theorem s_375_45 {x0 x1 x2 x3 x4 : Option Value} {w : Value} : mw d 375 Q 45 [x0, x1, x2, x3, x4, some w] (st) h = mv_i w (mw d 375 Q 47 [x0, x1, x2, x3, x4, some w] (w :: st) h) := (mw_at mj_375_45).trans (z_iload rfl)
theorem mj_375_47 : mc_P 375 47 = some (.invokestatic 496, 3, 374, 0, 1) := by decide +kernel
theorem s_375_47 {x0 x1 x2 x3 x4 x5 : Option Value} {a0 : Value} : mw (d + 1) 375 Q 47 [x0, x1, x2, x3, x4, x5] (a0 :: st) h = (mca st 8 ∧ mca [a0] 1 ∧ mcall d 374 [a0] h (mK (d + 1) 375 Q 50 [x0, x1, x2, x3, x4, x5] st)) := (mw_at mj_375_47).trans ((z_invs (As := [a0]) rfl rfl).trans (congrArg (And _) (mC_nl nl_374)))
theorem mj_375_50 : mc_P 375 50 = some (.ifCond .eq 19, 3, 0, 0, 0) := by decide +kernel
theorem s_375_50 {x0 x1 x2 x3 x4 x5 : Option Value} {x : Int32} : mw d 375 Q 50 [x0, x1, x2, x3, x4, x5] (.int x :: st) h = mB (x = 0) (mw d 375 Q) 69 53 [x0, x1, x2, x3, x4, x5] st h := (mw_at mj_375_50).trans (z_if_eq (by decide) rfl)
theorem mj_375_53 : mc_P 375 53 = some (.iload_n 2, 1, 0, 0, 0) := by decide +kernel
theorem s_375_53 {x0 x1 x3 x4 x5 : Option Value} {w : Value} : mw d 375 Q 53 [x0, x1, some w, x3, x4, x5] (st) h = mv_i w (mw d 375 Q 54 [x0, x1, some w, x3, x4, x5] (w :: st) h) := (mw_at mj_375_53).trans (z_iload_n rfl)
theorem mj_375_54 : mc_P 375 54 = some (.iload 4, 2, 0, 0, 0) := by decide +kernel
theorem s_375_54 {x0 x1 x2 x3 x5 : Option Value} {w : Value} : mw d 375 Q 54 [x0, x1, x2, x3, some w, x5] (st) h = mv_i w (mw d 375 Q 56 [x0, x1, x2, x3, some w, x5] (w :: st) h) := (mw_at mj_375_54).trans (z_iload rfl)
theorem mj_375_56 : mc_P 375 56 = some (.if_icmp .ne 9, 3, 0, 0, 0) := by decide +kernel
theorem s_375_56 {x0 x1 x2 x3 x4 x5 : Option Value} {x w : Int32} : mw d 375 Q 56 [x0, x1, x2, x3, x4, x5] (.int w :: .int x :: st) h = mB (¬ x = w) (mw d 375 Q) 65 59 [x0, x1, x2, x3, x4, x5] st h := (mw_at mj_375_56).trans (z_icmp_ne (by decide) rfl)
theorem mj_375_59 : mc_P 375 59 = some (.iload_n 3, 1, 0, 0, 0) := by decide +kernel
theorem s_375_59 {x0 x1 x2 x4 x5 : Option Value} {w : Value} : mw d 375 Q 59 [x0, x1, x2, some w, x4, x5] (st) h = mv_i w (mw d 375 Q 60 [x0, x1, x2, some w, x4, x5] (w :: st) h) := (mw_at mj_375_59).trans (z_iload_n rfl)
theorem mj_375_60 : mc_P 375 60 = some (.iload 5, 2, 0, 0, 0) := by decide +kernel
theorem s_375_60 {x0 x1 x2 x3 x4 : Option Value} {w : Value} : mw d 375 Q 60 [x0, x1, x2, x3, x4, some w] (st) h = mv_i w (mw d 375 Q 62 [x0, x1, x2, x3, x4, some w] (w :: st) h) := (mw_at mj_375_60).trans (z_iload rfl)
theorem mj_375_62 : mc_P 375 62 = some (.if_icmp .ne 7, 3, 0, 0, 0) := by decide +kernel
theorem s_375_62 {x0 x1 x2 x3 x4 x5 : Option Value} {x w : Int32} : mw d 375 Q 62 [x0, x1, x2, x3, x4, x5] (.int w :: .int x :: st) h = mB (¬ x = w) (mw d 375 Q) 69 65 [x0, x1, x2, x3, x4, x5] st h := (mw_at mj_375_62).trans (z_icmp_ne (by decide) rfl)
theorem mj_375_65 : mc_P 375 65 = some (.iconst 1, 1, 0, 0, 0) := by decide +kernel
theorem s_375_65 {x0 x1 x2 x3 x4 x5 : Option Value} : mw d 375 Q 65 [x0, x1, x2, x3, x4, x5] (st) h = mw d 375 Q 66 [x0, x1, x2, x3, x4, x5] (.int 1 :: st) h := (mw_at mj_375_65).trans (z_iconst (by decide))
theorem mj_375_66 : mc_P 375 66 = some (.goto 4, 3, 0, 0, 0) := by decide +kernel
theorem s_375_66 {x0 x1 x2 x3 x4 x5 : Option Value} : mw d 375 Q 66 [x0, x1, x2, x3, x4, x5] (st) h = mw d 375 Q 70 [x0, x1, x2, x3, x4, x5] (st) h := (mw_at mj_375_66).trans (z_goto (by decide))
theorem mj_375_69 : mc_P 375 69 = some (.iconst 0, 1, 0, 0, 0) := by decide +kernel
theorem s_375_69 {x0 x1 x2 x3 x4 x5 : Option Value} : mw d 375 Q 69 [x0, x1, x2, x3, x4, x5] (st) h = mw d 375 Q 70 [x0, x1, x2, x3, x4, x5] (.int 0 :: st) h := (mw_at mj_375_69).trans (z_iconst (by decide))
theorem mj_375_70 : mc_P 375 70 = some (.ireturn, 1, 0, 3, 0) := by decide +kernel
theorem s_375_70 {x0 x1 x2 x3 x4 x5 : Option Value} {x : Int32} : mw d 375 Q 70 [x0, x1, x2, x3, x4, x5] ([.int x]) h = ((x = 0 ∨ x = 1) ∧ Q (some (.int x)) h) := (mw_at mj_375_70).trans (z_zret)
theorem e_375 {a0 : Nat} {a1 : Int32} {a2 : Int32} {a3 : Int32} {a4 : Int32} {a5 : Int32} : mcall d 375 [.ref a0, .int a1, .int a2, .int a3, .int a4, .int a5] h Q = mw d 375 Q 0 [some (.ref a0), some (.int a1), some (.int a2), some (.int a3), some (.int a4), some (.int a5)] [] h := by
  show mw d 375 Q 0 (me_en (mc_nl 375) _) [] h = _
  rw [nl_375]; rfl

/-! InvariantDeskModel.bound(ZIIIII)J -/
theorem mj_377_0 : mc_P 377 0 = some (.aload_n 0, 1, 0, 0, 0) := by decide +kernel
theorem s_377_0 {x1 x2 x3 x4 x5 x6 : Option Value} {w : Value} : mw d 377 Q 0 [some w, x1, x2, x3, x4, x5, x6] (st) h = mv_a w (mw d 377 Q 1 [some w, x1, x2, x3, x4, x5, x6] (w :: st) h) := (mw_at mj_377_0).trans (z_aload_n rfl)
theorem mj_377_1 : mc_P 377 1 = some (.iload_n 2, 1, 0, 0, 0) := by decide +kernel
theorem s_377_1 {x0 x1 x3 x4 x5 x6 : Option Value} {w : Value} : mw d 377 Q 1 [x0, x1, some w, x3, x4, x5, x6] (st) h = mv_i w (mw d 377 Q 2 [x0, x1, some w, x3, x4, x5, x6] (w :: st) h) := (mw_at mj_377_1).trans (z_iload_n rfl)
theorem mj_377_2 : mc_P 377 2 = some (.iload_n 3, 1, 0, 0, 0) := by decide +kernel
theorem s_377_2 {x0 x1 x2 x4 x5 x6 : Option Value} {w : Value} : mw d 377 Q 2 [x0, x1, x2, some w, x4, x5, x6] (st) h = mv_i w (mw d 377 Q 3 [x0, x1, x2, some w, x4, x5, x6] (w :: st) h) := (mw_at mj_377_2).trans (z_iload_n rfl)
theorem mj_377_3 : mc_P 377 3 = some (.iload 4, 2, 0, 0, 0) := by decide +kernel
theorem s_377_3 {x0 x1 x2 x3 x5 x6 : Option Value} {w : Value} : mw d 377 Q 3 [x0, x1, x2, x3, some w, x5, x6] (st) h = mv_i w (mw d 377 Q 5 [x0, x1, x2, x3, some w, x5, x6] (w :: st) h) := (mw_at mj_377_3).trans (z_iload rfl)
theorem mj_377_5 : mc_P 377 5 = some (.iload 5, 2, 0, 0, 0) := by decide +kernel
theorem s_377_5 {x0 x1 x2 x3 x4 x6 : Option Value} {w : Value} : mw d 377 Q 5 [x0, x1, x2, x3, x4, some w, x6] (st) h = mv_i w (mw d 377 Q 7 [x0, x1, x2, x3, x4, some w, x6] (w :: st) h) := (mw_at mj_377_5).trans (z_iload rfl)
theorem mj_377_7 : mc_P 377 7 = some (.iload 6, 2, 0, 0, 0) := by decide +kernel
theorem s_377_7 {x0 x1 x2 x3 x4 x5 : Option Value} {w : Value} : mw d 377 Q 7 [x0, x1, x2, x3, x4, x5, some w] (st) h = mv_i w (mw d 377 Q 9 [x0, x1, x2, x3, x4, x5, some w] (w :: st) h) := (mw_at mj_377_7).trans (z_iload rfl)
theorem mj_377_9 : mc_P 377 9 = some (.invokevirtual 499, 3, 375, 14, 6) := by decide +kernel
theorem s_377_9 {x0 x1 x2 x3 x4 x5 x6 : Option Value} {o : Nat} {a1 a2 a3 a4 a5 : Value} : mw (d + 1) 377 Q 9 [x0, x1, x2, x3, x4, x5, x6] (a5 :: a4 :: a3 :: a2 :: a1 :: .ref o :: st) h = (mg h o 14 ∧ mca st 8 ∧ mca [.ref o, a1, a2, a3, a4, a5] 6 ∧ mcall d 375 [.ref o, a1, a2, a3, a4, a5] h (mK (d + 1) 377 Q 12 [x0, x1, x2, x3, x4, x5, x6] st)) := (mw_at mj_377_9).trans ((z_invv (As := [a1, a2, a3, a4, a5]) (by decide) rfl rfl).trans (congrArg (And _) (congrArg (And _) (mC_nl nl_375))))
theorem mj_377_12 : mc_P 377 12 = some (.ifCond .eq 15, 3, 0, 0, 0) := by decide +kernel
theorem s_377_12 {x0 x1 x2 x3 x4 x5 x6 : Option Value} {x : Int32} : mw d 377 Q 12 [x0, x1, x2, x3, x4, x5, x6] (.int x :: st) h = mB (x = 0) (mw d 377 Q) 27 15 [x0, x1, x2, x3, x4, x5, x6] st h := (mw_at mj_377_12).trans (z_if_eq (by decide) rfl)
theorem mj_377_15 : mc_P 377 15 = some (.aload_n 0, 1, 0, 0, 0) := by decide +kernel
theorem s_377_15 {x1 x2 x3 x4 x5 x6 : Option Value} {w : Value} : mw d 377 Q 15 [some w, x1, x2, x3, x4, x5, x6] (st) h = mv_a w (mw d 377 Q 16 [some w, x1, x2, x3, x4, x5, x6] (w :: st) h) := (mw_at mj_377_15).trans (z_aload_n rfl)
theorem mj_377_16 : mc_P 377 16 = some (.iload_n 1, 1, 0, 0, 0) := by decide +kernel
theorem s_377_16 {x0 x2 x3 x4 x5 x6 : Option Value} {w : Value} : mw d 377 Q 16 [x0, some w, x2, x3, x4, x5, x6] (st) h = mv_i w (mw d 377 Q 17 [x0, some w, x2, x3, x4, x5, x6] (w :: st) h) := (mw_at mj_377_16).trans (z_iload_n rfl)
theorem mj_377_17 : mc_P 377 17 = some (.iload_n 2, 1, 0, 0, 0) := by decide +kernel
theorem s_377_17 {x0 x1 x3 x4 x5 x6 : Option Value} {w : Value} : mw d 377 Q 17 [x0, x1, some w, x3, x4, x5, x6] (st) h = mv_i w (mw d 377 Q 18 [x0, x1, some w, x3, x4, x5, x6] (w :: st) h) := (mw_at mj_377_17).trans (z_iload_n rfl)
theorem mj_377_18 : mc_P 377 18 = some (.invokevirtual 503, 3, 372, 14, 3) := by decide +kernel
theorem s_377_18 {x0 x1 x2 x3 x4 x5 x6 : Option Value} {o : Nat} {a1 a2 : Value} : mw (d + 1) 377 Q 18 [x0, x1, x2, x3, x4, x5, x6] (a2 :: a1 :: .ref o :: st) h = (mg h o 14 ∧ mca st 8 ∧ mca [.ref o, a1, a2] 3 ∧ mcall d 372 [.ref o, a1, a2] h (mK (d + 1) 377 Q 21 [x0, x1, x2, x3, x4, x5, x6] st)) := (mw_at mj_377_18).trans ((z_invv (As := [a1, a2]) (by decide) rfl rfl).trans (congrArg (And _) (congrArg (And _) (mC_nl nl_372))))
theorem mj_377_21 : mc_P 377 21 = some (.getfield 419, 3, 13, 0, 0) := by decide +kernel
theorem s_377_21 {x0 x1 x2 x3 x4 x5 x6 : Option Value} {o : Nat} : mw d 377 Q 21 [x0, x1, x2, x3, x4, x5, x6] (.ref o :: st) h = (mg h o 13 ∧ mw d 377 Q 24 [x0, x1, x2, x3, x4, x5, x6] (.int (mh_i h o 0) :: st) h) := (mw_at mj_377_21).trans (z_geti (by decide) (by decide) (Or.inr rfl))
theorem mj_377_24 : mc_P 377 24 = some (.ifCond .eq 7, 3, 0, 0, 0) := by decide +kernel
theorem s_377_24 {x0 x1 x2 x3 x4 x5 x6 : Option Value} {x : Int32} : mw d 377 Q 24 [x0, x1, x2, x3, x4, x5, x6] (.int x :: st) h = mB (x = 0) (mw d 377 Q) 31 27 [x0, x1, x2, x3, x4, x5, x6] st h := (mw_at mj_377_24).trans (z_if_eq (by decide) rfl)
theorem mj_377_27 : mc_P 377 27 = some (.ldc2_w 506, 3, 0, 0, (-1099511627776)) := by decide +kernel
theorem s_377_27 {x0 x1 x2 x3 x4 x5 x6 : Option Value} : mw d 377 Q 27 [x0, x1, x2, x3, x4, x5, x6] (st) h = mw d 377 Q 30 [x0, x1, x2, x3, x4, x5, x6] (.long (-1099511627776) :: st) h := (mw_at mj_377_27).trans (z_ldc2 (by decide))
theorem mj_377_30 : mc_P 377 30 = some (.lreturn, 1, 0, 0, 0) := by decide +kernel
theorem s_377_30 {x0 x1 x2 x3 x4 x5 x6 : Option Value} {x : Int64} : mw d 377 Q 30 [x0, x1, x2, x3, x4, x5, x6] ([.long x]) h = Q (some (.long x)) h := (mw_at mj_377_30).trans (z_lret)
theorem mj_377_31 : mc_P 377 31 = some (.aload_n 0, 1, 0, 0, 0) := by decide +kernel
theorem s_377_31 {x1 x2 x3 x4 x5 x6 : Option Value} {w : Value} : mw d 377 Q 31 [some w, x1, x2, x3, x4, x5, x6] (st) h = mv_a w (mw d 377 Q 32 [some w, x1, x2, x3, x4, x5, x6] (w :: st) h) := (mw_at mj_377_31).trans (z_aload_n rfl)
theorem mj_377_32 : mc_P 377 32 = some (.iload_n 1, 1, 0, 0, 0) := by decide +kernel
theorem s_377_32 {x0 x2 x3 x4 x5 x6 : Option Value} {w : Value} : mw d 377 Q 32 [x0, some w, x2, x3, x4, x5, x6] (st) h = mv_i w (mw d 377 Q 33 [x0, some w, x2, x3, x4, x5, x6] (w :: st) h) := (mw_at mj_377_32).trans (z_iload_n rfl)
theorem mj_377_33 : mc_P 377 33 = some (.iload_n 2, 1, 0, 0, 0) := by decide +kernel
theorem s_377_33 {x0 x1 x3 x4 x5 x6 : Option Value} {w : Value} : mw d 377 Q 33 [x0, x1, some w, x3, x4, x5, x6] (st) h = mv_i w (mw d 377 Q 34 [x0, x1, some w, x3, x4, x5, x6] (w :: st) h) := (mw_at mj_377_33).trans (z_iload_n rfl)
theorem mj_377_34 : mc_P 377 34 = some (.invokevirtual 503, 3, 372, 14, 3) := by decide +kernel
theorem s_377_34 {x0 x1 x2 x3 x4 x5 x6 : Option Value} {o : Nat} {a1 a2 : Value} : mw (d + 1) 377 Q 34 [x0, x1, x2, x3, x4, x5, x6] (a2 :: a1 :: .ref o :: st) h = (mg h o 14 ∧ mca st 8 ∧ mca [.ref o, a1, a2] 3 ∧ mcall d 372 [.ref o, a1, a2] h (mK (d + 1) 377 Q 37 [x0, x1, x2, x3, x4, x5, x6] st)) := (mw_at mj_377_34).trans ((z_invv (As := [a1, a2]) (by decide) rfl rfl).trans (congrArg (And _) (congrArg (And _) (mC_nl nl_372))))
theorem mj_377_37 : mc_P 377 37 = some (.iload_n 3, 1, 0, 0, 0) := by decide +kernel
theorem s_377_37 {x0 x1 x2 x4 x5 x6 : Option Value} {w : Value} : mw d 377 Q 37 [x0, x1, x2, some w, x4, x5, x6] (st) h = mv_i w (mw d 377 Q 38 [x0, x1, x2, some w, x4, x5, x6] (w :: st) h) := (mw_at mj_377_37).trans (z_iload_n rfl)
theorem mj_377_38 : mc_P 377 38 = some (.iload 4, 2, 0, 0, 0) := by decide +kernel
theorem s_377_38 {x0 x1 x2 x3 x5 x6 : Option Value} {w : Value} : mw d 377 Q 38 [x0, x1, x2, x3, some w, x5, x6] (st) h = mv_i w (mw d 377 Q 40 [x0, x1, x2, x3, some w, x5, x6] (w :: st) h) := (mw_at mj_377_38).trans (z_iload rfl)
theorem mj_377_40 : mc_P 377 40 = some (.invokestatic 508, 3, 376, 0, 2) := by decide +kernel
theorem s_377_40 {x0 x1 x2 x3 x4 x5 x6 : Option Value} {a0 a1 : Value} : mw (d + 1) 377 Q 40 [x0, x1, x2, x3, x4, x5, x6] (a1 :: a0 :: st) h = (mca st 8 ∧ mca [a0, a1] 2 ∧ mcall d 376 [a0, a1] h (mK (d + 1) 377 Q 43 [x0, x1, x2, x3, x4, x5, x6] st)) := (mw_at mj_377_40).trans ((z_invs (As := [a0, a1]) rfl rfl).trans (congrArg (And _) (mC_nl nl_376)))
theorem mj_377_43 : mc_P 377 43 = some (.iload 5, 2, 0, 0, 0) := by decide +kernel
theorem s_377_43 {x0 x1 x2 x3 x4 x6 : Option Value} {w : Value} : mw d 377 Q 43 [x0, x1, x2, x3, x4, some w, x6] (st) h = mv_i w (mw d 377 Q 45 [x0, x1, x2, x3, x4, some w, x6] (w :: st) h) := (mw_at mj_377_43).trans (z_iload rfl)
theorem mj_377_45 : mc_P 377 45 = some (.iload 6, 2, 0, 0, 0) := by decide +kernel
theorem s_377_45 {x0 x1 x2 x3 x4 x5 : Option Value} {w : Value} : mw d 377 Q 45 [x0, x1, x2, x3, x4, x5, some w] (st) h = mv_i w (mw d 377 Q 47 [x0, x1, x2, x3, x4, x5, some w] (w :: st) h) := (mw_at mj_377_45).trans (z_iload rfl)
theorem mj_377_47 : mc_P 377 47 = some (.invokestatic 508, 3, 376, 0, 2) := by decide +kernel
theorem s_377_47 {x0 x1 x2 x3 x4 x5 x6 : Option Value} {a0 a1 : Value} : mw (d + 1) 377 Q 47 [x0, x1, x2, x3, x4, x5, x6] (a1 :: a0 :: st) h = (mca st 8 ∧ mca [a0, a1] 2 ∧ mcall d 376 [a0, a1] h (mK (d + 1) 377 Q 50 [x0, x1, x2, x3, x4, x5, x6] st)) := (mw_at mj_377_47).trans ((z_invs (As := [a0, a1]) rfl rfl).trans (congrArg (And _) (mC_nl nl_376)))
theorem mj_377_50 : mc_P 377 50 = some (.invokevirtual 511, 3, 282, 13, 3) := by decide +kernel
theorem s_377_50 {x0 x1 x2 x3 x4 x5 x6 : Option Value} {o : Nat} {a1 a2 : Value} : mw (d + 1) 377 Q 50 [x0, x1, x2, x3, x4, x5, x6] (a2 :: a1 :: .ref o :: st) h = (mg h o 13 ∧ mca st 8 ∧ mca [.ref o, a1, a2] 5 ∧ mcall d 282 [.ref o, a1, a2] h (mK (d + 1) 377 Q 53 [x0, x1, x2, x3, x4, x5, x6] st)) := (mw_at mj_377_50).trans ((z_invv (As := [a1, a2]) (by decide) rfl rfl).trans (congrArg (And _) (congrArg (And _) (mC_nl nl_282))))
theorem mj_377_53 : mc_P 377 53 = some (.lreturn, 1, 0, 0, 0) := by decide +kernel
theorem s_377_53 {x0 x1 x2 x3 x4 x5 x6 : Option Value} {x : Int64} : mw d 377 Q 53 [x0, x1, x2, x3, x4, x5, x6] ([.long x]) h = Q (some (.long x)) h := (mw_at mj_377_53).trans (z_lret)
theorem e_377 {a0 : Nat} {a1 : Int32} {a2 : Int32} {a3 : Int32} {a4 : Int32} {a5 : Int32} {a6 : Int32} : mcall d 377 [.ref a0, .int a1, .int a2, .int a3, .int a4, .int a5, .int a6] h Q = mw d 377 Q 0 [some (.ref a0), some (.int a1), some (.int a2), some (.int a3), some (.int a4), some (.int a5), some (.int a6)] [] h := by
  show mw d 377 Q 0 (me_en (mc_nl 377) _) [] h = _
  rw [nl_377]; rfl

/-! InvariantDeskModel.range(ZIIZ)J -/
theorem mj_378_0 : mc_P 378 0 = some (.aload_n 0, 1, 0, 0, 0) := by decide +kernel
theorem s_378_0 {x1 x2 x3 x4 : Option Value} {w : Value} : mw d 378 Q 0 [some w, x1, x2, x3, x4] (st) h = mv_a w (mw d 378 Q 1 [some w, x1, x2, x3, x4] (w :: st) h) := (mw_at mj_378_0).trans (z_aload_n rfl)
theorem mj_378_1 : mc_P 378 1 = some (.iload_n 2, 1, 0, 0, 0) := by decide +kernel
theorem s_378_1 {x0 x1 x3 x4 : Option Value} {w : Value} : mw d 378 Q 1 [x0, x1, some w, x3, x4] (st) h = mv_i w (mw d 378 Q 2 [x0, x1, some w, x3, x4] (w :: st) h) := (mw_at mj_378_1).trans (z_iload_n rfl)
theorem mj_378_2 : mc_P 378 2 = some (.invokevirtual 493, 3, 373, 14, 2) := by decide +kernel
theorem s_378_2 {x0 x1 x2 x3 x4 : Option Value} {o : Nat} {a1 : Value} : mw (d + 1) 378 Q 2 [x0, x1, x2, x3, x4] (a1 :: .ref o :: st) h = (mg h o 14 ∧ mca st 8 ∧ mca [.ref o, a1] 2 ∧ mcall d 373 [.ref o, a1] h (mK (d + 1) 378 Q 5 [x0, x1, x2, x3, x4] st)) := (mw_at mj_378_2).trans ((z_invv (As := [a1]) (by decide) rfl rfl).trans (congrArg (And _) (congrArg (And _) (mC_nl nl_373))))
theorem mj_378_5 : mc_P 378 5 = some (.ifCond .eq 29, 3, 0, 0, 0) := by decide +kernel
theorem s_378_5 {x0 x1 x2 x3 x4 : Option Value} {x : Int32} : mw d 378 Q 5 [x0, x1, x2, x3, x4] (.int x :: st) h = mB (x = 0) (mw d 378 Q) 34 8 [x0, x1, x2, x3, x4] st h := (mw_at mj_378_5).trans (z_if_eq (by decide) rfl)
theorem mj_378_8 : mc_P 378 8 = some (.iload_n 3, 1, 0, 0, 0) := by decide +kernel
theorem s_378_8 {x0 x1 x2 x4 : Option Value} {w : Value} : mw d 378 Q 8 [x0, x1, x2, some w, x4] (st) h = mv_i w (mw d 378 Q 9 [x0, x1, x2, some w, x4] (w :: st) h) := (mw_at mj_378_8).trans (z_iload_n rfl)
theorem mj_378_9 : mc_P 378 9 = some (.ifCond .lt 25, 3, 0, 0, 0) := by decide +kernel
theorem s_378_9 {x0 x1 x2 x3 x4 : Option Value} {x : Int32} : mw d 378 Q 9 [x0, x1, x2, x3, x4] (.int x :: st) h = mB (x < 0) (mw d 378 Q) 34 12 [x0, x1, x2, x3, x4] st h := (mw_at mj_378_9).trans (z_if_lt (by decide) rfl)
theorem mj_378_12 : mc_P 378 12 = some (.iload_n 3, 1, 0, 0, 0) := by decide +kernel
theorem s_378_12 {x0 x1 x2 x4 : Option Value} {w : Value} : mw d 378 Q 12 [x0, x1, x2, some w, x4] (st) h = mv_i w (mw d 378 Q 13 [x0, x1, x2, some w, x4] (w :: st) h) := (mw_at mj_378_12).trans (z_iload_n rfl)
theorem mj_378_13 : mc_P 378 13 = some (.aload_n 0, 1, 0, 0, 0) := by decide +kernel
theorem s_378_13 {x1 x2 x3 x4 : Option Value} {w : Value} : mw d 378 Q 13 [some w, x1, x2, x3, x4] (st) h = mv_a w (mw d 378 Q 14 [some w, x1, x2, x3, x4] (w :: st) h) := (mw_at mj_378_13).trans (z_aload_n rfl)
theorem mj_378_14 : mc_P 378 14 = some (.getfield 82, 3, 14, 32, 0) := by decide +kernel
theorem s_378_14 {x0 x1 x2 x3 x4 : Option Value} {o : Nat} : mw d 378 Q 14 [x0, x1, x2, x3, x4] (.ref o :: st) h = (mg h o 14 ∧ mw d 378 Q 17 [x0, x1, x2, x3, x4] (va_rf (mh_r h o 32) :: st) h) := (mw_at mj_378_14).trans (z_getr (by decide) (by decide) rfl)
theorem mj_378_17 : mc_P 378 17 = some (.iload_n 2, 1, 0, 0, 0) := by decide +kernel
theorem s_378_17 {x0 x1 x3 x4 : Option Value} {w : Value} : mw d 378 Q 17 [x0, x1, some w, x3, x4] (st) h = mv_i w (mw d 378 Q 18 [x0, x1, some w, x3, x4] (w :: st) h) := (mw_at mj_378_17).trans (z_iload_n rfl)
theorem mj_378_18 : mc_P 378 18 = some (.iaload, 1, 0, 0, 0) := by decide +kernel
theorem s_378_18 {x0 x1 x2 x3 x4 : Option Value} {o : Nat} {i : Int32} : mw d 378 Q 18 [x0, x1, x2, x3, x4] (.int i :: .ref o :: st) h = (mg h o 100 ∧ mx i (mh_l h o) ∧ mw d 378 Q 19 [x0, x1, x2, x3, x4] (.int (mh_i h o i.toNatClampNeg) :: st) h) := (mw_at mj_378_18).trans (z_iald)
theorem mj_378_19 : mc_P 378 19 = some (.if_icmp .ge 15, 3, 0, 0, 0) := by decide +kernel
theorem s_378_19 {x0 x1 x2 x3 x4 : Option Value} {x w : Int32} : mw d 378 Q 19 [x0, x1, x2, x3, x4] (.int w :: .int x :: st) h = mB (w ≤ x) (mw d 378 Q) 34 22 [x0, x1, x2, x3, x4] st h := (mw_at mj_378_19).trans (z_icmp_ge (by decide) rfl)
theorem mj_378_22 : mc_P 378 22 = some (.aload_n 0, 1, 0, 0, 0) := by decide +kernel
theorem s_378_22 {x1 x2 x3 x4 : Option Value} {w : Value} : mw d 378 Q 22 [some w, x1, x2, x3, x4] (st) h = mv_a w (mw d 378 Q 23 [some w, x1, x2, x3, x4] (w :: st) h) := (mw_at mj_378_22).trans (z_aload_n rfl)
theorem mj_378_23 : mc_P 378 23 = some (.iload_n 1, 1, 0, 0, 0) := by decide +kernel
theorem s_378_23 {x0 x2 x3 x4 : Option Value} {w : Value} : mw d 378 Q 23 [x0, some w, x2, x3, x4] (st) h = mv_i w (mw d 378 Q 24 [x0, some w, x2, x3, x4] (w :: st) h) := (mw_at mj_378_23).trans (z_iload_n rfl)
theorem mj_378_24 : mc_P 378 24 = some (.iload_n 2, 1, 0, 0, 0) := by decide +kernel
theorem s_378_24 {x0 x1 x3 x4 : Option Value} {w : Value} : mw d 378 Q 24 [x0, x1, some w, x3, x4] (st) h = mv_i w (mw d 378 Q 25 [x0, x1, some w, x3, x4] (w :: st) h) := (mw_at mj_378_24).trans (z_iload_n rfl)
theorem mj_378_25 : mc_P 378 25 = some (.invokevirtual 503, 3, 372, 14, 3) := by decide +kernel
theorem s_378_25 {x0 x1 x2 x3 x4 : Option Value} {o : Nat} {a1 a2 : Value} : mw (d + 1) 378 Q 25 [x0, x1, x2, x3, x4] (a2 :: a1 :: .ref o :: st) h = (mg h o 14 ∧ mca st 8 ∧ mca [.ref o, a1, a2] 3 ∧ mcall d 372 [.ref o, a1, a2] h (mK (d + 1) 378 Q 28 [x0, x1, x2, x3, x4] st)) := (mw_at mj_378_25).trans ((z_invv (As := [a1, a2]) (by decide) rfl rfl).trans (congrArg (And _) (congrArg (And _) (mC_nl nl_372))))
theorem mj_378_28 : mc_P 378 28 = some (.getfield 419, 3, 13, 0, 0) := by decide +kernel
theorem s_378_28 {x0 x1 x2 x3 x4 : Option Value} {o : Nat} : mw d 378 Q 28 [x0, x1, x2, x3, x4] (.ref o :: st) h = (mg h o 13 ∧ mw d 378 Q 31 [x0, x1, x2, x3, x4] (.int (mh_i h o 0) :: st) h) := (mw_at mj_378_28).trans (z_geti (by decide) (by decide) (Or.inr rfl))
theorem mj_378_31 : mc_P 378 31 = some (.ifCond .eq 7, 3, 0, 0, 0) := by decide +kernel
theorem s_378_31 {x0 x1 x2 x3 x4 : Option Value} {x : Int32} : mw d 378 Q 31 [x0, x1, x2, x3, x4] (.int x :: st) h = mB (x = 0) (mw d 378 Q) 38 34 [x0, x1, x2, x3, x4] st h := (mw_at mj_378_31).trans (z_if_eq (by decide) rfl)
theorem mj_378_34 : mc_P 378 34 = some (.ldc2_w 506, 3, 0, 0, (-1099511627776)) := by decide +kernel
theorem s_378_34 {x0 x1 x2 x3 x4 : Option Value} : mw d 378 Q 34 [x0, x1, x2, x3, x4] (st) h = mw d 378 Q 37 [x0, x1, x2, x3, x4] (.long (-1099511627776) :: st) h := (mw_at mj_378_34).trans (z_ldc2 (by decide))
theorem mj_378_37 : mc_P 378 37 = some (.lreturn, 1, 0, 0, 0) := by decide +kernel
theorem s_378_37 {x0 x1 x2 x3 x4 : Option Value} {x : Int64} : mw d 378 Q 37 [x0, x1, x2, x3, x4] ([.long x]) h = Q (some (.long x)) h := (mw_at mj_378_37).trans (z_lret)
theorem mj_378_38 : mc_P 378 38 = some (.iload 4, 2, 0, 0, 0) := by decide +kernel
theorem s_378_38 {x0 x1 x2 x3 : Option Value} {w : Value} : mw d 378 Q 38 [x0, x1, x2, x3, some w] (st) h = mv_i w (mw d 378 Q 40 [x0, x1, x2, x3, some w] (w :: st) h) := (mw_at mj_378_38).trans (z_iload rfl)
theorem mj_378_40 : mc_P 378 40 = some (.ifCond .eq 17, 3, 0, 0, 0) := by decide +kernel
theorem s_378_40 {x0 x1 x2 x3 x4 : Option Value} {x : Int32} : mw d 378 Q 40 [x0, x1, x2, x3, x4] (.int x :: st) h = mB (x = 0) (mw d 378 Q) 57 43 [x0, x1, x2, x3, x4] st h := (mw_at mj_378_40).trans (z_if_eq (by decide) rfl)
theorem mj_378_43 : mc_P 378 43 = some (.aload_n 0, 1, 0, 0, 0) := by decide +kernel
theorem s_378_43 {x1 x2 x3 x4 : Option Value} {w : Value} : mw d 378 Q 43 [some w, x1, x2, x3, x4] (st) h = mv_a w (mw d 378 Q 44 [some w, x1, x2, x3, x4] (w :: st) h) := (mw_at mj_378_43).trans (z_aload_n rfl)
theorem mj_378_44 : mc_P 378 44 = some (.iload_n 1, 1, 0, 0, 0) := by decide +kernel
theorem s_378_44 {x0 x2 x3 x4 : Option Value} {w : Value} : mw d 378 Q 44 [x0, some w, x2, x3, x4] (st) h = mv_i w (mw d 378 Q 45 [x0, some w, x2, x3, x4] (w :: st) h) := (mw_at mj_378_44).trans (z_iload_n rfl)
theorem mj_378_45 : mc_P 378 45 = some (.iload_n 2, 1, 0, 0, 0) := by decide +kernel
theorem s_378_45 {x0 x1 x3 x4 : Option Value} {w : Value} : mw d 378 Q 45 [x0, x1, some w, x3, x4] (st) h = mv_i w (mw d 378 Q 46 [x0, x1, some w, x3, x4] (w :: st) h) := (mw_at mj_378_45).trans (z_iload_n rfl)
theorem mj_378_46 : mc_P 378 46 = some (.invokevirtual 503, 3, 372, 14, 3) := by decide +kernel
theorem s_378_46 {x0 x1 x2 x3 x4 : Option Value} {o : Nat} {a1 a2 : Value} : mw (d + 1) 378 Q 46 [x0, x1, x2, x3, x4] (a2 :: a1 :: .ref o :: st) h = (mg h o 14 ∧ mca st 8 ∧ mca [.ref o, a1, a2] 3 ∧ mcall d 372 [.ref o, a1, a2] h (mK (d + 1) 378 Q 49 [x0, x1, x2, x3, x4] st)) := (mw_at mj_378_46).trans ((z_invv (As := [a1, a2]) (by decide) rfl rfl).trans (congrArg (And _) (congrArg (And _) (mC_nl nl_372))))
theorem mj_378_49 : mc_P 378 49 = some (.getfield 515, 3, 13, 5, 0) := by decide +kernel
theorem s_378_49 {x0 x1 x2 x3 x4 : Option Value} {o : Nat} : mw d 378 Q 49 [x0, x1, x2, x3, x4] (.ref o :: st) h = (mg h o 13 ∧ mw d 378 Q 52 [x0, x1, x2, x3, x4] (va_rf (mh_r h o 5) :: st) h) := (mw_at mj_378_49).trans (z_getr (by decide) (by decide) rfl)
theorem mj_378_52 : mc_P 378 52 = some (.iload_n 3, 1, 0, 0, 0) := by decide +kernel
theorem s_378_52 {x0 x1 x2 x4 : Option Value} {w : Value} : mw d 378 Q 52 [x0, x1, x2, some w, x4] (st) h = mv_i w (mw d 378 Q 53 [x0, x1, x2, some w, x4] (w :: st) h) := (mw_at mj_378_52).trans (z_iload_n rfl)
theorem mj_378_53 : mc_P 378 53 = some (.laload, 1, 0, 0, 0) := by decide +kernel
theorem s_378_53 {x0 x1 x2 x3 x4 : Option Value} {o : Nat} {i : Int32} : mw d 378 Q 53 [x0, x1, x2, x3, x4] (.int i :: .ref o :: st) h = (mg h o 101 ∧ mx i (mh_l h o) ∧ mw d 378 Q 54 [x0, x1, x2, x3, x4] (.long (mh_j h o i.toNatClampNeg) :: st) h) := (mw_at mj_378_53).trans (z_lald)
theorem mj_378_54 : mc_P 378 54 = some (.goto 14, 3, 0, 0, 0) := by decide +kernel
theorem s_378_54 {x0 x1 x2 x3 x4 : Option Value} : mw d 378 Q 54 [x0, x1, x2, x3, x4] (st) h = mw d 378 Q 68 [x0, x1, x2, x3, x4] (st) h := (mw_at mj_378_54).trans (z_goto (by decide))
theorem mj_378_57 : mc_P 378 57 = some (.aload_n 0, 1, 0, 0, 0) := by decide +kernel
theorem s_378_57 {x1 x2 x3 x4 : Option Value} {w : Value} : mw d 378 Q 57 [some w, x1, x2, x3, x4] (st) h = mv_a w (mw d 378 Q 58 [some w, x1, x2, x3, x4] (w :: st) h) := (mw_at mj_378_57).trans (z_aload_n rfl)
theorem mj_378_58 : mc_P 378 58 = some (.iload_n 1, 1, 0, 0, 0) := by decide +kernel
theorem s_378_58 {x0 x2 x3 x4 : Option Value} {w : Value} : mw d 378 Q 58 [x0, some w, x2, x3, x4] (st) h = mv_i w (mw d 378 Q 59 [x0, some w, x2, x3, x4] (w :: st) h) := (mw_at mj_378_58).trans (z_iload_n rfl)
theorem mj_378_59 : mc_P 378 59 = some (.iload_n 2, 1, 0, 0, 0) := by decide +kernel
theorem s_378_59 {x0 x1 x3 x4 : Option Value} {w : Value} : mw d 378 Q 59 [x0, x1, some w, x3, x4] (st) h = mv_i w (mw d 378 Q 60 [x0, x1, some w, x3, x4] (w :: st) h) := (mw_at mj_378_59).trans (z_iload_n rfl)
theorem mj_378_60 : mc_P 378 60 = some (.invokevirtual 503, 3, 372, 14, 3) := by decide +kernel
theorem s_378_60 {x0 x1 x2 x3 x4 : Option Value} {o : Nat} {a1 a2 : Value} : mw (d + 1) 378 Q 60 [x0, x1, x2, x3, x4] (a2 :: a1 :: .ref o :: st) h = (mg h o 14 ∧ mca st 8 ∧ mca [.ref o, a1, a2] 3 ∧ mcall d 372 [.ref o, a1, a2] h (mK (d + 1) 378 Q 63 [x0, x1, x2, x3, x4] st)) := (mw_at mj_378_60).trans ((z_invv (As := [a1, a2]) (by decide) rfl rfl).trans (congrArg (And _) (congrArg (And _) (mC_nl nl_372))))
theorem mj_378_63 : mc_P 378 63 = some (.getfield 518, 3, 13, 4, 0) := by decide +kernel
theorem s_378_63 {x0 x1 x2 x3 x4 : Option Value} {o : Nat} : mw d 378 Q 63 [x0, x1, x2, x3, x4] (.ref o :: st) h = (mg h o 13 ∧ mw d 378 Q 66 [x0, x1, x2, x3, x4] (va_rf (mh_r h o 4) :: st) h) := (mw_at mj_378_63).trans (z_getr (by decide) (by decide) rfl)
theorem mj_378_66 : mc_P 378 66 = some (.iload_n 3, 1, 0, 0, 0) := by decide +kernel
theorem s_378_66 {x0 x1 x2 x4 : Option Value} {w : Value} : mw d 378 Q 66 [x0, x1, x2, some w, x4] (st) h = mv_i w (mw d 378 Q 67 [x0, x1, x2, some w, x4] (w :: st) h) := (mw_at mj_378_66).trans (z_iload_n rfl)
theorem mj_378_67 : mc_P 378 67 = some (.laload, 1, 0, 0, 0) := by decide +kernel
theorem s_378_67 {x0 x1 x2 x3 x4 : Option Value} {o : Nat} {i : Int32} : mw d 378 Q 67 [x0, x1, x2, x3, x4] (.int i :: .ref o :: st) h = (mg h o 101 ∧ mx i (mh_l h o) ∧ mw d 378 Q 68 [x0, x1, x2, x3, x4] (.long (mh_j h o i.toNatClampNeg) :: st) h) := (mw_at mj_378_67).trans (z_lald)
theorem mj_378_68 : mc_P 378 68 = some (.lreturn, 1, 0, 0, 0) := by decide +kernel
theorem s_378_68 {x0 x1 x2 x3 x4 : Option Value} {x : Int64} : mw d 378 Q 68 [x0, x1, x2, x3, x4] ([.long x]) h = Q (some (.long x)) h := (mw_at mj_378_68).trans (z_lret)
theorem e_378 {a0 : Nat} {a1 : Int32} {a2 : Int32} {a3 : Int32} {a4 : Int32} : mcall d 378 [.ref a0, .int a1, .int a2, .int a3, .int a4] h Q = mw d 378 Q 0 [some (.ref a0), some (.int a1), some (.int a2), some (.int a3), some (.int a4)] [] h := by
  show mw d 378 Q 0 (me_en (mc_nl 378) _) [] h = _
  rw [nl_378]; rfl

/-! InvariantDeskModel.claim(IIIIIJ)I -/
theorem mj_379_0 : mc_P 379 0 = some (.aload_n 0, 1, 0, 0, 0) := by decide +kernel
theorem s_379_0 {x1 x2 x3 x4 x5 x6 x7 x8 : Option Value} {w : Value} : mw d 379 Q 0 [some w, x1, x2, x3, x4, x5, x6, x7, x8] (st) h = mv_a w (mw d 379 Q 1 [some w, x1, x2, x3, x4, x5, x6, x7, x8] (w :: st) h) := (mw_at mj_379_0).trans (z_aload_n rfl)
theorem mj_379_1 : mc_P 379 1 = some (.iload_n 1, 1, 0, 0, 0) := by decide +kernel
theorem s_379_1 {x0 x2 x3 x4 x5 x6 x7 x8 : Option Value} {w : Value} : mw d 379 Q 1 [x0, some w, x2, x3, x4, x5, x6, x7, x8] (st) h = mv_i w (mw d 379 Q 2 [x0, some w, x2, x3, x4, x5, x6, x7, x8] (w :: st) h) := (mw_at mj_379_1).trans (z_iload_n rfl)
theorem mj_379_2 : mc_P 379 2 = some (.iload_n 2, 1, 0, 0, 0) := by decide +kernel
theorem s_379_2 {x0 x1 x3 x4 x5 x6 x7 x8 : Option Value} {w : Value} : mw d 379 Q 2 [x0, x1, some w, x3, x4, x5, x6, x7, x8] (st) h = mv_i w (mw d 379 Q 3 [x0, x1, some w, x3, x4, x5, x6, x7, x8] (w :: st) h) := (mw_at mj_379_2).trans (z_iload_n rfl)
theorem mj_379_3 : mc_P 379 3 = some (.iload_n 3, 1, 0, 0, 0) := by decide +kernel
theorem s_379_3 {x0 x1 x2 x4 x5 x6 x7 x8 : Option Value} {w : Value} : mw d 379 Q 3 [x0, x1, x2, some w, x4, x5, x6, x7, x8] (st) h = mv_i w (mw d 379 Q 4 [x0, x1, x2, some w, x4, x5, x6, x7, x8] (w :: st) h) := (mw_at mj_379_3).trans (z_iload_n rfl)
theorem mj_379_4 : mc_P 379 4 = some (.iload 4, 2, 0, 0, 0) := by decide +kernel
theorem s_379_4 {x0 x1 x2 x3 x5 x6 x7 x8 : Option Value} {w : Value} : mw d 379 Q 4 [x0, x1, x2, x3, some w, x5, x6, x7, x8] (st) h = mv_i w (mw d 379 Q 6 [x0, x1, x2, x3, some w, x5, x6, x7, x8] (w :: st) h) := (mw_at mj_379_4).trans (z_iload rfl)
theorem mj_379_6 : mc_P 379 6 = some (.iload 5, 2, 0, 0, 0) := by decide +kernel
theorem s_379_6 {x0 x1 x2 x3 x4 x6 x7 x8 : Option Value} {w : Value} : mw d 379 Q 6 [x0, x1, x2, x3, x4, some w, x6, x7, x8] (st) h = mv_i w (mw d 379 Q 8 [x0, x1, x2, x3, x4, some w, x6, x7, x8] (w :: st) h) := (mw_at mj_379_6).trans (z_iload rfl)
theorem mj_379_8 : mc_P 379 8 = some (.invokevirtual 499, 3, 375, 14, 6) := by decide +kernel
theorem s_379_8 {x0 x1 x2 x3 x4 x5 x6 x7 x8 : Option Value} {o : Nat} {a1 a2 a3 a4 a5 : Value} : mw (d + 1) 379 Q 8 [x0, x1, x2, x3, x4, x5, x6, x7, x8] (a5 :: a4 :: a3 :: a2 :: a1 :: .ref o :: st) h = (mg h o 14 ∧ mca st 8 ∧ mca [.ref o, a1, a2, a3, a4, a5] 6 ∧ mcall d 375 [.ref o, a1, a2, a3, a4, a5] h (mK (d + 1) 379 Q 11 [x0, x1, x2, x3, x4, x5, x6, x7, x8] st)) := (mw_at mj_379_8).trans ((z_invv (As := [a1, a2, a3, a4, a5]) (by decide) rfl rfl).trans (congrArg (And _) (congrArg (And _) (mC_nl nl_375))))
theorem mj_379_11 : mc_P 379 11 = some (.ifCond .ne 5, 3, 0, 0, 0) := by decide +kernel
theorem s_379_11 {x0 x1 x2 x3 x4 x5 x6 x7 x8 : Option Value} {x : Int32} : mw d 379 Q 11 [x0, x1, x2, x3, x4, x5, x6, x7, x8] (.int x :: st) h = mB (¬ x = 0) (mw d 379 Q) 16 14 [x0, x1, x2, x3, x4, x5, x6, x7, x8] st h := (mw_at mj_379_11).trans (z_if_ne (by decide) rfl)
theorem mj_379_14 : mc_P 379 14 = some (.iconst (-1), 1, 0, 0, 0) := by decide +kernel
theorem s_379_14 {x0 x1 x2 x3 x4 x5 x6 x7 x8 : Option Value} : mw d 379 Q 14 [x0, x1, x2, x3, x4, x5, x6, x7, x8] (st) h = mw d 379 Q 15 [x0, x1, x2, x3, x4, x5, x6, x7, x8] (.int (-1) :: st) h := (mw_at mj_379_14).trans (z_iconst (by decide))
theorem mj_379_15 : mc_P 379 15 = some (.ireturn, 1, 0, 0, 0) := by decide +kernel
theorem s_379_15 {x0 x1 x2 x3 x4 x5 x6 x7 x8 : Option Value} {x : Int32} : mw d 379 Q 15 [x0, x1, x2, x3, x4, x5, x6, x7, x8] ([.int x]) h = (Q (some (.int x)) h) := (mw_at mj_379_15).trans (z_iret)
theorem mj_379_16 : mc_P 379 16 = some (.aload_n 0, 1, 0, 0, 0) := by decide +kernel
theorem s_379_16 {x1 x2 x3 x4 x5 x6 x7 x8 : Option Value} {w : Value} : mw d 379 Q 16 [some w, x1, x2, x3, x4, x5, x6, x7, x8] (st) h = mv_a w (mw d 379 Q 17 [some w, x1, x2, x3, x4, x5, x6, x7, x8] (w :: st) h) := (mw_at mj_379_16).trans (z_aload_n rfl)
theorem mj_379_17 : mc_P 379 17 = some (.getfield 121, 3, 14, 52, 0) := by decide +kernel
theorem s_379_17 {x0 x1 x2 x3 x4 x5 x6 x7 x8 : Option Value} {o : Nat} : mw d 379 Q 17 [x0, x1, x2, x3, x4, x5, x6, x7, x8] (.ref o :: st) h = (mg h o 14 ∧ mw d 379 Q 20 [x0, x1, x2, x3, x4, x5, x6, x7, x8] (va_rf (mh_r h o 52) :: st) h) := (mw_at mj_379_17).trans (z_getr (by decide) (by decide) rfl)
theorem mj_379_20 : mc_P 379 20 = some (.getfield 416, 3, 12, 5, 0) := by decide +kernel
theorem s_379_20 {x0 x1 x2 x3 x4 x5 x6 x7 x8 : Option Value} {o : Nat} : mw d 379 Q 20 [x0, x1, x2, x3, x4, x5, x6, x7, x8] (.ref o :: st) h = (mg h o 12 ∧ mw d 379 Q 23 [x0, x1, x2, x3, x4, x5, x6, x7, x8] (va_rf (mh_r h o 5) :: st) h) := (mw_at mj_379_20).trans (z_getr (by decide) (by decide) rfl)
theorem mj_379_23 : mc_P 379 23 = some (.iload_n 1, 1, 0, 0, 0) := by decide +kernel
theorem s_379_23 {x0 x2 x3 x4 x5 x6 x7 x8 : Option Value} {w : Value} : mw d 379 Q 23 [x0, some w, x2, x3, x4, x5, x6, x7, x8] (st) h = mv_i w (mw d 379 Q 24 [x0, some w, x2, x3, x4, x5, x6, x7, x8] (w :: st) h) := (mw_at mj_379_23).trans (z_iload_n rfl)
theorem mj_379_24 : mc_P 379 24 = some (.aaload, 1, 0, 0, 0) := by decide +kernel
theorem s_379_24 {x0 x1 x2 x3 x4 x5 x6 x7 x8 : Option Value} {o : Nat} {i : Int32} : mw d 379 Q 24 [x0, x1, x2, x3, x4, x5, x6, x7, x8] (.int i :: .ref o :: st) h = (mgr h o ∧ mx i (mh_l h o) ∧ mw d 379 Q 25 [x0, x1, x2, x3, x4, x5, x6, x7, x8] (mrd (mh_k h o) h o i.toNatClampNeg :: st) h) := (mw_at mj_379_24).trans (z_aald)
theorem mj_379_25 : mc_P 379 25 = some (.astore 8, 2, 0, 0, 0) := by decide +kernel
theorem s_379_25 {x0 x1 x2 x3 x4 x5 x6 x7 x8 : Option Value} {w : Nat} : mw d 379 Q 25 [x0, x1, x2, x3, x4, x5, x6, x7, x8] (.ref w :: st) h = mw d 379 Q 27 [x0, x1, x2, x3, x4, x5, x6, mk2 x7, some (.ref w)] (st) h := (mw_at mj_379_25).trans (z_astore (Nat.le_of_ble_eq_true rfl) (me_s1_mk (j := 7) (w := x7) rfl))
theorem s_379_25n {x0 x1 x2 x3 x4 x5 x6 x7 x8 : Option Value} : mw d 379 Q 25 [x0, x1, x2, x3, x4, x5, x6, x7, x8] (.null :: st) h = mw d 379 Q 27 [x0, x1, x2, x3, x4, x5, x6, mk2 x7, some (.null)] (st) h := (mw_at mj_379_25).trans (z_astoreN (Nat.le_of_ble_eq_true rfl) (me_s1_mk (j := 7) (w := x7) rfl))
theorem s_379_25x {x0 x1 x2 x3 x4 x5 x6 x7 x8 : Option Value} {w : Nat} : mw d 379 Q 25 [x0, x1, x2, x3, x4, x5, x6, x7, x8] (.retAddr w :: st) h = mw d 379 Q 27 [x0, x1, x2, x3, x4, x5, x6, mk2 x7, some (.retAddr w)] (st) h := (mw_at mj_379_25).trans (z_astoreX (Nat.le_of_ble_eq_true rfl) (me_s1_mk (j := 7) (w := x7) rfl))
theorem mj_379_27 : mc_P 379 27 = some (.aload 8, 2, 0, 0, 0) := by decide +kernel
theorem s_379_27 {x0 x1 x2 x3 x4 x5 x6 x7 : Option Value} {w : Value} : mw d 379 Q 27 [x0, x1, x2, x3, x4, x5, x6, x7, some w] (st) h = mv_a w (mw d 379 Q 29 [x0, x1, x2, x3, x4, x5, x6, x7, some w] (w :: st) h) := (mw_at mj_379_27).trans (z_aload rfl)
theorem mj_379_29 : mc_P 379 29 = some (.getfield 419, 3, 13, 0, 0) := by decide +kernel
theorem s_379_29 {x0 x1 x2 x3 x4 x5 x6 x7 x8 : Option Value} {o : Nat} : mw d 379 Q 29 [x0, x1, x2, x3, x4, x5, x6, x7, x8] (.ref o :: st) h = (mg h o 13 ∧ mw d 379 Q 32 [x0, x1, x2, x3, x4, x5, x6, x7, x8] (.int (mh_i h o 0) :: st) h) := (mw_at mj_379_29).trans (z_geti (by decide) (by decide) (Or.inr rfl))
theorem mj_379_32 : mc_P 379 32 = some (.ifCond .eq 5, 3, 0, 0, 0) := by decide +kernel
theorem s_379_32 {x0 x1 x2 x3 x4 x5 x6 x7 x8 : Option Value} {x : Int32} : mw d 379 Q 32 [x0, x1, x2, x3, x4, x5, x6, x7, x8] (.int x :: st) h = mB (x = 0) (mw d 379 Q) 37 35 [x0, x1, x2, x3, x4, x5, x6, x7, x8] st h := (mw_at mj_379_32).trans (z_if_eq (by decide) rfl)
theorem mj_379_35 : mc_P 379 35 = some (.iconst 0, 1, 0, 0, 0) := by decide +kernel
theorem s_379_35 {x0 x1 x2 x3 x4 x5 x6 x7 x8 : Option Value} : mw d 379 Q 35 [x0, x1, x2, x3, x4, x5, x6, x7, x8] (st) h = mw d 379 Q 36 [x0, x1, x2, x3, x4, x5, x6, x7, x8] (.int 0 :: st) h := (mw_at mj_379_35).trans (z_iconst (by decide))
theorem mj_379_36 : mc_P 379 36 = some (.ireturn, 1, 0, 0, 0) := by decide +kernel
theorem s_379_36 {x0 x1 x2 x3 x4 x5 x6 x7 x8 : Option Value} {x : Int32} : mw d 379 Q 36 [x0, x1, x2, x3, x4, x5, x6, x7, x8] ([.int x]) h = (Q (some (.int x)) h) := (mw_at mj_379_36).trans (z_iret)
theorem mj_379_37 : mc_P 379 37 = some (.aload_n 0, 1, 0, 0, 0) := by decide +kernel
theorem s_379_37 {x1 x2 x3 x4 x5 x6 x7 x8 : Option Value} {w : Value} : mw d 379 Q 37 [some w, x1, x2, x3, x4, x5, x6, x7, x8] (st) h = mv_a w (mw d 379 Q 38 [some w, x1, x2, x3, x4, x5, x6, x7, x8] (w :: st) h) := (mw_at mj_379_37).trans (z_aload_n rfl)
theorem mj_379_38 : mc_P 379 38 = some (.getfield 128, 3, 14, 53, 0) := by decide +kernel
theorem s_379_38 {x0 x1 x2 x3 x4 x5 x6 x7 x8 : Option Value} {o : Nat} : mw d 379 Q 38 [x0, x1, x2, x3, x4, x5, x6, x7, x8] (.ref o :: st) h = (mg h o 14 ∧ mw d 379 Q 41 [x0, x1, x2, x3, x4, x5, x6, x7, x8] (va_rf (mh_r h o 53) :: st) h) := (mw_at mj_379_38).trans (z_getr (by decide) (by decide) rfl)
theorem mj_379_41 : mc_P 379 41 = some (.aload 8, 2, 0, 0, 0) := by decide +kernel
theorem s_379_41 {x0 x1 x2 x3 x4 x5 x6 x7 : Option Value} {w : Value} : mw d 379 Q 41 [x0, x1, x2, x3, x4, x5, x6, x7, some w] (st) h = mv_a w (mw d 379 Q 43 [x0, x1, x2, x3, x4, x5, x6, x7, some w] (w :: st) h) := (mw_at mj_379_41).trans (z_aload rfl)
theorem mj_379_43 : mc_P 379 43 = some (.invokevirtual 521, 3, 281, 13, 2) := by decide +kernel
theorem s_379_43 {x0 x1 x2 x3 x4 x5 x6 x7 x8 : Option Value} {o : Nat} {a1 : Value} : mw (d + 1) 379 Q 43 [x0, x1, x2, x3, x4, x5, x6, x7, x8] (a1 :: .ref o :: st) h = (mg h o 13 ∧ mca st 8 ∧ mca [.ref o, a1] 2 ∧ mcall d 281 [.ref o, a1] h (mK (d + 1) 379 Q 46 [x0, x1, x2, x3, x4, x5, x6, x7, x8] st)) := (mw_at mj_379_43).trans ((z_invv (As := [a1]) (by decide) rfl rfl).trans (congrArg (And _) (congrArg (And _) (mC_nl nl_281))))
theorem mj_379_46 : mc_P 379 46 = some (.aload 8, 2, 0, 0, 0) := by decide +kernel
theorem s_379_46 {x0 x1 x2 x3 x4 x5 x6 x7 : Option Value} {w : Value} : mw d 379 Q 46 [x0, x1, x2, x3, x4, x5, x6, x7, some w] (st) h = mv_a w (mw d 379 Q 48 [x0, x1, x2, x3, x4, x5, x6, x7, some w] (w :: st) h) := (mw_at mj_379_46).trans (z_aload rfl)
theorem mj_379_48 : mc_P 379 48 = some (.iload_n 2, 1, 0, 0, 0) := by decide +kernel
theorem s_379_48 {x0 x1 x3 x4 x5 x6 x7 x8 : Option Value} {w : Value} : mw d 379 Q 48 [x0, x1, some w, x3, x4, x5, x6, x7, x8] (st) h = mv_i w (mw d 379 Q 49 [x0, x1, some w, x3, x4, x5, x6, x7, x8] (w :: st) h) := (mw_at mj_379_48).trans (z_iload_n rfl)
theorem mj_379_49 : mc_P 379 49 = some (.iload_n 3, 1, 0, 0, 0) := by decide +kernel
theorem s_379_49 {x0 x1 x2 x4 x5 x6 x7 x8 : Option Value} {w : Value} : mw d 379 Q 49 [x0, x1, x2, some w, x4, x5, x6, x7, x8] (st) h = mv_i w (mw d 379 Q 50 [x0, x1, x2, some w, x4, x5, x6, x7, x8] (w :: st) h) := (mw_at mj_379_49).trans (z_iload_n rfl)
theorem mj_379_50 : mc_P 379 50 = some (.invokestatic 508, 3, 376, 0, 2) := by decide +kernel
theorem s_379_50 {x0 x1 x2 x3 x4 x5 x6 x7 x8 : Option Value} {a0 a1 : Value} : mw (d + 1) 379 Q 50 [x0, x1, x2, x3, x4, x5, x6, x7, x8] (a1 :: a0 :: st) h = (mca st 8 ∧ mca [a0, a1] 2 ∧ mcall d 376 [a0, a1] h (mK (d + 1) 379 Q 53 [x0, x1, x2, x3, x4, x5, x6, x7, x8] st)) := (mw_at mj_379_50).trans ((z_invs (As := [a0, a1]) rfl rfl).trans (congrArg (And _) (mC_nl nl_376)))
theorem mj_379_53 : mc_P 379 53 = some (.iload 4, 2, 0, 0, 0) := by decide +kernel
theorem s_379_53 {x0 x1 x2 x3 x5 x6 x7 x8 : Option Value} {w : Value} : mw d 379 Q 53 [x0, x1, x2, x3, some w, x5, x6, x7, x8] (st) h = mv_i w (mw d 379 Q 55 [x0, x1, x2, x3, some w, x5, x6, x7, x8] (w :: st) h) := (mw_at mj_379_53).trans (z_iload rfl)
theorem mj_379_55 : mc_P 379 55 = some (.iload 5, 2, 0, 0, 0) := by decide +kernel
theorem s_379_55 {x0 x1 x2 x3 x4 x6 x7 x8 : Option Value} {w : Value} : mw d 379 Q 55 [x0, x1, x2, x3, x4, some w, x6, x7, x8] (st) h = mv_i w (mw d 379 Q 57 [x0, x1, x2, x3, x4, some w, x6, x7, x8] (w :: st) h) := (mw_at mj_379_55).trans (z_iload rfl)
theorem mj_379_57 : mc_P 379 57 = some (.invokestatic 508, 3, 376, 0, 2) := by decide +kernel
theorem s_379_57 {x0 x1 x2 x3 x4 x5 x6 x7 x8 : Option Value} {a0 a1 : Value} : mw (d + 1) 379 Q 57 [x0, x1, x2, x3, x4, x5, x6, x7, x8] (a1 :: a0 :: st) h = (mca st 8 ∧ mca [a0, a1] 2 ∧ mcall d 376 [a0, a1] h (mK (d + 1) 379 Q 60 [x0, x1, x2, x3, x4, x5, x6, x7, x8] st)) := (mw_at mj_379_57).trans ((z_invs (As := [a0, a1]) rfl rfl).trans (congrArg (And _) (mC_nl nl_376)))
theorem mj_379_60 : mc_P 379 60 = some (.ldc2_w 506, 3, 0, 0, (-1099511627776)) := by decide +kernel
theorem s_379_60 {x0 x1 x2 x3 x4 x5 x6 x7 x8 : Option Value} : mw d 379 Q 60 [x0, x1, x2, x3, x4, x5, x6, x7, x8] (st) h = mw d 379 Q 63 [x0, x1, x2, x3, x4, x5, x6, x7, x8] (.long (-1099511627776) :: st) h := (mw_at mj_379_60).trans (z_ldc2 (by decide))
theorem mj_379_63 : mc_P 379 63 = some (.ldc2_w 525, 3, 0, 0, 1099511627776) := by decide +kernel
theorem s_379_63 {x0 x1 x2 x3 x4 x5 x6 x7 x8 : Option Value} : mw d 379 Q 63 [x0, x1, x2, x3, x4, x5, x6, x7, x8] (st) h = mw d 379 Q 66 [x0, x1, x2, x3, x4, x5, x6, x7, x8] (.long 1099511627776 :: st) h := (mw_at mj_379_63).trans (z_ldc2 (by decide))
theorem mj_379_66 : mc_P 379 66 = some (.lload 6, 2, 0, 0, 0) := by decide +kernel
theorem s_379_66 {x0 x1 x2 x3 x4 x5 x7 x8 : Option Value} {w : Value} : mw d 379 Q 66 [x0, x1, x2, x3, x4, x5, some w, x7, x8] (st) h = mv_l w (mw d 379 Q 68 [x0, x1, x2, x3, x4, x5, some w, x7, x8] (w :: st) h) := (mw_at mj_379_66).trans (z_lload rfl)
theorem mj_379_68 : mc_P 379 68 = some (.invokestatic 527, 3, 0, 22, 0) := by decide +kernel
theorem s_379_68 {x0 x1 x2 x3 x4 x5 x6 x7 x8 : Option Value} {x w : Int64} : mw d 379 Q 68 [x0, x1, x2, x3, x4, x5, x6, x7, x8] (.long w :: .long x :: st) h = (mca st 8 ∧ mw d 379 Q 71 [x0, x1, x2, x3, x4, x5, x6, x7, x8] (.long (if w < x then w else x) :: st) h) := (mw_at mj_379_68).trans (z_lmin)
theorem mj_379_71 : mc_P 379 71 = some (.invokestatic 530, 3, 0, 23, 0) := by decide +kernel
theorem s_379_71 {x0 x1 x2 x3 x4 x5 x6 x7 x8 : Option Value} {x w : Int64} : mw d 379 Q 71 [x0, x1, x2, x3, x4, x5, x6, x7, x8] (.long w :: .long x :: st) h = (mca st 8 ∧ mw d 379 Q 74 [x0, x1, x2, x3, x4, x5, x6, x7, x8] (.long (if w < x then x else w) :: st) h) := (mw_at mj_379_71).trans (z_lmax)
theorem mj_379_74 : mc_P 379 74 = some (.invokevirtual 533, 3, 285, 13, 4) := by decide +kernel
theorem s_379_74 {x0 x1 x2 x3 x4 x5 x6 x7 x8 : Option Value} {o : Nat} {a1 a2 a3 : Value} : mw (d + 1) 379 Q 74 [x0, x1, x2, x3, x4, x5, x6, x7, x8] (a3 :: a2 :: a1 :: .ref o :: st) h = (mg h o 13 ∧ mca st 8 ∧ mca [.ref o, a1, a2, a3] 7 ∧ mcall d 285 [.ref o, a1, a2, a3] h (mK (d + 1) 379 Q 77 [x0, x1, x2, x3, x4, x5, x6, x7, x8] st)) := (mw_at mj_379_74).trans ((z_invv (As := [a1, a2, a3]) (by decide) rfl rfl).trans (congrArg (And _) (congrArg (And _) (mC_nl nl_285))))
theorem mj_379_77 : mc_P 379 77 = some (.aload 8, 2, 0, 0, 0) := by decide +kernel
theorem s_379_77 {x0 x1 x2 x3 x4 x5 x6 x7 : Option Value} {w : Value} : mw d 379 Q 77 [x0, x1, x2, x3, x4, x5, x6, x7, some w] (st) h = mv_a w (mw d 379 Q 79 [x0, x1, x2, x3, x4, x5, x6, x7, some w] (w :: st) h) := (mw_at mj_379_77).trans (z_aload rfl)
theorem mj_379_79 : mc_P 379 79 = some (.invokevirtual 537, 3, 286, 13, 1) := by decide +kernel
theorem s_379_79 {x0 x1 x2 x3 x4 x5 x6 x7 x8 : Option Value} {o : Nat} : mw (d + 1) 379 Q 79 [x0, x1, x2, x3, x4, x5, x6, x7, x8] (.ref o :: st) h = (mg h o 13 ∧ mca st 8 ∧ mca [.ref o] 8 ∧ mcall d 286 [.ref o] h (mK (d + 1) 379 Q 82 [x0, x1, x2, x3, x4, x5, x6, x7, x8] st)) := (mw_at mj_379_79).trans ((z_invv (As := []) (by decide) rfl rfl).trans (congrArg (And _) (congrArg (And _) (mC_nl nl_286))))
theorem mj_379_82 : mc_P 379 82 = some (.aload_n 0, 1, 0, 0, 0) := by decide +kernel
theorem s_379_82 {x1 x2 x3 x4 x5 x6 x7 x8 : Option Value} {w : Value} : mw d 379 Q 82 [some w, x1, x2, x3, x4, x5, x6, x7, x8] (st) h = mv_a w (mw d 379 Q 83 [some w, x1, x2, x3, x4, x5, x6, x7, x8] (w :: st) h) := (mw_at mj_379_82).trans (z_aload_n rfl)
theorem mj_379_83 : mc_P 379 83 = some (.getfield 128, 3, 14, 53, 0) := by decide +kernel
theorem s_379_83 {x0 x1 x2 x3 x4 x5 x6 x7 x8 : Option Value} {o : Nat} : mw d 379 Q 83 [x0, x1, x2, x3, x4, x5, x6, x7, x8] (.ref o :: st) h = (mg h o 14 ∧ mw d 379 Q 86 [x0, x1, x2, x3, x4, x5, x6, x7, x8] (va_rf (mh_r h o 53) :: st) h) := (mw_at mj_379_83).trans (z_getr (by decide) (by decide) rfl)
theorem mj_379_86 : mc_P 379 86 = some (.aload 8, 2, 0, 0, 0) := by decide +kernel
theorem s_379_86 {x0 x1 x2 x3 x4 x5 x6 x7 : Option Value} {w : Value} : mw d 379 Q 86 [x0, x1, x2, x3, x4, x5, x6, x7, some w] (st) h = mv_a w (mw d 379 Q 88 [x0, x1, x2, x3, x4, x5, x6, x7, some w] (w :: st) h) := (mw_at mj_379_86).trans (z_aload rfl)
theorem mj_379_88 : mc_P 379 88 = some (.invokevirtual 540, 3, 294, 13, 2) := by decide +kernel
theorem s_379_88 {x0 x1 x2 x3 x4 x5 x6 x7 x8 : Option Value} {o : Nat} {a1 : Value} : mw (d + 1) 379 Q 88 [x0, x1, x2, x3, x4, x5, x6, x7, x8] (a1 :: .ref o :: st) h = (mg h o 13 ∧ mca st 8 ∧ mca [.ref o, a1] 5 ∧ mcall d 294 [.ref o, a1] h (mK (d + 1) 379 Q 91 [x0, x1, x2, x3, x4, x5, x6, x7, x8] st)) := (mw_at mj_379_88).trans ((z_invv (As := [a1]) (by decide) rfl rfl).trans (congrArg (And _) (congrArg (And _) (mC_nl nl_294))))
theorem mj_379_91 : mc_P 379 91 = some (.ifCond .eq 7, 3, 0, 0, 0) := by decide +kernel
theorem s_379_91 {x0 x1 x2 x3 x4 x5 x6 x7 x8 : Option Value} {x : Int32} : mw d 379 Q 91 [x0, x1, x2, x3, x4, x5, x6, x7, x8] (.int x :: st) h = mB (x = 0) (mw d 379 Q) 98 94 [x0, x1, x2, x3, x4, x5, x6, x7, x8] st h := (mw_at mj_379_91).trans (z_if_eq (by decide) rfl)
theorem mj_379_94 : mc_P 379 94 = some (.iconst 0, 1, 0, 0, 0) := by decide +kernel
theorem s_379_94 {x0 x1 x2 x3 x4 x5 x6 x7 x8 : Option Value} : mw d 379 Q 94 [x0, x1, x2, x3, x4, x5, x6, x7, x8] (st) h = mw d 379 Q 95 [x0, x1, x2, x3, x4, x5, x6, x7, x8] (.int 0 :: st) h := (mw_at mj_379_94).trans (z_iconst (by decide))
theorem mj_379_95 : mc_P 379 95 = some (.goto 4, 3, 0, 0, 0) := by decide +kernel
theorem s_379_95 {x0 x1 x2 x3 x4 x5 x6 x7 x8 : Option Value} : mw d 379 Q 95 [x0, x1, x2, x3, x4, x5, x6, x7, x8] (st) h = mw d 379 Q 99 [x0, x1, x2, x3, x4, x5, x6, x7, x8] (st) h := (mw_at mj_379_95).trans (z_goto (by decide))
theorem mj_379_98 : mc_P 379 98 = some (.iconst 1, 1, 0, 0, 0) := by decide +kernel
theorem s_379_98 {x0 x1 x2 x3 x4 x5 x6 x7 x8 : Option Value} : mw d 379 Q 98 [x0, x1, x2, x3, x4, x5, x6, x7, x8] (st) h = mw d 379 Q 99 [x0, x1, x2, x3, x4, x5, x6, x7, x8] (.int 1 :: st) h := (mw_at mj_379_98).trans (z_iconst (by decide))
theorem mj_379_99 : mc_P 379 99 = some (.ireturn, 1, 0, 0, 0) := by decide +kernel
theorem s_379_99 {x0 x1 x2 x3 x4 x5 x6 x7 x8 : Option Value} {x : Int32} : mw d 379 Q 99 [x0, x1, x2, x3, x4, x5, x6, x7, x8] ([.int x]) h = (Q (some (.int x)) h) := (mw_at mj_379_99).trans (z_iret)
theorem e_379 {a0 : Nat} {a1 : Int32} {a2 : Int32} {a3 : Int32} {a4 : Int32} {a5 : Int32} {a6 : Int64} : mcall d 379 [.ref a0, .int a1, .int a2, .int a3, .int a4, .int a5, .long a6] h Q = mw d 379 Q 0 [some (.ref a0), some (.int a1), some (.int a2), some (.int a3), some (.int a4), some (.int a5), some (.long a6), none, none] [] h := by
  show mw d 379 Q 0 (me_en (mc_nl 379) _) [] h = _
  rw [nl_379]; rfl

/-! InvariantDeskModel.claimRange(IIZI)I -/
theorem mj_380_0 : mc_P 380 0 = some (.aload_n 0, 1, 0, 0, 0) := by decide +kernel
theorem s_380_0 {x1 x2 x3 x4 x5 : Option Value} {w : Value} : mw d 380 Q 0 [some w, x1, x2, x3, x4, x5] (st) h = mv_a w (mw d 380 Q 1 [some w, x1, x2, x3, x4, x5] (w :: st) h) := (mw_at mj_380_0).trans (z_aload_n rfl)
theorem mj_380_1 : mc_P 380 1 = some (.iload_n 1, 1, 0, 0, 0) := by decide +kernel
theorem s_380_1 {x0 x2 x3 x4 x5 : Option Value} {w : Value} : mw d 380 Q 1 [x0, some w, x2, x3, x4, x5] (st) h = mv_i w (mw d 380 Q 2 [x0, some w, x2, x3, x4, x5] (w :: st) h) := (mw_at mj_380_1).trans (z_iload_n rfl)
theorem mj_380_2 : mc_P 380 2 = some (.invokevirtual 493, 3, 373, 14, 2) := by decide +kernel
theorem s_380_2 {x0 x1 x2 x3 x4 x5 : Option Value} {o : Nat} {a1 : Value} : mw (d + 1) 380 Q 2 [x0, x1, x2, x3, x4, x5] (a1 :: .ref o :: st) h = (mg h o 14 ∧ mca st 8 ∧ mca [.ref o, a1] 2 ∧ mcall d 373 [.ref o, a1] h (mK (d + 1) 380 Q 5 [x0, x1, x2, x3, x4, x5] st)) := (mw_at mj_380_2).trans ((z_invv (As := [a1]) (by decide) rfl rfl).trans (congrArg (And _) (congrArg (And _) (mC_nl nl_373))))
theorem mj_380_5 : mc_P 380 5 = some (.ifCond .eq 17, 3, 0, 0, 0) := by decide +kernel
theorem s_380_5 {x0 x1 x2 x3 x4 x5 : Option Value} {x : Int32} : mw d 380 Q 5 [x0, x1, x2, x3, x4, x5] (.int x :: st) h = mB (x = 0) (mw d 380 Q) 22 8 [x0, x1, x2, x3, x4, x5] st h := (mw_at mj_380_5).trans (z_if_eq (by decide) rfl)
theorem mj_380_8 : mc_P 380 8 = some (.iload_n 2, 1, 0, 0, 0) := by decide +kernel
theorem s_380_8 {x0 x1 x3 x4 x5 : Option Value} {w : Value} : mw d 380 Q 8 [x0, x1, some w, x3, x4, x5] (st) h = mv_i w (mw d 380 Q 9 [x0, x1, some w, x3, x4, x5] (w :: st) h) := (mw_at mj_380_8).trans (z_iload_n rfl)
theorem mj_380_9 : mc_P 380 9 = some (.ifCond .lt 13, 3, 0, 0, 0) := by decide +kernel
theorem s_380_9 {x0 x1 x2 x3 x4 x5 : Option Value} {x : Int32} : mw d 380 Q 9 [x0, x1, x2, x3, x4, x5] (.int x :: st) h = mB (x < 0) (mw d 380 Q) 22 12 [x0, x1, x2, x3, x4, x5] st h := (mw_at mj_380_9).trans (z_if_lt (by decide) rfl)
theorem mj_380_12 : mc_P 380 12 = some (.iload_n 2, 1, 0, 0, 0) := by decide +kernel
theorem s_380_12 {x0 x1 x3 x4 x5 : Option Value} {w : Value} : mw d 380 Q 12 [x0, x1, some w, x3, x4, x5] (st) h = mv_i w (mw d 380 Q 13 [x0, x1, some w, x3, x4, x5] (w :: st) h) := (mw_at mj_380_12).trans (z_iload_n rfl)
theorem mj_380_13 : mc_P 380 13 = some (.aload_n 0, 1, 0, 0, 0) := by decide +kernel
theorem s_380_13 {x1 x2 x3 x4 x5 : Option Value} {w : Value} : mw d 380 Q 13 [some w, x1, x2, x3, x4, x5] (st) h = mv_a w (mw d 380 Q 14 [some w, x1, x2, x3, x4, x5] (w :: st) h) := (mw_at mj_380_13).trans (z_aload_n rfl)
theorem mj_380_14 : mc_P 380 14 = some (.getfield 82, 3, 14, 32, 0) := by decide +kernel
theorem s_380_14 {x0 x1 x2 x3 x4 x5 : Option Value} {o : Nat} : mw d 380 Q 14 [x0, x1, x2, x3, x4, x5] (.ref o :: st) h = (mg h o 14 ∧ mw d 380 Q 17 [x0, x1, x2, x3, x4, x5] (va_rf (mh_r h o 32) :: st) h) := (mw_at mj_380_14).trans (z_getr (by decide) (by decide) rfl)
theorem mj_380_17 : mc_P 380 17 = some (.iload_n 1, 1, 0, 0, 0) := by decide +kernel
theorem s_380_17 {x0 x2 x3 x4 x5 : Option Value} {w : Value} : mw d 380 Q 17 [x0, some w, x2, x3, x4, x5] (st) h = mv_i w (mw d 380 Q 18 [x0, some w, x2, x3, x4, x5] (w :: st) h) := (mw_at mj_380_17).trans (z_iload_n rfl)
theorem mj_380_18 : mc_P 380 18 = some (.iaload, 1, 0, 0, 0) := by decide +kernel
theorem s_380_18 {x0 x1 x2 x3 x4 x5 : Option Value} {o : Nat} {i : Int32} : mw d 380 Q 18 [x0, x1, x2, x3, x4, x5] (.int i :: .ref o :: st) h = (mg h o 100 ∧ mx i (mh_l h o) ∧ mw d 380 Q 19 [x0, x1, x2, x3, x4, x5] (.int (mh_i h o i.toNatClampNeg) :: st) h) := (mw_at mj_380_18).trans (z_iald)
theorem s_380_18x {x0 x1 x2 x3 x4 x5 : Option Value} {i : Int32} : mw d 380 Q 18 [x0, x1, x2, x3, x4, x5] (.int i :: .retAddr 2 :: st) h = (mx i 24 ∧ mw d 380 Q 19 [x0, x1, x2, x3, x4, x5] (.int (mx_row.getD i.toNatClampNeg 0) :: st) h) := (mw_at mj_380_18).trans (z_iaX)
theorem mj_380_19 : mc_P 380 19 = some (.if_icmp .lt 5, 3, 0, 0, 0) := by decide +kernel
theorem s_380_19 {x0 x1 x2 x3 x4 x5 : Option Value} {x w : Int32} : mw d 380 Q 19 [x0, x1, x2, x3, x4, x5] (.int w :: .int x :: st) h = mB (x < w) (mw d 380 Q) 24 22 [x0, x1, x2, x3, x4, x5] st h := (mw_at mj_380_19).trans (z_icmp_lt (by decide) rfl)
theorem mj_380_22 : mc_P 380 22 = some (.iconst (-1), 1, 0, 0, 0) := by decide +kernel
theorem s_380_22 {x0 x1 x2 x3 x4 x5 : Option Value} : mw d 380 Q 22 [x0, x1, x2, x3, x4, x5] (st) h = mw d 380 Q 23 [x0, x1, x2, x3, x4, x5] (.int (-1) :: st) h := (mw_at mj_380_22).trans (z_iconst (by decide))
theorem mj_380_23 : mc_P 380 23 = some (.ireturn, 1, 0, 0, 0) := by decide +kernel
theorem s_380_23 {x0 x1 x2 x3 x4 x5 : Option Value} {x : Int32} : mw d 380 Q 23 [x0, x1, x2, x3, x4, x5] ([.int x]) h = (Q (some (.int x)) h) := (mw_at mj_380_23).trans (z_iret)
theorem mj_380_24 : mc_P 380 24 = some (.aload_n 0, 1, 0, 0, 0) := by decide +kernel
theorem s_380_24 {x1 x2 x3 x4 x5 : Option Value} {w : Value} : mw d 380 Q 24 [some w, x1, x2, x3, x4, x5] (st) h = mv_a w (mw d 380 Q 25 [some w, x1, x2, x3, x4, x5] (w :: st) h) := (mw_at mj_380_24).trans (z_aload_n rfl)
theorem mj_380_25 : mc_P 380 25 = some (.getfield 121, 3, 14, 52, 0) := by decide +kernel
theorem s_380_25 {x0 x1 x2 x3 x4 x5 : Option Value} {o : Nat} : mw d 380 Q 25 [x0, x1, x2, x3, x4, x5] (.ref o :: st) h = (mg h o 14 ∧ mw d 380 Q 28 [x0, x1, x2, x3, x4, x5] (va_rf (mh_r h o 52) :: st) h) := (mw_at mj_380_25).trans (z_getr (by decide) (by decide) rfl)
theorem mj_380_28 : mc_P 380 28 = some (.getfield 416, 3, 12, 5, 0) := by decide +kernel
theorem s_380_28 {x0 x1 x2 x3 x4 x5 : Option Value} {o : Nat} : mw d 380 Q 28 [x0, x1, x2, x3, x4, x5] (.ref o :: st) h = (mg h o 12 ∧ mw d 380 Q 31 [x0, x1, x2, x3, x4, x5] (va_rf (mh_r h o 5) :: st) h) := (mw_at mj_380_28).trans (z_getr (by decide) (by decide) rfl)
theorem mj_380_31 : mc_P 380 31 = some (.iload_n 1, 1, 0, 0, 0) := by decide +kernel
theorem s_380_31 {x0 x2 x3 x4 x5 : Option Value} {w : Value} : mw d 380 Q 31 [x0, some w, x2, x3, x4, x5] (st) h = mv_i w (mw d 380 Q 32 [x0, some w, x2, x3, x4, x5] (w :: st) h) := (mw_at mj_380_31).trans (z_iload_n rfl)
theorem mj_380_32 : mc_P 380 32 = some (.aaload, 1, 0, 0, 0) := by decide +kernel
theorem s_380_32 {x0 x1 x2 x3 x4 x5 : Option Value} {o : Nat} {i : Int32} : mw d 380 Q 32 [x0, x1, x2, x3, x4, x5] (.int i :: .ref o :: st) h = (mgr h o ∧ mx i (mh_l h o) ∧ mw d 380 Q 33 [x0, x1, x2, x3, x4, x5] (mrd (mh_k h o) h o i.toNatClampNeg :: st) h) := (mw_at mj_380_32).trans (z_aald)
theorem mj_380_33 : mc_P 380 33 = some (.astore 5, 2, 0, 0, 0) := by decide +kernel
theorem s_380_33 {x0 x1 x2 x3 x4 x5 : Option Value} {w : Nat} : mw d 380 Q 33 [x0, x1, x2, x3, x4, x5] (.ref w :: st) h = mw d 380 Q 35 [x0, x1, x2, x3, mk2 x4, some (.ref w)] (st) h := (mw_at mj_380_33).trans (z_astore (Nat.le_of_ble_eq_true rfl) (me_s1_mk (j := 4) (w := x4) rfl))
theorem s_380_33n {x0 x1 x2 x3 x4 x5 : Option Value} : mw d 380 Q 33 [x0, x1, x2, x3, x4, x5] (.null :: st) h = mw d 380 Q 35 [x0, x1, x2, x3, mk2 x4, some (.null)] (st) h := (mw_at mj_380_33).trans (z_astoreN (Nat.le_of_ble_eq_true rfl) (me_s1_mk (j := 4) (w := x4) rfl))
theorem s_380_33x {x0 x1 x2 x3 x4 x5 : Option Value} {w : Nat} : mw d 380 Q 33 [x0, x1, x2, x3, x4, x5] (.retAddr w :: st) h = mw d 380 Q 35 [x0, x1, x2, x3, mk2 x4, some (.retAddr w)] (st) h := (mw_at mj_380_33).trans (z_astoreX (Nat.le_of_ble_eq_true rfl) (me_s1_mk (j := 4) (w := x4) rfl))
theorem mj_380_35 : mc_P 380 35 = some (.aload 5, 2, 0, 0, 0) := by decide +kernel
theorem s_380_35 {x0 x1 x2 x3 x4 : Option Value} {w : Value} : mw d 380 Q 35 [x0, x1, x2, x3, x4, some w] (st) h = mv_a w (mw d 380 Q 37 [x0, x1, x2, x3, x4, some w] (w :: st) h) := (mw_at mj_380_35).trans (z_aload rfl)
theorem mj_380_37 : mc_P 380 37 = some (.getfield 419, 3, 13, 0, 0) := by decide +kernel
theorem s_380_37 {x0 x1 x2 x3 x4 x5 : Option Value} {o : Nat} : mw d 380 Q 37 [x0, x1, x2, x3, x4, x5] (.ref o :: st) h = (mg h o 13 ∧ mw d 380 Q 40 [x0, x1, x2, x3, x4, x5] (.int (mh_i h o 0) :: st) h) := (mw_at mj_380_37).trans (z_geti (by decide) (by decide) (Or.inr rfl))
theorem mj_380_40 : mc_P 380 40 = some (.ifCond .eq 5, 3, 0, 0, 0) := by decide +kernel
theorem s_380_40 {x0 x1 x2 x3 x4 x5 : Option Value} {x : Int32} : mw d 380 Q 40 [x0, x1, x2, x3, x4, x5] (.int x :: st) h = mB (x = 0) (mw d 380 Q) 45 43 [x0, x1, x2, x3, x4, x5] st h := (mw_at mj_380_40).trans (z_if_eq (by decide) rfl)
theorem mj_380_43 : mc_P 380 43 = some (.iconst 0, 1, 0, 0, 0) := by decide +kernel
theorem s_380_43 {x0 x1 x2 x3 x4 x5 : Option Value} : mw d 380 Q 43 [x0, x1, x2, x3, x4, x5] (st) h = mw d 380 Q 44 [x0, x1, x2, x3, x4, x5] (.int 0 :: st) h := (mw_at mj_380_43).trans (z_iconst (by decide))
theorem mj_380_44 : mc_P 380 44 = some (.ireturn, 1, 0, 0, 0) := by decide +kernel
theorem s_380_44 {x0 x1 x2 x3 x4 x5 : Option Value} {x : Int32} : mw d 380 Q 44 [x0, x1, x2, x3, x4, x5] ([.int x]) h = (Q (some (.int x)) h) := (mw_at mj_380_44).trans (z_iret)
theorem mj_380_45 : mc_P 380 45 = some (.aload_n 0, 1, 0, 0, 0) := by decide +kernel
theorem s_380_45 {x1 x2 x3 x4 x5 : Option Value} {w : Value} : mw d 380 Q 45 [some w, x1, x2, x3, x4, x5] (st) h = mv_a w (mw d 380 Q 46 [some w, x1, x2, x3, x4, x5] (w :: st) h) := (mw_at mj_380_45).trans (z_aload_n rfl)
theorem mj_380_46 : mc_P 380 46 = some (.getfield 128, 3, 14, 53, 0) := by decide +kernel
theorem s_380_46 {x0 x1 x2 x3 x4 x5 : Option Value} {o : Nat} : mw d 380 Q 46 [x0, x1, x2, x3, x4, x5] (.ref o :: st) h = (mg h o 14 ∧ mw d 380 Q 49 [x0, x1, x2, x3, x4, x5] (va_rf (mh_r h o 53) :: st) h) := (mw_at mj_380_46).trans (z_getr (by decide) (by decide) rfl)
theorem mj_380_49 : mc_P 380 49 = some (.aload 5, 2, 0, 0, 0) := by decide +kernel
theorem s_380_49 {x0 x1 x2 x3 x4 : Option Value} {w : Value} : mw d 380 Q 49 [x0, x1, x2, x3, x4, some w] (st) h = mv_a w (mw d 380 Q 51 [x0, x1, x2, x3, x4, some w] (w :: st) h) := (mw_at mj_380_49).trans (z_aload rfl)
theorem mj_380_51 : mc_P 380 51 = some (.invokevirtual 521, 3, 281, 13, 2) := by decide +kernel
theorem s_380_51 {x0 x1 x2 x3 x4 x5 : Option Value} {o : Nat} {a1 : Value} : mw (d + 1) 380 Q 51 [x0, x1, x2, x3, x4, x5] (a1 :: .ref o :: st) h = (mg h o 13 ∧ mca st 8 ∧ mca [.ref o, a1] 2 ∧ mcall d 281 [.ref o, a1] h (mK (d + 1) 380 Q 54 [x0, x1, x2, x3, x4, x5] st)) := (mw_at mj_380_51).trans ((z_invv (As := [a1]) (by decide) rfl rfl).trans (congrArg (And _) (congrArg (And _) (mC_nl nl_281))))
theorem mj_380_54 : mc_P 380 54 = some (.iload_n 3, 1, 0, 0, 0) := by decide +kernel
theorem s_380_54 {x0 x1 x2 x4 x5 : Option Value} {w : Value} : mw d 380 Q 54 [x0, x1, x2, some w, x4, x5] (st) h = mv_i w (mw d 380 Q 55 [x0, x1, x2, some w, x4, x5] (w :: st) h) := (mw_at mj_380_54).trans (z_iload_n rfl)
theorem mj_380_55 : mc_P 380 55 = some (.ifCond .eq 26, 3, 0, 0, 0) := by decide +kernel
theorem s_380_55 {x0 x1 x2 x3 x4 x5 : Option Value} {x : Int32} : mw d 380 Q 55 [x0, x1, x2, x3, x4, x5] (.int x :: st) h = mB (x = 0) (mw d 380 Q) 81 58 [x0, x1, x2, x3, x4, x5] st h := (mw_at mj_380_55).trans (z_if_eq (by decide) rfl)
theorem mj_380_58 : mc_P 380 58 = some (.aload 5, 2, 0, 0, 0) := by decide +kernel
theorem s_380_58 {x0 x1 x2 x3 x4 : Option Value} {w : Value} : mw d 380 Q 58 [x0, x1, x2, x3, x4, some w] (st) h = mv_a w (mw d 380 Q 60 [x0, x1, x2, x3, x4, some w] (w :: st) h) := (mw_at mj_380_58).trans (z_aload rfl)
theorem mj_380_60 : mc_P 380 60 = some (.getfield 515, 3, 13, 5, 0) := by decide +kernel
theorem s_380_60 {x0 x1 x2 x3 x4 x5 : Option Value} {o : Nat} : mw d 380 Q 60 [x0, x1, x2, x3, x4, x5] (.ref o :: st) h = (mg h o 13 ∧ mw d 380 Q 63 [x0, x1, x2, x3, x4, x5] (va_rf (mh_r h o 5) :: st) h) := (mw_at mj_380_60).trans (z_getr (by decide) (by decide) rfl)
theorem mj_380_63 : mc_P 380 63 = some (.iload_n 2, 1, 0, 0, 0) := by decide +kernel
theorem s_380_63 {x0 x1 x3 x4 x5 : Option Value} {w : Value} : mw d 380 Q 63 [x0, x1, some w, x3, x4, x5] (st) h = mv_i w (mw d 380 Q 64 [x0, x1, some w, x3, x4, x5] (w :: st) h) := (mw_at mj_380_63).trans (z_iload_n rfl)
theorem mj_380_64 : mc_P 380 64 = some (.aload 5, 2, 0, 0, 0) := by decide +kernel
theorem s_380_64 {x0 x1 x2 x3 x4 : Option Value} {w : Value} : mw d 380 Q 64 [x0, x1, x2, x3, x4, some w] (st) h = mv_a w (mw d 380 Q 66 [x0, x1, x2, x3, x4, some w] (w :: st) h) := (mw_at mj_380_64).trans (z_aload rfl)
theorem mj_380_66 : mc_P 380 66 = some (.getfield 515, 3, 13, 5, 0) := by decide +kernel
theorem s_380_66 {x0 x1 x2 x3 x4 x5 : Option Value} {o : Nat} : mw d 380 Q 66 [x0, x1, x2, x3, x4, x5] (.ref o :: st) h = (mg h o 13 ∧ mw d 380 Q 69 [x0, x1, x2, x3, x4, x5] (va_rf (mh_r h o 5) :: st) h) := (mw_at mj_380_66).trans (z_getr (by decide) (by decide) rfl)
theorem mj_380_69 : mc_P 380 69 = some (.iload_n 2, 1, 0, 0, 0) := by decide +kernel
theorem s_380_69 {x0 x1 x3 x4 x5 : Option Value} {w : Value} : mw d 380 Q 69 [x0, x1, some w, x3, x4, x5] (st) h = mv_i w (mw d 380 Q 70 [x0, x1, some w, x3, x4, x5] (w :: st) h) := (mw_at mj_380_69).trans (z_iload_n rfl)
theorem mj_380_70 : mc_P 380 70 = some (.laload, 1, 0, 0, 0) := by decide +kernel
theorem s_380_70 {x0 x1 x2 x3 x4 x5 : Option Value} {o : Nat} {i : Int32} : mw d 380 Q 70 [x0, x1, x2, x3, x4, x5] (.int i :: .ref o :: st) h = (mg h o 101 ∧ mx i (mh_l h o) ∧ mw d 380 Q 71 [x0, x1, x2, x3, x4, x5] (.long (mh_j h o i.toNatClampNeg) :: st) h) := (mw_at mj_380_70).trans (z_lald)
theorem mj_380_71 : mc_P 380 71 = some (.iload 4, 2, 0, 0, 0) := by decide +kernel
theorem s_380_71 {x0 x1 x2 x3 x5 : Option Value} {w : Value} : mw d 380 Q 71 [x0, x1, x2, x3, some w, x5] (st) h = mv_i w (mw d 380 Q 73 [x0, x1, x2, x3, some w, x5] (w :: st) h) := (mw_at mj_380_71).trans (z_iload rfl)
theorem mj_380_73 : mc_P 380 73 = some (.i2l, 1, 0, 0, 0) := by decide +kernel
theorem s_380_73 {x0 x1 x2 x3 x4 x5 : Option Value} {x : Int32} : mw d 380 Q 73 [x0, x1, x2, x3, x4, x5] (.int x :: st) h = mw d 380 Q 74 [x0, x1, x2, x3, x4, x5] (.long x.toInt64 :: st) h := (mw_at mj_380_73).trans (z_i2l)
theorem mj_380_74 : mc_P 380 74 = some (.invokestatic 527, 3, 0, 22, 0) := by decide +kernel
theorem s_380_74 {x0 x1 x2 x3 x4 x5 : Option Value} {x w : Int64} : mw d 380 Q 74 [x0, x1, x2, x3, x4, x5] (.long w :: .long x :: st) h = (mca st 8 ∧ mw d 380 Q 77 [x0, x1, x2, x3, x4, x5] (.long (if w < x then w else x) :: st) h) := (mw_at mj_380_74).trans (z_lmin)
theorem mj_380_77 : mc_P 380 77 = some (.lastore, 1, 0, 0, 0) := by decide +kernel
theorem s_380_77 {x0 x1 x2 x3 x4 x5 : Option Value} {o : Nat} {i : Int32} {w : Int64} : mw d 380 Q 77 [x0, x1, x2, x3, x4, x5] (.long w :: .int i :: .ref o :: st) h = (mg h o 101 ∧ mx i (mh_l h o) ∧ mw d 380 Q 78 [x0, x1, x2, x3, x4, x5] (st) (mh_sj h o i.toNatClampNeg w)) := (mw_at mj_380_77).trans (z_last)
theorem mj_380_78 : mc_P 380 78 = some (.goto 23, 3, 0, 0, 0) := by decide +kernel
theorem s_380_78 {x0 x1 x2 x3 x4 x5 : Option Value} : mw d 380 Q 78 [x0, x1, x2, x3, x4, x5] (st) h = mw d 380 Q 101 [x0, x1, x2, x3, x4, x5] (st) h := (mw_at mj_380_78).trans (z_goto (by decide))
theorem mj_380_81 : mc_P 380 81 = some (.aload 5, 2, 0, 0, 0) := by decide +kernel
theorem s_380_81 {x0 x1 x2 x3 x4 : Option Value} {w : Value} : mw d 380 Q 81 [x0, x1, x2, x3, x4, some w] (st) h = mv_a w (mw d 380 Q 83 [x0, x1, x2, x3, x4, some w] (w :: st) h) := (mw_at mj_380_81).trans (z_aload rfl)
theorem mj_380_83 : mc_P 380 83 = some (.getfield 518, 3, 13, 4, 0) := by decide +kernel
theorem s_380_83 {x0 x1 x2 x3 x4 x5 : Option Value} {o : Nat} : mw d 380 Q 83 [x0, x1, x2, x3, x4, x5] (.ref o :: st) h = (mg h o 13 ∧ mw d 380 Q 86 [x0, x1, x2, x3, x4, x5] (va_rf (mh_r h o 4) :: st) h) := (mw_at mj_380_83).trans (z_getr (by decide) (by decide) rfl)
theorem mj_380_86 : mc_P 380 86 = some (.iload_n 2, 1, 0, 0, 0) := by decide +kernel
theorem s_380_86 {x0 x1 x3 x4 x5 : Option Value} {w : Value} : mw d 380 Q 86 [x0, x1, some w, x3, x4, x5] (st) h = mv_i w (mw d 380 Q 87 [x0, x1, some w, x3, x4, x5] (w :: st) h) := (mw_at mj_380_86).trans (z_iload_n rfl)
theorem mj_380_87 : mc_P 380 87 = some (.aload 5, 2, 0, 0, 0) := by decide +kernel
theorem s_380_87 {x0 x1 x2 x3 x4 : Option Value} {w : Value} : mw d 380 Q 87 [x0, x1, x2, x3, x4, some w] (st) h = mv_a w (mw d 380 Q 89 [x0, x1, x2, x3, x4, some w] (w :: st) h) := (mw_at mj_380_87).trans (z_aload rfl)
theorem mj_380_89 : mc_P 380 89 = some (.getfield 518, 3, 13, 4, 0) := by decide +kernel
theorem s_380_89 {x0 x1 x2 x3 x4 x5 : Option Value} {o : Nat} : mw d 380 Q 89 [x0, x1, x2, x3, x4, x5] (.ref o :: st) h = (mg h o 13 ∧ mw d 380 Q 92 [x0, x1, x2, x3, x4, x5] (va_rf (mh_r h o 4) :: st) h) := (mw_at mj_380_89).trans (z_getr (by decide) (by decide) rfl)
theorem mj_380_92 : mc_P 380 92 = some (.iload_n 2, 1, 0, 0, 0) := by decide +kernel
theorem s_380_92 {x0 x1 x3 x4 x5 : Option Value} {w : Value} : mw d 380 Q 92 [x0, x1, some w, x3, x4, x5] (st) h = mv_i w (mw d 380 Q 93 [x0, x1, some w, x3, x4, x5] (w :: st) h) := (mw_at mj_380_92).trans (z_iload_n rfl)
theorem mj_380_93 : mc_P 380 93 = some (.laload, 1, 0, 0, 0) := by decide +kernel
theorem s_380_93 {x0 x1 x2 x3 x4 x5 : Option Value} {o : Nat} {i : Int32} : mw d 380 Q 93 [x0, x1, x2, x3, x4, x5] (.int i :: .ref o :: st) h = (mg h o 101 ∧ mx i (mh_l h o) ∧ mw d 380 Q 94 [x0, x1, x2, x3, x4, x5] (.long (mh_j h o i.toNatClampNeg) :: st) h) := (mw_at mj_380_93).trans (z_lald)
theorem mj_380_94 : mc_P 380 94 = some (.iload 4, 2, 0, 0, 0) := by decide +kernel
theorem s_380_94 {x0 x1 x2 x3 x5 : Option Value} {w : Value} : mw d 380 Q 94 [x0, x1, x2, x3, some w, x5] (st) h = mv_i w (mw d 380 Q 96 [x0, x1, x2, x3, some w, x5] (w :: st) h) := (mw_at mj_380_94).trans (z_iload rfl)
theorem mj_380_96 : mc_P 380 96 = some (.i2l, 1, 0, 0, 0) := by decide +kernel
theorem s_380_96 {x0 x1 x2 x3 x4 x5 : Option Value} {x : Int32} : mw d 380 Q 96 [x0, x1, x2, x3, x4, x5] (.int x :: st) h = mw d 380 Q 97 [x0, x1, x2, x3, x4, x5] (.long x.toInt64 :: st) h := (mw_at mj_380_96).trans (z_i2l)
theorem mj_380_97 : mc_P 380 97 = some (.invokestatic 530, 3, 0, 23, 0) := by decide +kernel
theorem s_380_97 {x0 x1 x2 x3 x4 x5 : Option Value} {x w : Int64} : mw d 380 Q 97 [x0, x1, x2, x3, x4, x5] (.long w :: .long x :: st) h = (mca st 8 ∧ mw d 380 Q 100 [x0, x1, x2, x3, x4, x5] (.long (if w < x then x else w) :: st) h) := (mw_at mj_380_97).trans (z_lmax)
theorem mj_380_100 : mc_P 380 100 = some (.lastore, 1, 0, 0, 0) := by decide +kernel
theorem s_380_100 {x0 x1 x2 x3 x4 x5 : Option Value} {o : Nat} {i : Int32} {w : Int64} : mw d 380 Q 100 [x0, x1, x2, x3, x4, x5] (.long w :: .int i :: .ref o :: st) h = (mg h o 101 ∧ mx i (mh_l h o) ∧ mw d 380 Q 101 [x0, x1, x2, x3, x4, x5] (st) (mh_sj h o i.toNatClampNeg w)) := (mw_at mj_380_100).trans (z_last)
theorem mj_380_101 : mc_P 380 101 = some (.aload 5, 2, 0, 0, 0) := by decide +kernel
theorem s_380_101 {x0 x1 x2 x3 x4 : Option Value} {w : Value} : mw d 380 Q 101 [x0, x1, x2, x3, x4, some w] (st) h = mv_a w (mw d 380 Q 103 [x0, x1, x2, x3, x4, some w] (w :: st) h) := (mw_at mj_380_101).trans (z_aload rfl)
theorem mj_380_103 : mc_P 380 103 = some (.aload 5, 2, 0, 0, 0) := by decide +kernel
theorem s_380_103 {x0 x1 x2 x3 x4 : Option Value} {w : Value} : mw d 380 Q 103 [x0, x1, x2, x3, x4, some w] (st) h = mv_a w (mw d 380 Q 105 [x0, x1, x2, x3, x4, some w] (w :: st) h) := (mw_at mj_380_103).trans (z_aload rfl)
theorem mj_380_105 : mc_P 380 105 = some (.getfield 518, 3, 13, 4, 0) := by decide +kernel
theorem s_380_105 {x0 x1 x2 x3 x4 x5 : Option Value} {o : Nat} : mw d 380 Q 105 [x0, x1, x2, x3, x4, x5] (.ref o :: st) h = (mg h o 13 ∧ mw d 380 Q 108 [x0, x1, x2, x3, x4, x5] (va_rf (mh_r h o 4) :: st) h) := (mw_at mj_380_105).trans (z_getr (by decide) (by decide) rfl)
theorem mj_380_108 : mc_P 380 108 = some (.iload_n 2, 1, 0, 0, 0) := by decide +kernel
theorem s_380_108 {x0 x1 x3 x4 x5 : Option Value} {w : Value} : mw d 380 Q 108 [x0, x1, some w, x3, x4, x5] (st) h = mv_i w (mw d 380 Q 109 [x0, x1, some w, x3, x4, x5] (w :: st) h) := (mw_at mj_380_108).trans (z_iload_n rfl)
theorem mj_380_109 : mc_P 380 109 = some (.laload, 1, 0, 0, 0) := by decide +kernel
theorem s_380_109 {x0 x1 x2 x3 x4 x5 : Option Value} {o : Nat} {i : Int32} : mw d 380 Q 109 [x0, x1, x2, x3, x4, x5] (.int i :: .ref o :: st) h = (mg h o 101 ∧ mx i (mh_l h o) ∧ mw d 380 Q 110 [x0, x1, x2, x3, x4, x5] (.long (mh_j h o i.toNatClampNeg) :: st) h) := (mw_at mj_380_109).trans (z_lald)
theorem mj_380_110 : mc_P 380 110 = some (.aload 5, 2, 0, 0, 0) := by decide +kernel
theorem s_380_110 {x0 x1 x2 x3 x4 : Option Value} {w : Value} : mw d 380 Q 110 [x0, x1, x2, x3, x4, some w] (st) h = mv_a w (mw d 380 Q 112 [x0, x1, x2, x3, x4, some w] (w :: st) h) := (mw_at mj_380_110).trans (z_aload rfl)
theorem mj_380_112 : mc_P 380 112 = some (.getfield 515, 3, 13, 5, 0) := by decide +kernel
theorem s_380_112 {x0 x1 x2 x3 x4 x5 : Option Value} {o : Nat} : mw d 380 Q 112 [x0, x1, x2, x3, x4, x5] (.ref o :: st) h = (mg h o 13 ∧ mw d 380 Q 115 [x0, x1, x2, x3, x4, x5] (va_rf (mh_r h o 5) :: st) h) := (mw_at mj_380_112).trans (z_getr (by decide) (by decide) rfl)
theorem mj_380_115 : mc_P 380 115 = some (.iload_n 2, 1, 0, 0, 0) := by decide +kernel
theorem s_380_115 {x0 x1 x3 x4 x5 : Option Value} {w : Value} : mw d 380 Q 115 [x0, x1, some w, x3, x4, x5] (st) h = mv_i w (mw d 380 Q 116 [x0, x1, some w, x3, x4, x5] (w :: st) h) := (mw_at mj_380_115).trans (z_iload_n rfl)
theorem mj_380_116 : mc_P 380 116 = some (.laload, 1, 0, 0, 0) := by decide +kernel
theorem s_380_116 {x0 x1 x2 x3 x4 x5 : Option Value} {o : Nat} {i : Int32} : mw d 380 Q 116 [x0, x1, x2, x3, x4, x5] (.int i :: .ref o :: st) h = (mg h o 101 ∧ mx i (mh_l h o) ∧ mw d 380 Q 117 [x0, x1, x2, x3, x4, x5] (.long (mh_j h o i.toNatClampNeg) :: st) h) := (mw_at mj_380_116).trans (z_lald)
theorem mj_380_117 : mc_P 380 117 = some (.lcmp, 1, 0, 0, 0) := by decide +kernel
theorem s_380_117 {x0 x1 x2 x3 x4 x5 : Option Value} {x w : Int64} : mw d 380 Q 117 [x0, x1, x2, x3, x4, x5] (.long w :: .long x :: st) h = mw d 380 Q 118 [x0, x1, x2, x3, x4, x5] (.int (lg_cmp x w) :: st) h := (mw_at mj_380_117).trans (z_lcmp)
theorem mj_380_118 : mc_P 380 118 = some (.ifCond .le 7, 3, 0, 0, 0) := by decide +kernel
theorem s_380_118 {x0 x1 x2 x3 x4 x5 : Option Value} {x : Int32} : mw d 380 Q 118 [x0, x1, x2, x3, x4, x5] (.int x :: st) h = mB (x ≤ 0) (mw d 380 Q) 125 121 [x0, x1, x2, x3, x4, x5] st h := (mw_at mj_380_118).trans (z_if_le (by decide) rfl)
theorem mj_380_121 : mc_P 380 121 = some (.iconst 1, 1, 0, 0, 0) := by decide +kernel
theorem s_380_121 {x0 x1 x2 x3 x4 x5 : Option Value} : mw d 380 Q 121 [x0, x1, x2, x3, x4, x5] (st) h = mw d 380 Q 122 [x0, x1, x2, x3, x4, x5] (.int 1 :: st) h := (mw_at mj_380_121).trans (z_iconst (by decide))
theorem mj_380_122 : mc_P 380 122 = some (.goto 4, 3, 0, 0, 0) := by decide +kernel
theorem s_380_122 {x0 x1 x2 x3 x4 x5 : Option Value} : mw d 380 Q 122 [x0, x1, x2, x3, x4, x5] (st) h = mw d 380 Q 126 [x0, x1, x2, x3, x4, x5] (st) h := (mw_at mj_380_122).trans (z_goto (by decide))
theorem mj_380_125 : mc_P 380 125 = some (.iconst 0, 1, 0, 0, 0) := by decide +kernel
theorem s_380_125 {x0 x1 x2 x3 x4 x5 : Option Value} : mw d 380 Q 125 [x0, x1, x2, x3, x4, x5] (st) h = mw d 380 Q 126 [x0, x1, x2, x3, x4, x5] (.int 0 :: st) h := (mw_at mj_380_125).trans (z_iconst (by decide))
theorem mj_380_126 : mc_P 380 126 = some (.putfield 419, 3, 13, 0, 0) := by decide +kernel
theorem s_380_126 {x0 x1 x2 x3 x4 x5 : Option Value} {o : Nat} {w : Int32} : mw d 380 Q 126 [x0, x1, x2, x3, x4, x5] (.int w :: .ref o :: st) h = (mg h o 13 ∧ (w = 0 ∨ w = 1) ∧ mw d 380 Q 129 [x0, x1, x2, x3, x4, x5] (st) (mh_si h o 0 w)) := (mw_at mj_380_126).trans (z_putz (by decide) (by decide) rfl)
theorem mj_380_129 : mc_P 380 129 = some (.aload_n 0, 1, 0, 0, 0) := by decide +kernel
theorem s_380_129 {x1 x2 x3 x4 x5 : Option Value} {w : Value} : mw d 380 Q 129 [some w, x1, x2, x3, x4, x5] (st) h = mv_a w (mw d 380 Q 130 [some w, x1, x2, x3, x4, x5] (w :: st) h) := (mw_at mj_380_129).trans (z_aload_n rfl)
theorem mj_380_130 : mc_P 380 130 = some (.getfield 128, 3, 14, 53, 0) := by decide +kernel
theorem s_380_130 {x0 x1 x2 x3 x4 x5 : Option Value} {o : Nat} : mw d 380 Q 130 [x0, x1, x2, x3, x4, x5] (.ref o :: st) h = (mg h o 14 ∧ mw d 380 Q 133 [x0, x1, x2, x3, x4, x5] (va_rf (mh_r h o 53) :: st) h) := (mw_at mj_380_130).trans (z_getr (by decide) (by decide) rfl)
theorem mj_380_133 : mc_P 380 133 = some (.aload 5, 2, 0, 0, 0) := by decide +kernel
theorem s_380_133 {x0 x1 x2 x3 x4 : Option Value} {w : Value} : mw d 380 Q 133 [x0, x1, x2, x3, x4, some w] (st) h = mv_a w (mw d 380 Q 135 [x0, x1, x2, x3, x4, some w] (w :: st) h) := (mw_at mj_380_133).trans (z_aload rfl)
theorem mj_380_135 : mc_P 380 135 = some (.invokevirtual 540, 3, 294, 13, 2) := by decide +kernel
theorem s_380_135 {x0 x1 x2 x3 x4 x5 : Option Value} {o : Nat} {a1 : Value} : mw (d + 1) 380 Q 135 [x0, x1, x2, x3, x4, x5] (a1 :: .ref o :: st) h = (mg h o 13 ∧ mca st 8 ∧ mca [.ref o, a1] 5 ∧ mcall d 294 [.ref o, a1] h (mK (d + 1) 380 Q 138 [x0, x1, x2, x3, x4, x5] st)) := (mw_at mj_380_135).trans ((z_invv (As := [a1]) (by decide) rfl rfl).trans (congrArg (And _) (congrArg (And _) (mC_nl nl_294))))
theorem mj_380_138 : mc_P 380 138 = some (.ifCond .eq 7, 3, 0, 0, 0) := by decide +kernel
theorem s_380_138 {x0 x1 x2 x3 x4 x5 : Option Value} {x : Int32} : mw d 380 Q 138 [x0, x1, x2, x3, x4, x5] (.int x :: st) h = mB (x = 0) (mw d 380 Q) 145 141 [x0, x1, x2, x3, x4, x5] st h := (mw_at mj_380_138).trans (z_if_eq (by decide) rfl)
theorem mj_380_141 : mc_P 380 141 = some (.iconst 0, 1, 0, 0, 0) := by decide +kernel
theorem s_380_141 {x0 x1 x2 x3 x4 x5 : Option Value} : mw d 380 Q 141 [x0, x1, x2, x3, x4, x5] (st) h = mw d 380 Q 142 [x0, x1, x2, x3, x4, x5] (.int 0 :: st) h := (mw_at mj_380_141).trans (z_iconst (by decide))
theorem mj_380_142 : mc_P 380 142 = some (.goto 4, 3, 0, 0, 0) := by decide +kernel
theorem s_380_142 {x0 x1 x2 x3 x4 x5 : Option Value} : mw d 380 Q 142 [x0, x1, x2, x3, x4, x5] (st) h = mw d 380 Q 146 [x0, x1, x2, x3, x4, x5] (st) h := (mw_at mj_380_142).trans (z_goto (by decide))
theorem mj_380_145 : mc_P 380 145 = some (.iconst 1, 1, 0, 0, 0) := by decide +kernel
theorem s_380_145 {x0 x1 x2 x3 x4 x5 : Option Value} : mw d 380 Q 145 [x0, x1, x2, x3, x4, x5] (st) h = mw d 380 Q 146 [x0, x1, x2, x3, x4, x5] (.int 1 :: st) h := (mw_at mj_380_145).trans (z_iconst (by decide))
theorem mj_380_146 : mc_P 380 146 = some (.ireturn, 1, 0, 0, 0) := by decide +kernel
theorem s_380_146 {x0 x1 x2 x3 x4 x5 : Option Value} {x : Int32} : mw d 380 Q 146 [x0, x1, x2, x3, x4, x5] ([.int x]) h = (Q (some (.int x)) h) := (mw_at mj_380_146).trans (z_iret)
theorem e_380 {a0 : Nat} {a1 : Int32} {a2 : Int32} {a3 : Int32} {a4 : Int32} : mcall d 380 [.ref a0, .int a1, .int a2, .int a3, .int a4] h Q = mw d 380 Q 0 [some (.ref a0), some (.int a1), some (.int a2), some (.int a3), some (.int a4), none] [] h := by
  show mw d 380 Q 0 (me_en (mc_nl 380) _) [] h = _
  rw [nl_380]; rfl

/-! InvariantDeskModel.claimNothing(I)I -/
theorem mj_381_0 : mc_P 381 0 = some (.aload_n 0, 1, 0, 0, 0) := by decide +kernel
theorem s_381_0 {x1 x2 : Option Value} {w : Value} : mw d 381 Q 0 [some w, x1, x2] (st) h = mv_a w (mw d 381 Q 1 [some w, x1, x2] (w :: st) h) := (mw_at mj_381_0).trans (z_aload_n rfl)
theorem mj_381_1 : mc_P 381 1 = some (.iload_n 1, 1, 0, 0, 0) := by decide +kernel
theorem s_381_1 {x0 x2 : Option Value} {w : Value} : mw d 381 Q 1 [x0, some w, x2] (st) h = mv_i w (mw d 381 Q 2 [x0, some w, x2] (w :: st) h) := (mw_at mj_381_1).trans (z_iload_n rfl)
theorem mj_381_2 : mc_P 381 2 = some (.invokevirtual 493, 3, 373, 14, 2) := by decide +kernel
theorem s_381_2 {x0 x1 x2 : Option Value} {o : Nat} {a1 : Value} : mw (d + 1) 381 Q 2 [x0, x1, x2] (a1 :: .ref o :: st) h = (mg h o 14 ∧ mca st 8 ∧ mca [.ref o, a1] 2 ∧ mcall d 373 [.ref o, a1] h (mK (d + 1) 381 Q 5 [x0, x1, x2] st)) := (mw_at mj_381_2).trans ((z_invv (As := [a1]) (by decide) rfl rfl).trans (congrArg (And _) (congrArg (And _) (mC_nl nl_373))))
theorem mj_381_5 : mc_P 381 5 = some (.ifCond .ne 5, 3, 0, 0, 0) := by decide +kernel
theorem s_381_5 {x0 x1 x2 : Option Value} {x : Int32} : mw d 381 Q 5 [x0, x1, x2] (.int x :: st) h = mB (¬ x = 0) (mw d 381 Q) 10 8 [x0, x1, x2] st h := (mw_at mj_381_5).trans (z_if_ne (by decide) rfl)
theorem mj_381_8 : mc_P 381 8 = some (.iconst (-1), 1, 0, 0, 0) := by decide +kernel
theorem s_381_8 {x0 x1 x2 : Option Value} : mw d 381 Q 8 [x0, x1, x2] (st) h = mw d 381 Q 9 [x0, x1, x2] (.int (-1) :: st) h := (mw_at mj_381_8).trans (z_iconst (by decide))
theorem mj_381_9 : mc_P 381 9 = some (.ireturn, 1, 0, 0, 0) := by decide +kernel
theorem s_381_9 {x0 x1 x2 : Option Value} {x : Int32} : mw d 381 Q 9 [x0, x1, x2] ([.int x]) h = (Q (some (.int x)) h) := (mw_at mj_381_9).trans (z_iret)
theorem mj_381_10 : mc_P 381 10 = some (.aload_n 0, 1, 0, 0, 0) := by decide +kernel
theorem s_381_10 {x1 x2 : Option Value} {w : Value} : mw d 381 Q 10 [some w, x1, x2] (st) h = mv_a w (mw d 381 Q 11 [some w, x1, x2] (w :: st) h) := (mw_at mj_381_10).trans (z_aload_n rfl)
theorem mj_381_11 : mc_P 381 11 = some (.getfield 121, 3, 14, 52, 0) := by decide +kernel
theorem s_381_11 {x0 x1 x2 : Option Value} {o : Nat} : mw d 381 Q 11 [x0, x1, x2] (.ref o :: st) h = (mg h o 14 ∧ mw d 381 Q 14 [x0, x1, x2] (va_rf (mh_r h o 52) :: st) h) := (mw_at mj_381_11).trans (z_getr (by decide) (by decide) rfl)
theorem mj_381_14 : mc_P 381 14 = some (.getfield 416, 3, 12, 5, 0) := by decide +kernel
theorem s_381_14 {x0 x1 x2 : Option Value} {o : Nat} : mw d 381 Q 14 [x0, x1, x2] (.ref o :: st) h = (mg h o 12 ∧ mw d 381 Q 17 [x0, x1, x2] (va_rf (mh_r h o 5) :: st) h) := (mw_at mj_381_14).trans (z_getr (by decide) (by decide) rfl)
theorem mj_381_17 : mc_P 381 17 = some (.iload_n 1, 1, 0, 0, 0) := by decide +kernel
theorem s_381_17 {x0 x2 : Option Value} {w : Value} : mw d 381 Q 17 [x0, some w, x2] (st) h = mv_i w (mw d 381 Q 18 [x0, some w, x2] (w :: st) h) := (mw_at mj_381_17).trans (z_iload_n rfl)
theorem mj_381_18 : mc_P 381 18 = some (.aaload, 1, 0, 0, 0) := by decide +kernel
theorem s_381_18 {x0 x1 x2 : Option Value} {o : Nat} {i : Int32} : mw d 381 Q 18 [x0, x1, x2] (.int i :: .ref o :: st) h = (mgr h o ∧ mx i (mh_l h o) ∧ mw d 381 Q 19 [x0, x1, x2] (mrd (mh_k h o) h o i.toNatClampNeg :: st) h) := (mw_at mj_381_18).trans (z_aald)
theorem mj_381_19 : mc_P 381 19 = some (.getfield 419, 3, 13, 0, 0) := by decide +kernel
theorem s_381_19 {x0 x1 x2 : Option Value} {o : Nat} : mw d 381 Q 19 [x0, x1, x2] (.ref o :: st) h = (mg h o 13 ∧ mw d 381 Q 22 [x0, x1, x2] (.int (mh_i h o 0) :: st) h) := (mw_at mj_381_19).trans (z_geti (by decide) (by decide) (Or.inr rfl))
theorem mj_381_22 : mc_P 381 22 = some (.ifCond .eq 7, 3, 0, 0, 0) := by decide +kernel
theorem s_381_22 {x0 x1 x2 : Option Value} {x : Int32} : mw d 381 Q 22 [x0, x1, x2] (.int x :: st) h = mB (x = 0) (mw d 381 Q) 29 25 [x0, x1, x2] st h := (mw_at mj_381_22).trans (z_if_eq (by decide) rfl)
theorem mj_381_25 : mc_P 381 25 = some (.iconst 0, 1, 0, 0, 0) := by decide +kernel
theorem s_381_25 {x0 x1 x2 : Option Value} : mw d 381 Q 25 [x0, x1, x2] (st) h = mw d 381 Q 26 [x0, x1, x2] (.int 0 :: st) h := (mw_at mj_381_25).trans (z_iconst (by decide))
theorem mj_381_26 : mc_P 381 26 = some (.goto 4, 3, 0, 0, 0) := by decide +kernel
theorem s_381_26 {x0 x1 x2 : Option Value} : mw d 381 Q 26 [x0, x1, x2] (st) h = mw d 381 Q 30 [x0, x1, x2] (st) h := (mw_at mj_381_26).trans (z_goto (by decide))
theorem mj_381_29 : mc_P 381 29 = some (.iconst 1, 1, 0, 0, 0) := by decide +kernel
theorem s_381_29 {x0 x1 x2 : Option Value} : mw d 381 Q 29 [x0, x1, x2] (st) h = mw d 381 Q 30 [x0, x1, x2] (.int 1 :: st) h := (mw_at mj_381_29).trans (z_iconst (by decide))
theorem mj_381_30 : mc_P 381 30 = some (.istore_n 2, 1, 0, 0, 0) := by decide +kernel
theorem s_381_30 {x0 x1 x2 : Option Value} {w : Int32} : mw d 381 Q 30 [x0, x1, x2] (.int w :: st) h = mw d 381 Q 31 [x0, mk2 x1, some (.int w)] (st) h := (mw_at mj_381_30).trans (z_istore_n (Nat.le_of_ble_eq_true rfl) (me_s1_mk (j := 1) (w := x1) rfl))
theorem mj_381_31 : mc_P 381 31 = some (.aload_n 0, 1, 0, 0, 0) := by decide +kernel
theorem s_381_31 {x1 x2 : Option Value} {w : Value} : mw d 381 Q 31 [some w, x1, x2] (st) h = mv_a w (mw d 381 Q 32 [some w, x1, x2] (w :: st) h) := (mw_at mj_381_31).trans (z_aload_n rfl)
theorem mj_381_32 : mc_P 381 32 = some (.getfield 121, 3, 14, 52, 0) := by decide +kernel
theorem s_381_32 {x0 x1 x2 : Option Value} {o : Nat} : mw d 381 Q 32 [x0, x1, x2] (.ref o :: st) h = (mg h o 14 ∧ mw d 381 Q 35 [x0, x1, x2] (va_rf (mh_r h o 52) :: st) h) := (mw_at mj_381_32).trans (z_getr (by decide) (by decide) rfl)
theorem mj_381_35 : mc_P 381 35 = some (.getfield 416, 3, 12, 5, 0) := by decide +kernel
theorem s_381_35 {x0 x1 x2 : Option Value} {o : Nat} : mw d 381 Q 35 [x0, x1, x2] (.ref o :: st) h = (mg h o 12 ∧ mw d 381 Q 38 [x0, x1, x2] (va_rf (mh_r h o 5) :: st) h) := (mw_at mj_381_35).trans (z_getr (by decide) (by decide) rfl)
theorem mj_381_38 : mc_P 381 38 = some (.iload_n 1, 1, 0, 0, 0) := by decide +kernel
theorem s_381_38 {x0 x2 : Option Value} {w : Value} : mw d 381 Q 38 [x0, some w, x2] (st) h = mv_i w (mw d 381 Q 39 [x0, some w, x2] (w :: st) h) := (mw_at mj_381_38).trans (z_iload_n rfl)
theorem mj_381_39 : mc_P 381 39 = some (.aaload, 1, 0, 0, 0) := by decide +kernel
theorem s_381_39 {x0 x1 x2 : Option Value} {o : Nat} {i : Int32} : mw d 381 Q 39 [x0, x1, x2] (.int i :: .ref o :: st) h = (mgr h o ∧ mx i (mh_l h o) ∧ mw d 381 Q 40 [x0, x1, x2] (mrd (mh_k h o) h o i.toNatClampNeg :: st) h) := (mw_at mj_381_39).trans (z_aald)
theorem mj_381_40 : mc_P 381 40 = some (.iconst 1, 1, 0, 0, 0) := by decide +kernel
theorem s_381_40 {x0 x1 x2 : Option Value} : mw d 381 Q 40 [x0, x1, x2] (st) h = mw d 381 Q 41 [x0, x1, x2] (.int 1 :: st) h := (mw_at mj_381_40).trans (z_iconst (by decide))
theorem mj_381_41 : mc_P 381 41 = some (.putfield 419, 3, 13, 0, 0) := by decide +kernel
theorem s_381_41 {x0 x1 x2 : Option Value} {o : Nat} {w : Int32} : mw d 381 Q 41 [x0, x1, x2] (.int w :: .ref o :: st) h = (mg h o 13 ∧ (w = 0 ∨ w = 1) ∧ mw d 381 Q 44 [x0, x1, x2] (st) (mh_si h o 0 w)) := (mw_at mj_381_41).trans (z_putz (by decide) (by decide) rfl)
theorem mj_381_44 : mc_P 381 44 = some (.iload_n 2, 1, 0, 0, 0) := by decide +kernel
theorem s_381_44 {x0 x1 : Option Value} {w : Value} : mw d 381 Q 44 [x0, x1, some w] (st) h = mv_i w (mw d 381 Q 45 [x0, x1, some w] (w :: st) h) := (mw_at mj_381_44).trans (z_iload_n rfl)
theorem mj_381_45 : mc_P 381 45 = some (.ireturn, 1, 0, 0, 0) := by decide +kernel
theorem s_381_45 {x0 x1 x2 : Option Value} {x : Int32} : mw d 381 Q 45 [x0, x1, x2] ([.int x]) h = (Q (some (.int x)) h) := (mw_at mj_381_45).trans (z_iret)
theorem e_381 {a0 : Nat} {a1 : Int32} : mcall d 381 [.ref a0, .int a1] h Q = mw d 381 Q 0 [some (.ref a0), some (.int a1), none] [] h := by
  show mw d 381 Q 0 (me_en (mc_nl 381) _) [] h = _
  rw [nl_381]; rfl

/-! InvariantDeskModel.unclaim()I -/
theorem mj_382_0 : mc_P 382 0 = some (.aload_n 0, 1, 0, 0, 0) := by decide +kernel
theorem s_382_0 {w : Value} : mw d 382 Q 0 [some w] (st) h = mv_a w (mw d 382 Q 1 [some w] (w :: st) h) := (mw_at mj_382_0).trans (z_aload_n rfl)
theorem mj_382_1 : mc_P 382 1 = some (.getfield 121, 3, 14, 52, 0) := by decide +kernel
theorem s_382_1 {x0 : Option Value} {o : Nat} : mw d 382 Q 1 [x0] (.ref o :: st) h = (mg h o 14 ∧ mw d 382 Q 4 [x0] (va_rf (mh_r h o 52) :: st) h) := (mw_at mj_382_1).trans (z_getr (by decide) (by decide) rfl)
theorem mj_382_4 : mc_P 382 4 = some (.invokevirtual 544, 3, 274, 12, 1) := by decide +kernel
theorem s_382_4 {x0 : Option Value} {o : Nat} : mw (d + 1) 382 Q 4 [x0] (.ref o :: st) h = (mg h o 12 ∧ mca st 8 ∧ mca [.ref o] 3 ∧ mcall d 274 [.ref o] h (mK (d + 1) 382 Q 7 [x0] st)) := (mw_at mj_382_4).trans ((z_invv (As := []) (by decide) rfl rfl).trans (congrArg (And _) (congrArg (And _) (mC_nl nl_274))))
theorem mj_382_7 : mc_P 382 7 = some (.ireturn, 1, 0, 0, 0) := by decide +kernel
theorem s_382_7 {x0 : Option Value} {x : Int32} : mw d 382 Q 7 [x0] ([.int x]) h = (Q (some (.int x)) h) := (mw_at mj_382_7).trans (z_iret)
theorem e_382 {a0 : Nat} : mcall d 382 [.ref a0] h Q = mw d 382 Q 0 [some (.ref a0)] [] h := by
  show mw d 382 Q 0 (me_en (mc_nl 382) _) [] h = _
  rw [nl_382]; rfl

/-! InvariantDeskModel.inductive()I -/
theorem mj_383_0 : mc_P 383 0 = some (.aload_n 0, 1, 0, 0, 0) := by decide +kernel
theorem s_383_0 {w : Value} : mw d 383 Q 0 [some w] (st) h = mv_a w (mw d 383 Q 1 [some w] (w :: st) h) := (mw_at mj_383_0).trans (z_aload_n rfl)
theorem mj_383_1 : mc_P 383 1 = some (.getfield 109, 3, 14, 49, 0) := by decide +kernel
theorem s_383_1 {x0 : Option Value} {o : Nat} : mw d 383 Q 1 [x0] (.ref o :: st) h = (mg h o 14 ∧ mw d 383 Q 4 [x0] (.int (mh_i h o 49) :: st) h) := (mw_at mj_383_1).trans (z_geti (by decide) (by decide) (Or.inl rfl))
theorem mj_383_4 : mc_P 383 4 = some (.iconst 3, 1, 0, 0, 0) := by decide +kernel
theorem s_383_4 {x0 : Option Value} : mw d 383 Q 4 [x0] (st) h = mw d 383 Q 5 [x0] (.int 3 :: st) h := (mw_at mj_383_4).trans (z_iconst (by decide))
theorem mj_383_5 : mc_P 383 5 = some (.if_icmp .ne 8, 3, 0, 0, 0) := by decide +kernel
theorem s_383_5 {x0 : Option Value} {x w : Int32} : mw d 383 Q 5 [x0] (.int w :: .int x :: st) h = mB (¬ x = w) (mw d 383 Q) 13 8 [x0] st h := (mw_at mj_383_5).trans (z_icmp_ne (by decide) rfl)
theorem mj_383_8 : mc_P 383 8 = some (.bipush (-3), 2, 0, 0, 0) := by decide +kernel
theorem s_383_8 {x0 : Option Value} : mw d 383 Q 8 [x0] (st) h = mw d 383 Q 10 [x0] (.int (-3) :: st) h := (mw_at mj_383_8).trans (z_bipush (by decide))
theorem mj_383_10 : mc_P 383 10 = some (.goto 10, 3, 0, 0, 0) := by decide +kernel
theorem s_383_10 {x0 : Option Value} : mw d 383 Q 10 [x0] (st) h = mw d 383 Q 20 [x0] (st) h := (mw_at mj_383_10).trans (z_goto (by decide))
theorem mj_383_13 : mc_P 383 13 = some (.aload_n 0, 1, 0, 0, 0) := by decide +kernel
theorem s_383_13 {w : Value} : mw d 383 Q 13 [some w] (st) h = mv_a w (mw d 383 Q 14 [some w] (w :: st) h) := (mw_at mj_383_13).trans (z_aload_n rfl)
theorem mj_383_14 : mc_P 383 14 = some (.getfield 121, 3, 14, 52, 0) := by decide +kernel
theorem s_383_14 {x0 : Option Value} {o : Nat} : mw d 383 Q 14 [x0] (.ref o :: st) h = (mg h o 14 ∧ mw d 383 Q 17 [x0] (va_rf (mh_r h o 52) :: st) h) := (mw_at mj_383_14).trans (z_getr (by decide) (by decide) rfl)
theorem mj_383_17 : mc_P 383 17 = some (.invokevirtual 469, 3, 275, 12, 1) := by decide +kernel
theorem s_383_17 {x0 : Option Value} {o : Nat} : mw (d + 1) 383 Q 17 [x0] (.ref o :: st) h = (mg h o 12 ∧ mca st 8 ∧ mca [.ref o] 2 ∧ mcall d 275 [.ref o] h (mK (d + 1) 383 Q 20 [x0] st)) := (mw_at mj_383_17).trans ((z_invv (As := []) (by decide) rfl rfl).trans (congrArg (And _) (congrArg (And _) (mC_nl nl_275))))
theorem mj_383_20 : mc_P 383 20 = some (.ireturn, 1, 0, 0, 0) := by decide +kernel
theorem s_383_20 {x0 : Option Value} {x : Int32} : mw d 383 Q 20 [x0] ([.int x]) h = (Q (some (.int x)) h) := (mw_at mj_383_20).trans (z_iret)
theorem e_383 {a0 : Nat} : mcall d 383 [.ref a0] h Q = mw d 383 Q 0 [some (.ref a0)] [] h := by
  show mw d 383 Q 0 (me_en (mc_nl 383) _) [] h = _
  rw [nl_383]; rfl

/-! InvariantDeskModel.text(Ljava/lang/String;)V -/
theorem mj_384_0 : mc_P 384 0 = some (.iconst 0, 1, 0, 0, 0) := by decide +kernel
theorem s_384_0 {x0 x1 x2 : Option Value} : mw d 384 Q 0 [x0, x1, x2] (st) h = mw d 384 Q 1 [x0, x1, x2] (.int 0 :: st) h := (mw_at mj_384_0).trans (z_iconst (by decide))
theorem mj_384_1 : mc_P 384 1 = some (.istore_n 2, 1, 0, 0, 0) := by decide +kernel
theorem s_384_1 {x0 x1 x2 : Option Value} {w : Int32} : mw d 384 Q 1 [x0, x1, x2] (.int w :: st) h = mw d 384 Q 2 [x0, mk2 x1, some (.int w)] (st) h := (mw_at mj_384_1).trans (z_istore_n (Nat.le_of_ble_eq_true rfl) (me_s1_mk (j := 1) (w := x1) rfl))
theorem mj_384_2 : mc_P 384 2 = some (.iload_n 2, 1, 0, 0, 0) := by decide +kernel
theorem s_384_2 {x0 x1 : Option Value} {w : Value} : mw d 384 Q 2 [x0, x1, some w] (st) h = mv_i w (mw d 384 Q 3 [x0, x1, some w] (w :: st) h) := (mw_at mj_384_2).trans (z_iload_n rfl)
theorem mj_384_3 : mc_P 384 3 = some (.aload_n 1, 1, 0, 0, 0) := by decide +kernel
theorem s_384_3 {x0 x2 : Option Value} {w : Value} : mw d 384 Q 3 [x0, some w, x2] (st) h = mv_a w (mw d 384 Q 4 [x0, some w, x2] (w :: st) h) := (mw_at mj_384_3).trans (z_aload_n rfl)
theorem mj_384_4 : mc_P 384 4 = some (.invokevirtual 211, 3, 394, 90, 1) := by decide +kernel
theorem s_384_4 {x0 x1 x2 : Option Value} {o : Nat} : mw (d + 1) 384 Q 4 [x0, x1, x2] (.retAddr o :: st) h = (me_xs o = true ∧ mca st 8 ∧ mca [.retAddr o] 1 ∧ mcall d 394 [.retAddr o] h (mK (d + 1) 384 Q 7 [x0, x1, x2] st)) := (mw_at mj_384_4).trans ((z_invx (As := []) rfl rfl).trans (congrArg (And _) (congrArg (And _) (mC_nl nl_394))))
theorem mj_384_7 : mc_P 384 7 = some (.if_icmp .ge 18, 3, 0, 0, 0) := by decide +kernel
theorem s_384_7 {x0 x1 x2 : Option Value} {x w : Int32} : mw d 384 Q 7 [x0, x1, x2] (.int w :: .int x :: st) h = mB (w ≤ x) (mw d 384 Q) 25 10 [x0, x1, x2] st h := (mw_at mj_384_7).trans (z_icmp_ge (by decide) rfl)
theorem mj_384_10 : mc_P 384 10 = some (.aload_n 0, 1, 0, 0, 0) := by decide +kernel
theorem s_384_10 {x1 x2 : Option Value} {w : Value} : mw d 384 Q 10 [some w, x1, x2] (st) h = mv_a w (mw d 384 Q 11 [some w, x1, x2] (w :: st) h) := (mw_at mj_384_10).trans (z_aload_n rfl)
theorem mj_384_11 : mc_P 384 11 = some (.aload_n 1, 1, 0, 0, 0) := by decide +kernel
theorem s_384_11 {x0 x2 : Option Value} {w : Value} : mw d 384 Q 11 [x0, some w, x2] (st) h = mv_a w (mw d 384 Q 12 [x0, some w, x2] (w :: st) h) := (mw_at mj_384_11).trans (z_aload_n rfl)
theorem mj_384_12 : mc_P 384 12 = some (.iload_n 2, 1, 0, 0, 0) := by decide +kernel
theorem s_384_12 {x0 x1 : Option Value} {w : Value} : mw d 384 Q 12 [x0, x1, some w] (st) h = mv_i w (mw d 384 Q 13 [x0, x1, some w] (w :: st) h) := (mw_at mj_384_12).trans (z_iload_n rfl)
theorem mj_384_13 : mc_P 384 13 = some (.invokevirtual 214, 3, 397, 90, 2) := by decide +kernel
theorem s_384_13 {x0 x1 x2 : Option Value} {o : Nat} {a1 : Value} : mw (d + 1) 384 Q 13 [x0, x1, x2] (a1 :: .retAddr o :: st) h = (me_xs o = true ∧ mca st 8 ∧ mca [.retAddr o, a1] 2 ∧ mcall d 397 [.retAddr o, a1] h (mK (d + 1) 384 Q 16 [x0, x1, x2] st)) := (mw_at mj_384_13).trans ((z_invx (As := [a1]) rfl rfl).trans (congrArg (And _) (congrArg (And _) (mC_nl nl_397))))
theorem mj_384_16 : mc_P 384 16 = some (.invokevirtual 547, 3, 385, 14, 2) := by decide +kernel
theorem s_384_16 {x0 x1 x2 : Option Value} {o : Nat} {a1 : Value} : mw (d + 1) 384 Q 16 [x0, x1, x2] (a1 :: .ref o :: st) h = (mg h o 14 ∧ mca st 8 ∧ mca [.ref o, a1] 2 ∧ mcall d 385 [.ref o, a1] h (mK (d + 1) 384 Q 19 [x0, x1, x2] st)) := (mw_at mj_384_16).trans ((z_invv (As := [a1]) (by decide) rfl rfl).trans (congrArg (And _) (congrArg (And _) (mC_nl nl_385))))
theorem mj_384_19 : mc_P 384 19 = some (.iinc 2 1, 3, 0, 0, 0) := by decide +kernel
theorem s_384_19 {x0 x1 : Option Value} {w : Int32} : mw d 384 Q 19 [x0, x1, some (.int w)] (st) h = mw d 384 Q 22 [x0, mk2 x1, some (.int (w + 1))] (st) h := (mw_at mj_384_19).trans (z_iinc rfl (Nat.le_of_ble_eq_true rfl) (by decide) (me_s1_mk (j := 1) (w := x1) rfl))
theorem mj_384_22 : mc_P 384 22 = some (.goto (-20), 3, 0, 0, 0) := by decide +kernel
theorem s_384_22 {x0 x1 x2 : Option Value} : mw d 384 Q 22 [x0, x1, x2] (st) h = mw d 384 Q 2 [x0, x1, x2] (st) h := (mw_at mj_384_22).trans (z_goto (by decide))
theorem mj_384_25 : mc_P 384 25 = some (.return_, 1, 0, 0, 0) := by decide +kernel
theorem s_384_25 {x0 x1 x2 : Option Value} : mw d 384 Q 25 [x0, x1, x2] ([]) h = Q none h := (mw_at mj_384_25).trans (z_vret)
theorem e_384 {a0 : Nat} {a1 : Nat} : mcall d 384 [.ref a0, .retAddr a1] h Q = mw d 384 Q 0 [some (.ref a0), some (.retAddr a1), none] [] h := by
  show mw d 384 Q 0 (me_en (mc_nl 384) _) [] h = _
  rw [nl_384]; rfl

/-! InvariantDeskModel.put(I)V -/
theorem mj_385_0 : mc_P 385 0 = some (.aload_n 0, 1, 0, 0, 0) := by decide +kernel
theorem s_385_0 {x1 : Option Value} {w : Value} : mw d 385 Q 0 [some w, x1] (st) h = mv_a w (mw d 385 Q 1 [some w, x1] (w :: st) h) := (mw_at mj_385_0).trans (z_aload_n rfl)
theorem mj_385_1 : mc_P 385 1 = some (.getfield 135, 3, 14, 58, 0) := by decide +kernel
theorem s_385_1 {x0 x1 : Option Value} {o : Nat} : mw d 385 Q 1 [x0, x1] (.ref o :: st) h = (mg h o 14 ∧ mw d 385 Q 4 [x0, x1] (va_rf (mh_r h o 58) :: st) h) := (mw_at mj_385_1).trans (z_getr (by decide) (by decide) rfl)
theorem mj_385_4 : mc_P 385 4 = some (.aload_n 0, 1, 0, 0, 0) := by decide +kernel
theorem s_385_4 {x1 : Option Value} {w : Value} : mw d 385 Q 4 [some w, x1] (st) h = mv_a w (mw d 385 Q 5 [some w, x1] (w :: st) h) := (mw_at mj_385_4).trans (z_aload_n rfl)
theorem mj_385_5 : mc_P 385 5 = some (.getfield 550, 3, 14, 69, 0) := by decide +kernel
theorem s_385_5 {x0 x1 : Option Value} {o : Nat} : mw d 385 Q 5 [x0, x1] (.ref o :: st) h = (mg h o 14 ∧ mw d 385 Q 8 [x0, x1] (.int (mh_i h o 69) :: st) h) := (mw_at mj_385_5).trans (z_geti (by decide) (by decide) (Or.inl rfl))
theorem mj_385_8 : mc_P 385 8 = some (.iload_n 1, 1, 0, 0, 0) := by decide +kernel
theorem s_385_8 {x0 : Option Value} {w : Value} : mw d 385 Q 8 [x0, some w] (st) h = mv_i w (mw d 385 Q 9 [x0, some w] (w :: st) h) := (mw_at mj_385_8).trans (z_iload_n rfl)
theorem mj_385_9 : mc_P 385 9 = some (.iastore, 1, 0, 0, 0) := by decide +kernel
theorem s_385_9 {x0 x1 : Option Value} {o : Nat} {i w : Int32} : mw d 385 Q 9 [x0, x1] (.int w :: .int i :: .ref o :: st) h = (mg h o 100 ∧ mx i (mh_l h o) ∧ mw d 385 Q 10 [x0, x1] (st) (mh_si h o i.toNatClampNeg w)) := (mw_at mj_385_9).trans (z_iast)
theorem mj_385_10 : mc_P 385 10 = some (.aload_n 0, 1, 0, 0, 0) := by decide +kernel
theorem s_385_10 {x1 : Option Value} {w : Value} : mw d 385 Q 10 [some w, x1] (st) h = mv_a w (mw d 385 Q 11 [some w, x1] (w :: st) h) := (mw_at mj_385_10).trans (z_aload_n rfl)
theorem mj_385_11 : mc_P 385 11 = some (.dup, 1, 0, 0, 0) := by decide +kernel
theorem s_385_11 {x0 x1 : Option Value} {w : Value} : mw d 385 Q 11 [x0, x1] (w :: st) h = (w.category = 1 ∧ mw d 385 Q 12 [x0, x1] (w :: w :: st) h) := (mw_at mj_385_11).trans (z_dup)
theorem mj_385_12 : mc_P 385 12 = some (.getfield 550, 3, 14, 69, 0) := by decide +kernel
theorem s_385_12 {x0 x1 : Option Value} {o : Nat} : mw d 385 Q 12 [x0, x1] (.ref o :: st) h = (mg h o 14 ∧ mw d 385 Q 15 [x0, x1] (.int (mh_i h o 69) :: st) h) := (mw_at mj_385_12).trans (z_geti (by decide) (by decide) (Or.inl rfl))
theorem mj_385_15 : mc_P 385 15 = some (.iconst 1, 1, 0, 0, 0) := by decide +kernel
theorem s_385_15 {x0 x1 : Option Value} : mw d 385 Q 15 [x0, x1] (st) h = mw d 385 Q 16 [x0, x1] (.int 1 :: st) h := (mw_at mj_385_15).trans (z_iconst (by decide))
theorem mj_385_16 : mc_P 385 16 = some (.iadd, 1, 0, 0, 0) := by decide +kernel
theorem s_385_16 {x0 x1 : Option Value} {x w : Int32} : mw d 385 Q 16 [x0, x1] (.int w :: .int x :: st) h = mw d 385 Q 17 [x0, x1] (.int (x + w) :: st) h := (mw_at mj_385_16).trans (z_iadd)
theorem mj_385_17 : mc_P 385 17 = some (.putfield 550, 3, 14, 69, 0) := by decide +kernel
theorem s_385_17 {x0 x1 : Option Value} {o : Nat} {w : Int32} : mw d 385 Q 17 [x0, x1] (.int w :: .ref o :: st) h = (mg h o 14 ∧ mw d 385 Q 20 [x0, x1] (st) (mh_si h o 69 w)) := (mw_at mj_385_17).trans (z_puti (by decide) (by decide) rfl)
theorem mj_385_20 : mc_P 385 20 = some (.return_, 1, 0, 0, 0) := by decide +kernel
theorem s_385_20 {x0 x1 : Option Value} : mw d 385 Q 20 [x0, x1] ([]) h = Q none h := (mw_at mj_385_20).trans (z_vret)
theorem e_385 {a0 : Nat} {a1 : Int32} : mcall d 385 [.ref a0, .int a1] h Q = mw d 385 Q 0 [some (.ref a0), some (.int a1)] [] h := by
  show mw d 385 Q 0 (me_en (mc_nl 385) _) [] h = _
  rw [nl_385]; rfl

/-! InvariantDeskModel.show(ZI)I -/
theorem mj_390_0 : mc_P 390 0 = some (.aload_n 0, 1, 0, 0, 0) := by decide +kernel
theorem s_390_0 {x1 x2 x3 x4 x5 : Option Value} {w : Value} : mw d 390 Q 0 [some w, x1, x2, x3, x4, x5] (st) h = mv_a w (mw d 390 Q 1 [some w, x1, x2, x3, x4, x5] (w :: st) h) := (mw_at mj_390_0).trans (z_aload_n rfl)
theorem mj_390_1 : mc_P 390 1 = some (.iload_n 2, 1, 0, 0, 0) := by decide +kernel
theorem s_390_1 {x0 x1 x3 x4 x5 : Option Value} {w : Value} : mw d 390 Q 1 [x0, x1, some w, x3, x4, x5] (st) h = mv_i w (mw d 390 Q 2 [x0, x1, some w, x3, x4, x5] (w :: st) h) := (mw_at mj_390_1).trans (z_iload_n rfl)
theorem mj_390_2 : mc_P 390 2 = some (.invokevirtual 493, 3, 373, 14, 2) := by decide +kernel
theorem s_390_2 {x0 x1 x2 x3 x4 x5 : Option Value} {o : Nat} {a1 : Value} : mw (d + 1) 390 Q 2 [x0, x1, x2, x3, x4, x5] (a1 :: .ref o :: st) h = (mg h o 14 ∧ mca st 8 ∧ mca [.ref o, a1] 2 ∧ mcall d 373 [.ref o, a1] h (mK (d + 1) 390 Q 5 [x0, x1, x2, x3, x4, x5] st)) := (mw_at mj_390_2).trans ((z_invv (As := [a1]) (by decide) rfl rfl).trans (congrArg (And _) (congrArg (And _) (mC_nl nl_373))))
theorem mj_390_5 : mc_P 390 5 = some (.ifCond .ne 5, 3, 0, 0, 0) := by decide +kernel
theorem s_390_5 {x0 x1 x2 x3 x4 x5 : Option Value} {x : Int32} : mw d 390 Q 5 [x0, x1, x2, x3, x4, x5] (.int x :: st) h = mB (¬ x = 0) (mw d 390 Q) 10 8 [x0, x1, x2, x3, x4, x5] st h := (mw_at mj_390_5).trans (z_if_ne (by decide) rfl)
theorem mj_390_8 : mc_P 390 8 = some (.iconst (-1), 1, 0, 0, 0) := by decide +kernel
theorem s_390_8 {x0 x1 x2 x3 x4 x5 : Option Value} : mw d 390 Q 8 [x0, x1, x2, x3, x4, x5] (st) h = mw d 390 Q 9 [x0, x1, x2, x3, x4, x5] (.int (-1) :: st) h := (mw_at mj_390_8).trans (z_iconst (by decide))
theorem mj_390_9 : mc_P 390 9 = some (.ireturn, 1, 0, 0, 0) := by decide +kernel
theorem s_390_9 {x0 x1 x2 x3 x4 x5 : Option Value} {x : Int32} : mw d 390 Q 9 [x0, x1, x2, x3, x4, x5] ([.int x]) h = (Q (some (.int x)) h) := (mw_at mj_390_9).trans (z_iret)
theorem mj_390_10 : mc_P 390 10 = some (.aload_n 0, 1, 0, 0, 0) := by decide +kernel
theorem s_390_10 {x1 x2 x3 x4 x5 : Option Value} {w : Value} : mw d 390 Q 10 [some w, x1, x2, x3, x4, x5] (st) h = mv_a w (mw d 390 Q 11 [some w, x1, x2, x3, x4, x5] (w :: st) h) := (mw_at mj_390_10).trans (z_aload_n rfl)
theorem mj_390_11 : mc_P 390 11 = some (.iload_n 1, 1, 0, 0, 0) := by decide +kernel
theorem s_390_11 {x0 x2 x3 x4 x5 : Option Value} {w : Value} : mw d 390 Q 11 [x0, some w, x2, x3, x4, x5] (st) h = mv_i w (mw d 390 Q 12 [x0, some w, x2, x3, x4, x5] (w :: st) h) := (mw_at mj_390_11).trans (z_iload_n rfl)
theorem mj_390_12 : mc_P 390 12 = some (.iload_n 2, 1, 0, 0, 0) := by decide +kernel
theorem s_390_12 {x0 x1 x3 x4 x5 : Option Value} {w : Value} : mw d 390 Q 12 [x0, x1, some w, x3, x4, x5] (st) h = mv_i w (mw d 390 Q 13 [x0, x1, some w, x3, x4, x5] (w :: st) h) := (mw_at mj_390_12).trans (z_iload_n rfl)
theorem mj_390_13 : mc_P 390 13 = some (.invokevirtual 503, 3, 372, 14, 3) := by decide +kernel
theorem s_390_13 {x0 x1 x2 x3 x4 x5 : Option Value} {o : Nat} {a1 a2 : Value} : mw (d + 1) 390 Q 13 [x0, x1, x2, x3, x4, x5] (a2 :: a1 :: .ref o :: st) h = (mg h o 14 ∧ mca st 8 ∧ mca [.ref o, a1, a2] 3 ∧ mcall d 372 [.ref o, a1, a2] h (mK (d + 1) 390 Q 16 [x0, x1, x2, x3, x4, x5] st)) := (mw_at mj_390_13).trans ((z_invv (As := [a1, a2]) (by decide) rfl rfl).trans (congrArg (And _) (congrArg (And _) (mC_nl nl_372))))
theorem mj_390_16 : mc_P 390 16 = some (.astore_n 3, 1, 0, 0, 0) := by decide +kernel
theorem s_390_16 {x0 x1 x2 x3 x4 x5 : Option Value} {w : Nat} : mw d 390 Q 16 [x0, x1, x2, x3, x4, x5] (.ref w :: st) h = mw d 390 Q 17 [x0, x1, mk2 x2, some (.ref w), x4, x5] (st) h := (mw_at mj_390_16).trans (z_astore_n (Nat.le_of_ble_eq_true rfl) (me_s1_mk (j := 2) (w := x2) rfl))
theorem s_390_16n {x0 x1 x2 x3 x4 x5 : Option Value} : mw d 390 Q 16 [x0, x1, x2, x3, x4, x5] (.null :: st) h = mw d 390 Q 17 [x0, x1, mk2 x2, some (.null), x4, x5] (st) h := (mw_at mj_390_16).trans (z_astoreN_n (Nat.le_of_ble_eq_true rfl) (me_s1_mk (j := 2) (w := x2) rfl))
theorem s_390_16x {x0 x1 x2 x3 x4 x5 : Option Value} {w : Nat} : mw d 390 Q 16 [x0, x1, x2, x3, x4, x5] (.retAddr w :: st) h = mw d 390 Q 17 [x0, x1, mk2 x2, some (.retAddr w), x4, x5] (st) h := (mw_at mj_390_16).trans (z_astoreX_n (Nat.le_of_ble_eq_true rfl) (me_s1_mk (j := 2) (w := x2) rfl))
theorem mj_390_17 : mc_P 390 17 = some (.aload_n 0, 1, 0, 0, 0) := by decide +kernel
theorem s_390_17 {x1 x2 x3 x4 x5 : Option Value} {w : Value} : mw d 390 Q 17 [some w, x1, x2, x3, x4, x5] (st) h = mv_a w (mw d 390 Q 18 [some w, x1, x2, x3, x4, x5] (w :: st) h) := (mw_at mj_390_17).trans (z_aload_n rfl)
theorem mj_390_18 : mc_P 390 18 = some (.iconst 0, 1, 0, 0, 0) := by decide +kernel
theorem s_390_18 {x0 x1 x2 x3 x4 x5 : Option Value} : mw d 390 Q 18 [x0, x1, x2, x3, x4, x5] (st) h = mw d 390 Q 19 [x0, x1, x2, x3, x4, x5] (.int 0 :: st) h := (mw_at mj_390_18).trans (z_iconst (by decide))
theorem mj_390_19 : mc_P 390 19 = some (.putfield 550, 3, 14, 69, 0) := by decide +kernel
theorem s_390_19 {x0 x1 x2 x3 x4 x5 : Option Value} {o : Nat} {w : Int32} : mw d 390 Q 19 [x0, x1, x2, x3, x4, x5] (.int w :: .ref o :: st) h = (mg h o 14 ∧ mw d 390 Q 22 [x0, x1, x2, x3, x4, x5] (st) (mh_si h o 69 w)) := (mw_at mj_390_19).trans (z_puti (by decide) (by decide) rfl)
theorem mj_390_22 : mc_P 390 22 = some (.aload_n 3, 1, 0, 0, 0) := by decide +kernel
theorem s_390_22 {x0 x1 x2 x4 x5 : Option Value} {w : Value} : mw d 390 Q 22 [x0, x1, x2, some w, x4, x5] (st) h = mv_a w (mw d 390 Q 23 [x0, x1, x2, some w, x4, x5] (w :: st) h) := (mw_at mj_390_22).trans (z_aload_n rfl)
theorem mj_390_23 : mc_P 390 23 = some (.getfield 419, 3, 13, 0, 0) := by decide +kernel
theorem s_390_23 {x0 x1 x2 x3 x4 x5 : Option Value} {o : Nat} : mw d 390 Q 23 [x0, x1, x2, x3, x4, x5] (.ref o :: st) h = (mg h o 13 ∧ mw d 390 Q 26 [x0, x1, x2, x3, x4, x5] (.int (mh_i h o 0) :: st) h) := (mw_at mj_390_23).trans (z_geti (by decide) (by decide) (Or.inr rfl))
theorem mj_390_26 : mc_P 390 26 = some (.ifCond .eq 13, 3, 0, 0, 0) := by decide +kernel
theorem s_390_26 {x0 x1 x2 x3 x4 x5 : Option Value} {x : Int32} : mw d 390 Q 26 [x0, x1, x2, x3, x4, x5] (.int x :: st) h = mB (x = 0) (mw d 390 Q) 39 29 [x0, x1, x2, x3, x4, x5] st h := (mw_at mj_390_26).trans (z_if_eq (by decide) rfl)
theorem mj_390_29 : mc_P 390 29 = some (.aload_n 0, 1, 0, 0, 0) := by decide +kernel
theorem s_390_29 {x1 x2 x3 x4 x5 : Option Value} {w : Value} : mw d 390 Q 29 [some w, x1, x2, x3, x4, x5] (st) h = mv_a w (mw d 390 Q 30 [some w, x1, x2, x3, x4, x5] (w :: st) h) := (mw_at mj_390_29).trans (z_aload_n rfl)
theorem mj_390_30 : mc_P 390 30 = some (.ldc_w 579, 3, 93, 1, 0) := by decide +kernel
theorem s_390_30 {x0 x1 x2 x3 x4 x5 : Option Value} : mw d 390 Q 30 [x0, x1, x2, x3, x4, x5] (st) h = mw d 390 Q 33 [x0, x1, x2, x3, x4, x5] (.retAddr 93 :: st) h := (mw_at mj_390_30).trans (z_ldcW)
theorem mj_390_33 : mc_P 390 33 = some (.invokevirtual 555, 3, 384, 14, 2) := by decide +kernel
theorem s_390_33 {x0 x1 x2 x3 x4 x5 : Option Value} {o : Nat} {a1 : Value} : mw (d + 1) 390 Q 33 [x0, x1, x2, x3, x4, x5] (a1 :: .ref o :: st) h = (mg h o 14 ∧ mca st 8 ∧ mca [.ref o, a1] 3 ∧ mcall d 384 [.ref o, a1] h (mK (d + 1) 390 Q 36 [x0, x1, x2, x3, x4, x5] st)) := (mw_at mj_390_33).trans ((z_invv (As := [a1]) (by decide) rfl rfl).trans (congrArg (And _) (congrArg (And _) (mC_nl nl_384))))
theorem mj_390_36 : mc_P 390 36 = some (.goto 274, 3, 0, 0, 0) := by decide +kernel
theorem s_390_36 {x0 x1 x2 x3 x4 x5 : Option Value} : mw d 390 Q 36 [x0, x1, x2, x3, x4, x5] (st) h = mw d 390 Q 310 [x0, x1, x2, x3, x4, x5] (st) h := (mw_at mj_390_36).trans (z_goto (by decide))
theorem mj_390_39 : mc_P 390 39 = some (.iconst 0, 1, 0, 0, 0) := by decide +kernel
theorem s_390_39 {x0 x1 x2 x3 x4 x5 : Option Value} : mw d 390 Q 39 [x0, x1, x2, x3, x4, x5] (st) h = mw d 390 Q 40 [x0, x1, x2, x3, x4, x5] (.int 0 :: st) h := (mw_at mj_390_39).trans (z_iconst (by decide))
theorem mj_390_40 : mc_P 390 40 = some (.istore 4, 2, 0, 0, 0) := by decide +kernel
theorem s_390_40 {x0 x1 x2 x3 x4 x5 : Option Value} {w : Int32} : mw d 390 Q 40 [x0, x1, x2, x3, x4, x5] (.int w :: st) h = mw d 390 Q 42 [x0, x1, x2, mk2 x3, some (.int w), x5] (st) h := (mw_at mj_390_40).trans (z_istore (Nat.le_of_ble_eq_true rfl) (me_s1_mk (j := 3) (w := x3) rfl))
theorem mj_390_42 : mc_P 390 42 = some (.iload 4, 2, 0, 0, 0) := by decide +kernel
theorem s_390_42 {x0 x1 x2 x3 x5 : Option Value} {w : Value} : mw d 390 Q 42 [x0, x1, x2, x3, some w, x5] (st) h = mv_i w (mw d 390 Q 44 [x0, x1, x2, x3, some w, x5] (w :: st) h) := (mw_at mj_390_42).trans (z_iload rfl)
theorem mj_390_44 : mc_P 390 44 = some (.aload_n 0, 1, 0, 0, 0) := by decide +kernel
theorem s_390_44 {x1 x2 x3 x4 x5 : Option Value} {w : Value} : mw d 390 Q 44 [some w, x1, x2, x3, x4, x5] (st) h = mv_a w (mw d 390 Q 45 [some w, x1, x2, x3, x4, x5] (w :: st) h) := (mw_at mj_390_44).trans (z_aload_n rfl)
theorem mj_390_45 : mc_P 390 45 = some (.getfield 79, 3, 14, 31, 0) := by decide +kernel
theorem s_390_45 {x0 x1 x2 x3 x4 x5 : Option Value} {o : Nat} : mw d 390 Q 45 [x0, x1, x2, x3, x4, x5] (.ref o :: st) h = (mg h o 14 ∧ mw d 390 Q 48 [x0, x1, x2, x3, x4, x5] (va_rf (mh_r h o 31) :: st) h) := (mw_at mj_390_45).trans (z_getr (by decide) (by decide) rfl)
theorem mj_390_48 : mc_P 390 48 = some (.iload_n 2, 1, 0, 0, 0) := by decide +kernel
theorem s_390_48 {x0 x1 x3 x4 x5 : Option Value} {w : Value} : mw d 390 Q 48 [x0, x1, some w, x3, x4, x5] (st) h = mv_i w (mw d 390 Q 49 [x0, x1, some w, x3, x4, x5] (w :: st) h) := (mw_at mj_390_48).trans (z_iload_n rfl)
theorem mj_390_49 : mc_P 390 49 = some (.iaload, 1, 0, 0, 0) := by decide +kernel
theorem s_390_49 {x0 x1 x2 x3 x4 x5 : Option Value} {o : Nat} {i : Int32} : mw d 390 Q 49 [x0, x1, x2, x3, x4, x5] (.int i :: .ref o :: st) h = (mg h o 100 ∧ mx i (mh_l h o) ∧ mw d 390 Q 50 [x0, x1, x2, x3, x4, x5] (.int (mh_i h o i.toNatClampNeg) :: st) h) := (mw_at mj_390_49).trans (z_iald)
theorem s_390_49x {x0 x1 x2 x3 x4 x5 : Option Value} {i : Int32} : mw d 390 Q 49 [x0, x1, x2, x3, x4, x5] (.int i :: .retAddr 2 :: st) h = (mx i 24 ∧ mw d 390 Q 50 [x0, x1, x2, x3, x4, x5] (.int (mx_row.getD i.toNatClampNeg 0) :: st) h) := (mw_at mj_390_49).trans (z_iaX)
theorem mj_390_50 : mc_P 390 50 = some (.if_icmp .ge 63, 3, 0, 0, 0) := by decide +kernel
theorem s_390_50 {x0 x1 x2 x3 x4 x5 : Option Value} {x w : Int32} : mw d 390 Q 50 [x0, x1, x2, x3, x4, x5] (.int w :: .int x :: st) h = mB (w ≤ x) (mw d 390 Q) 113 53 [x0, x1, x2, x3, x4, x5] st h := (mw_at mj_390_50).trans (z_icmp_ge (by decide) rfl)
theorem mj_390_53 : mc_P 390 53 = some (.aload_n 0, 1, 0, 0, 0) := by decide +kernel
theorem s_390_53 {x1 x2 x3 x4 x5 : Option Value} {w : Value} : mw d 390 Q 53 [some w, x1, x2, x3, x4, x5] (st) h = mv_a w (mw d 390 Q 54 [some w, x1, x2, x3, x4, x5] (w :: st) h) := (mw_at mj_390_53).trans (z_aload_n rfl)
theorem mj_390_54 : mc_P 390 54 = some (.invokevirtual 564, 3, 386, 14, 1) := by decide +kernel
theorem s_390_54 {x0 x1 x2 x3 x4 x5 : Option Value} {o : Nat} : mw (d + 1) 390 Q 54 [x0, x1, x2, x3, x4, x5] (.ref o :: st) h = (mg h o 14 ∧ mca st 8 ∧ mca [.ref o] 1 ∧ mcall d 386 [.ref o] h (mK (d + 1) 390 Q 57 [x0, x1, x2, x3, x4, x5] st)) := (mw_at mj_390_54).trans ((z_invv (As := []) (by decide) rfl rfl).trans (congrArg (And _) (congrArg (And _) (mC_nl nl_386))))
theorem mj_390_57 : mc_P 390 57 = some (.aload_n 0, 1, 0, 0, 0) := by decide +kernel
theorem s_390_57 {x1 x2 x3 x4 x5 : Option Value} {w : Value} : mw d 390 Q 57 [some w, x1, x2, x3, x4, x5] (st) h = mv_a w (mw d 390 Q 58 [some w, x1, x2, x3, x4, x5] (w :: st) h) := (mw_at mj_390_57).trans (z_aload_n rfl)
theorem mj_390_58 : mc_P 390 58 = some (.aload_n 0, 1, 0, 0, 0) := by decide +kernel
theorem s_390_58 {x1 x2 x3 x4 x5 : Option Value} {w : Value} : mw d 390 Q 58 [some w, x1, x2, x3, x4, x5] (st) h = mv_a w (mw d 390 Q 59 [some w, x1, x2, x3, x4, x5] (w :: st) h) := (mw_at mj_390_58).trans (z_aload_n rfl)
theorem mj_390_59 : mc_P 390 59 = some (.getfield 112, 3, 14, 50, 0) := by decide +kernel
theorem s_390_59 {x0 x1 x2 x3 x4 x5 : Option Value} {o : Nat} : mw d 390 Q 59 [x0, x1, x2, x3, x4, x5] (.ref o :: st) h = (mg h o 14 ∧ mw d 390 Q 62 [x0, x1, x2, x3, x4, x5] (va_rf (mh_r h o 50) :: st) h) := (mw_at mj_390_59).trans (z_getr (by decide) (by decide) rfl)
theorem mj_390_62 : mc_P 390 62 = some (.bipush 12, 2, 0, 0, 0) := by decide +kernel
theorem s_390_62 {x0 x1 x2 x3 x4 x5 : Option Value} : mw d 390 Q 62 [x0, x1, x2, x3, x4, x5] (st) h = mw d 390 Q 64 [x0, x1, x2, x3, x4, x5] (.int 12 :: st) h := (mw_at mj_390_62).trans (z_bipush (by decide))
theorem mj_390_64 : mc_P 390 64 = some (.iload_n 2, 1, 0, 0, 0) := by decide +kernel
theorem s_390_64 {x0 x1 x3 x4 x5 : Option Value} {w : Value} : mw d 390 Q 64 [x0, x1, some w, x3, x4, x5] (st) h = mv_i w (mw d 390 Q 65 [x0, x1, some w, x3, x4, x5] (w :: st) h) := (mw_at mj_390_64).trans (z_iload_n rfl)
theorem mj_390_65 : mc_P 390 65 = some (.imul, 1, 0, 0, 0) := by decide +kernel
theorem s_390_65 {x0 x1 x2 x3 x4 x5 : Option Value} {x w : Int32} : mw d 390 Q 65 [x0, x1, x2, x3, x4, x5] (.int w :: .int x :: st) h = mw d 390 Q 66 [x0, x1, x2, x3, x4, x5] (.int (x * w) :: st) h := (mw_at mj_390_65).trans (z_imul)
theorem mj_390_66 : mc_P 390 66 = some (.iload 4, 2, 0, 0, 0) := by decide +kernel
theorem s_390_66 {x0 x1 x2 x3 x5 : Option Value} {w : Value} : mw d 390 Q 66 [x0, x1, x2, x3, some w, x5] (st) h = mv_i w (mw d 390 Q 68 [x0, x1, x2, x3, some w, x5] (w :: st) h) := (mw_at mj_390_66).trans (z_iload rfl)
theorem mj_390_68 : mc_P 390 68 = some (.iadd, 1, 0, 0, 0) := by decide +kernel
theorem s_390_68 {x0 x1 x2 x3 x4 x5 : Option Value} {x w : Int32} : mw d 390 Q 68 [x0, x1, x2, x3, x4, x5] (.int w :: .int x :: st) h = mw d 390 Q 69 [x0, x1, x2, x3, x4, x5] (.int (x + w) :: st) h := (mw_at mj_390_68).trans (z_iadd)
theorem mj_390_69 : mc_P 390 69 = some (.iaload, 1, 0, 0, 0) := by decide +kernel
theorem s_390_69 {x0 x1 x2 x3 x4 x5 : Option Value} {o : Nat} {i : Int32} : mw d 390 Q 69 [x0, x1, x2, x3, x4, x5] (.int i :: .ref o :: st) h = (mg h o 100 ∧ mx i (mh_l h o) ∧ mw d 390 Q 70 [x0, x1, x2, x3, x4, x5] (.int (mh_i h o i.toNatClampNeg) :: st) h) := (mw_at mj_390_69).trans (z_iald)
theorem s_390_69x {x0 x1 x2 x3 x4 x5 : Option Value} {i : Int32} : mw d 390 Q 69 [x0, x1, x2, x3, x4, x5] (.int i :: .retAddr 2 :: st) h = (mx i 24 ∧ mw d 390 Q 70 [x0, x1, x2, x3, x4, x5] (.int (mx_row.getD i.toNatClampNeg 0) :: st) h) := (mw_at mj_390_69).trans (z_iaX)
theorem mj_390_70 : mc_P 390 70 = some (.invokevirtual 567, 3, 387, 14, 2) := by decide +kernel
theorem s_390_70 {x0 x1 x2 x3 x4 x5 : Option Value} {o : Nat} {a1 : Value} : mw (d + 1) 390 Q 70 [x0, x1, x2, x3, x4, x5] (a1 :: .ref o :: st) h = (mg h o 14 ∧ mca st 8 ∧ mca [.ref o, a1] 3 ∧ mcall d 387 [.ref o, a1] h (mK (d + 1) 390 Q 73 [x0, x1, x2, x3, x4, x5] st)) := (mw_at mj_390_70).trans ((z_invv (As := [a1]) (by decide) rfl rfl).trans (congrArg (And _) (congrArg (And _) (mC_nl nl_387))))
theorem mj_390_73 : mc_P 390 73 = some (.aload_n 0, 1, 0, 0, 0) := by decide +kernel
theorem s_390_73 {x1 x2 x3 x4 x5 : Option Value} {w : Value} : mw d 390 Q 73 [some w, x1, x2, x3, x4, x5] (st) h = mv_a w (mw d 390 Q 74 [some w, x1, x2, x3, x4, x5] (w :: st) h) := (mw_at mj_390_73).trans (z_aload_n rfl)
theorem mj_390_74 : mc_P 390 74 = some (.ldc_w 580, 3, 96, 1, 0) := by decide +kernel
theorem s_390_74 {x0 x1 x2 x3 x4 x5 : Option Value} : mw d 390 Q 74 [x0, x1, x2, x3, x4, x5] (st) h = mw d 390 Q 77 [x0, x1, x2, x3, x4, x5] (.retAddr 96 :: st) h := (mw_at mj_390_74).trans (z_ldcW)
theorem mj_390_77 : mc_P 390 77 = some (.invokevirtual 555, 3, 384, 14, 2) := by decide +kernel
theorem s_390_77 {x0 x1 x2 x3 x4 x5 : Option Value} {o : Nat} {a1 : Value} : mw (d + 1) 390 Q 77 [x0, x1, x2, x3, x4, x5] (a1 :: .ref o :: st) h = (mg h o 14 ∧ mca st 8 ∧ mca [.ref o, a1] 3 ∧ mcall d 384 [.ref o, a1] h (mK (d + 1) 390 Q 80 [x0, x1, x2, x3, x4, x5] st)) := (mw_at mj_390_77).trans ((z_invv (As := [a1]) (by decide) rfl rfl).trans (congrArg (And _) (congrArg (And _) (mC_nl nl_384))))
theorem mj_390_80 : mc_P 390 80 = some (.aload_n 0, 1, 0, 0, 0) := by decide +kernel
theorem s_390_80 {x1 x2 x3 x4 x5 : Option Value} {w : Value} : mw d 390 Q 80 [some w, x1, x2, x3, x4, x5] (st) h = mv_a w (mw d 390 Q 81 [some w, x1, x2, x3, x4, x5] (w :: st) h) := (mw_at mj_390_80).trans (z_aload_n rfl)
theorem mj_390_81 : mc_P 390 81 = some (.aload_n 3, 1, 0, 0, 0) := by decide +kernel
theorem s_390_81 {x0 x1 x2 x4 x5 : Option Value} {w : Value} : mw d 390 Q 81 [x0, x1, x2, some w, x4, x5] (st) h = mv_a w (mw d 390 Q 82 [x0, x1, x2, some w, x4, x5] (w :: st) h) := (mw_at mj_390_81).trans (z_aload_n rfl)
theorem mj_390_82 : mc_P 390 82 = some (.iload 4, 2, 0, 0, 0) := by decide +kernel
theorem s_390_82 {x0 x1 x2 x3 x5 : Option Value} {w : Value} : mw d 390 Q 82 [x0, x1, x2, x3, some w, x5] (st) h = mv_i w (mw d 390 Q 84 [x0, x1, x2, x3, some w, x5] (w :: st) h) := (mw_at mj_390_82).trans (z_iload rfl)
theorem mj_390_84 : mc_P 390 84 = some (.invokevirtual 582, 3, 283, 13, 2) := by decide +kernel
theorem s_390_84 {x0 x1 x2 x3 x4 x5 : Option Value} {o : Nat} {a1 : Value} : mw (d + 1) 390 Q 84 [x0, x1, x2, x3, x4, x5] (a1 :: .ref o :: st) h = (mg h o 13 ∧ mca st 8 ∧ mca [.ref o, a1] 2 ∧ mcall d 283 [.ref o, a1] h (mK (d + 1) 390 Q 87 [x0, x1, x2, x3, x4, x5] st)) := (mw_at mj_390_84).trans ((z_invv (As := [a1]) (by decide) rfl rfl).trans (congrArg (And _) (congrArg (And _) (mC_nl nl_283))))
theorem mj_390_87 : mc_P 390 87 = some (.invokevirtual 576, 3, 388, 14, 2) := by decide +kernel
theorem s_390_87 {x0 x1 x2 x3 x4 x5 : Option Value} {o : Nat} {a1 : Value} : mw (d + 1) 390 Q 87 [x0, x1, x2, x3, x4, x5] (a1 :: .ref o :: st) h = (mg h o 14 ∧ mca st 8 ∧ mca [.ref o, a1] 7 ∧ mcall d 388 [.ref o, a1] h (mK (d + 1) 390 Q 90 [x0, x1, x2, x3, x4, x5] st)) := (mw_at mj_390_87).trans ((z_invv (As := [a1]) (by decide) rfl rfl).trans (congrArg (And _) (congrArg (And _) (mC_nl nl_388))))
theorem mj_390_90 : mc_P 390 90 = some (.aload_n 0, 1, 0, 0, 0) := by decide +kernel
theorem s_390_90 {x1 x2 x3 x4 x5 : Option Value} {w : Value} : mw d 390 Q 90 [some w, x1, x2, x3, x4, x5] (st) h = mv_a w (mw d 390 Q 91 [some w, x1, x2, x3, x4, x5] (w :: st) h) := (mw_at mj_390_90).trans (z_aload_n rfl)
theorem mj_390_91 : mc_P 390 91 = some (.ldc_w 585, 3, 99, 1, 0) := by decide +kernel
theorem s_390_91 {x0 x1 x2 x3 x4 x5 : Option Value} : mw d 390 Q 91 [x0, x1, x2, x3, x4, x5] (st) h = mw d 390 Q 94 [x0, x1, x2, x3, x4, x5] (.retAddr 99 :: st) h := (mw_at mj_390_91).trans (z_ldcW)
theorem mj_390_94 : mc_P 390 94 = some (.invokevirtual 555, 3, 384, 14, 2) := by decide +kernel
theorem s_390_94 {x0 x1 x2 x3 x4 x5 : Option Value} {o : Nat} {a1 : Value} : mw (d + 1) 390 Q 94 [x0, x1, x2, x3, x4, x5] (a1 :: .ref o :: st) h = (mg h o 14 ∧ mca st 8 ∧ mca [.ref o, a1] 3 ∧ mcall d 384 [.ref o, a1] h (mK (d + 1) 390 Q 97 [x0, x1, x2, x3, x4, x5] st)) := (mw_at mj_390_94).trans ((z_invv (As := [a1]) (by decide) rfl rfl).trans (congrArg (And _) (congrArg (And _) (mC_nl nl_384))))
theorem mj_390_97 : mc_P 390 97 = some (.aload_n 0, 1, 0, 0, 0) := by decide +kernel
theorem s_390_97 {x1 x2 x3 x4 x5 : Option Value} {w : Value} : mw d 390 Q 97 [some w, x1, x2, x3, x4, x5] (st) h = mv_a w (mw d 390 Q 98 [some w, x1, x2, x3, x4, x5] (w :: st) h) := (mw_at mj_390_97).trans (z_aload_n rfl)
theorem mj_390_98 : mc_P 390 98 = some (.aload_n 3, 1, 0, 0, 0) := by decide +kernel
theorem s_390_98 {x0 x1 x2 x4 x5 : Option Value} {w : Value} : mw d 390 Q 98 [x0, x1, x2, some w, x4, x5] (st) h = mv_a w (mw d 390 Q 99 [x0, x1, x2, some w, x4, x5] (w :: st) h) := (mw_at mj_390_98).trans (z_aload_n rfl)
theorem mj_390_99 : mc_P 390 99 = some (.iload 4, 2, 0, 0, 0) := by decide +kernel
theorem s_390_99 {x0 x1 x2 x3 x5 : Option Value} {w : Value} : mw d 390 Q 99 [x0, x1, x2, x3, some w, x5] (st) h = mv_i w (mw d 390 Q 101 [x0, x1, x2, x3, some w, x5] (w :: st) h) := (mw_at mj_390_99).trans (z_iload rfl)
theorem mj_390_101 : mc_P 390 101 = some (.invokevirtual 587, 3, 284, 13, 2) := by decide +kernel
theorem s_390_101 {x0 x1 x2 x3 x4 x5 : Option Value} {o : Nat} {a1 : Value} : mw (d + 1) 390 Q 101 [x0, x1, x2, x3, x4, x5] (a1 :: .ref o :: st) h = (mg h o 13 ∧ mca st 8 ∧ mca [.ref o, a1] 2 ∧ mcall d 284 [.ref o, a1] h (mK (d + 1) 390 Q 104 [x0, x1, x2, x3, x4, x5] st)) := (mw_at mj_390_101).trans ((z_invv (As := [a1]) (by decide) rfl rfl).trans (congrArg (And _) (congrArg (And _) (mC_nl nl_284))))
theorem mj_390_104 : mc_P 390 104 = some (.invokevirtual 576, 3, 388, 14, 2) := by decide +kernel
theorem s_390_104 {x0 x1 x2 x3 x4 x5 : Option Value} {o : Nat} {a1 : Value} : mw (d + 1) 390 Q 104 [x0, x1, x2, x3, x4, x5] (a1 :: .ref o :: st) h = (mg h o 14 ∧ mca st 8 ∧ mca [.ref o, a1] 7 ∧ mcall d 388 [.ref o, a1] h (mK (d + 1) 390 Q 107 [x0, x1, x2, x3, x4, x5] st)) := (mw_at mj_390_104).trans ((z_invv (As := [a1]) (by decide) rfl rfl).trans (congrArg (And _) (congrArg (And _) (mC_nl nl_388))))
theorem mj_390_107 : mc_P 390 107 = some (.iinc 4 1, 3, 0, 0, 0) := by decide +kernel
theorem s_390_107 {x0 x1 x2 x3 x5 : Option Value} {w : Int32} : mw d 390 Q 107 [x0, x1, x2, x3, some (.int w), x5] (st) h = mw d 390 Q 110 [x0, x1, x2, mk2 x3, some (.int (w + 1)), x5] (st) h := (mw_at mj_390_107).trans (z_iinc rfl (Nat.le_of_ble_eq_true rfl) (by decide) (me_s1_mk (j := 3) (w := x3) rfl))
theorem mj_390_110 : mc_P 390 110 = some (.goto (-68), 3, 0, 0, 0) := by decide +kernel
theorem s_390_110 {x0 x1 x2 x3 x4 x5 : Option Value} : mw d 390 Q 110 [x0, x1, x2, x3, x4, x5] (st) h = mw d 390 Q 42 [x0, x1, x2, x3, x4, x5] (st) h := (mw_at mj_390_110).trans (z_goto (by decide))
theorem mj_390_113 : mc_P 390 113 = some (.iconst 0, 1, 0, 0, 0) := by decide +kernel
theorem s_390_113 {x0 x1 x2 x3 x4 x5 : Option Value} : mw d 390 Q 113 [x0, x1, x2, x3, x4, x5] (st) h = mw d 390 Q 114 [x0, x1, x2, x3, x4, x5] (.int 0 :: st) h := (mw_at mj_390_113).trans (z_iconst (by decide))
theorem mj_390_114 : mc_P 390 114 = some (.istore 4, 2, 0, 0, 0) := by decide +kernel
theorem s_390_114 {x0 x1 x2 x3 x4 x5 : Option Value} {w : Int32} : mw d 390 Q 114 [x0, x1, x2, x3, x4, x5] (.int w :: st) h = mw d 390 Q 116 [x0, x1, x2, mk2 x3, some (.int w), x5] (st) h := (mw_at mj_390_114).trans (z_istore (Nat.le_of_ble_eq_true rfl) (me_s1_mk (j := 3) (w := x3) rfl))
theorem mj_390_116 : mc_P 390 116 = some (.iload 4, 2, 0, 0, 0) := by decide +kernel
theorem s_390_116 {x0 x1 x2 x3 x5 : Option Value} {w : Value} : mw d 390 Q 116 [x0, x1, x2, x3, some w, x5] (st) h = mv_i w (mw d 390 Q 118 [x0, x1, x2, x3, some w, x5] (w :: st) h) := (mw_at mj_390_116).trans (z_iload rfl)
theorem mj_390_118 : mc_P 390 118 = some (.aload_n 0, 1, 0, 0, 0) := by decide +kernel
theorem s_390_118 {x1 x2 x3 x4 x5 : Option Value} {w : Value} : mw d 390 Q 118 [some w, x1, x2, x3, x4, x5] (st) h = mv_a w (mw d 390 Q 119 [some w, x1, x2, x3, x4, x5] (w :: st) h) := (mw_at mj_390_118).trans (z_aload_n rfl)
theorem mj_390_119 : mc_P 390 119 = some (.getfield 79, 3, 14, 31, 0) := by decide +kernel
theorem s_390_119 {x0 x1 x2 x3 x4 x5 : Option Value} {o : Nat} : mw d 390 Q 119 [x0, x1, x2, x3, x4, x5] (.ref o :: st) h = (mg h o 14 ∧ mw d 390 Q 122 [x0, x1, x2, x3, x4, x5] (va_rf (mh_r h o 31) :: st) h) := (mw_at mj_390_119).trans (z_getr (by decide) (by decide) rfl)
theorem mj_390_122 : mc_P 390 122 = some (.iload_n 2, 1, 0, 0, 0) := by decide +kernel
theorem s_390_122 {x0 x1 x3 x4 x5 : Option Value} {w : Value} : mw d 390 Q 122 [x0, x1, some w, x3, x4, x5] (st) h = mv_i w (mw d 390 Q 123 [x0, x1, some w, x3, x4, x5] (w :: st) h) := (mw_at mj_390_122).trans (z_iload_n rfl)
theorem mj_390_123 : mc_P 390 123 = some (.iaload, 1, 0, 0, 0) := by decide +kernel
theorem s_390_123 {x0 x1 x2 x3 x4 x5 : Option Value} {o : Nat} {i : Int32} : mw d 390 Q 123 [x0, x1, x2, x3, x4, x5] (.int i :: .ref o :: st) h = (mg h o 100 ∧ mx i (mh_l h o) ∧ mw d 390 Q 124 [x0, x1, x2, x3, x4, x5] (.int (mh_i h o i.toNatClampNeg) :: st) h) := (mw_at mj_390_123).trans (z_iald)
theorem s_390_123x {x0 x1 x2 x3 x4 x5 : Option Value} {i : Int32} : mw d 390 Q 123 [x0, x1, x2, x3, x4, x5] (.int i :: .retAddr 2 :: st) h = (mx i 24 ∧ mw d 390 Q 124 [x0, x1, x2, x3, x4, x5] (.int (mx_row.getD i.toNatClampNeg 0) :: st) h) := (mw_at mj_390_123).trans (z_iaX)
theorem mj_390_124 : mc_P 390 124 = some (.if_icmp .ge 96, 3, 0, 0, 0) := by decide +kernel
theorem s_390_124 {x0 x1 x2 x3 x4 x5 : Option Value} {x w : Int32} : mw d 390 Q 124 [x0, x1, x2, x3, x4, x5] (.int w :: .int x :: st) h = mB (w ≤ x) (mw d 390 Q) 220 127 [x0, x1, x2, x3, x4, x5] st h := (mw_at mj_390_124).trans (z_icmp_ge (by decide) rfl)
theorem mj_390_127 : mc_P 390 127 = some (.iload 4, 2, 0, 0, 0) := by decide +kernel
theorem s_390_127 {x0 x1 x2 x3 x5 : Option Value} {w : Value} : mw d 390 Q 127 [x0, x1, x2, x3, some w, x5] (st) h = mv_i w (mw d 390 Q 129 [x0, x1, x2, x3, some w, x5] (w :: st) h) := (mw_at mj_390_127).trans (z_iload rfl)
theorem mj_390_129 : mc_P 390 129 = some (.iconst 1, 1, 0, 0, 0) := by decide +kernel
theorem s_390_129 {x0 x1 x2 x3 x4 x5 : Option Value} : mw d 390 Q 129 [x0, x1, x2, x3, x4, x5] (st) h = mw d 390 Q 130 [x0, x1, x2, x3, x4, x5] (.int 1 :: st) h := (mw_at mj_390_129).trans (z_iconst (by decide))
theorem mj_390_130 : mc_P 390 130 = some (.iadd, 1, 0, 0, 0) := by decide +kernel
theorem s_390_130 {x0 x1 x2 x3 x4 x5 : Option Value} {x w : Int32} : mw d 390 Q 130 [x0, x1, x2, x3, x4, x5] (.int w :: .int x :: st) h = mw d 390 Q 131 [x0, x1, x2, x3, x4, x5] (.int (x + w) :: st) h := (mw_at mj_390_130).trans (z_iadd)
theorem mj_390_131 : mc_P 390 131 = some (.istore 5, 2, 0, 0, 0) := by decide +kernel
theorem s_390_131 {x0 x1 x2 x3 x4 x5 : Option Value} {w : Int32} : mw d 390 Q 131 [x0, x1, x2, x3, x4, x5] (.int w :: st) h = mw d 390 Q 133 [x0, x1, x2, x3, mk2 x4, some (.int w)] (st) h := (mw_at mj_390_131).trans (z_istore (Nat.le_of_ble_eq_true rfl) (me_s1_mk (j := 4) (w := x4) rfl))
theorem mj_390_133 : mc_P 390 133 = some (.iload 5, 2, 0, 0, 0) := by decide +kernel
theorem s_390_133 {x0 x1 x2 x3 x4 : Option Value} {w : Value} : mw d 390 Q 133 [x0, x1, x2, x3, x4, some w] (st) h = mv_i w (mw d 390 Q 135 [x0, x1, x2, x3, x4, some w] (w :: st) h) := (mw_at mj_390_133).trans (z_iload rfl)
theorem mj_390_135 : mc_P 390 135 = some (.aload_n 0, 1, 0, 0, 0) := by decide +kernel
theorem s_390_135 {x1 x2 x3 x4 x5 : Option Value} {w : Value} : mw d 390 Q 135 [some w, x1, x2, x3, x4, x5] (st) h = mv_a w (mw d 390 Q 136 [some w, x1, x2, x3, x4, x5] (w :: st) h) := (mw_at mj_390_135).trans (z_aload_n rfl)
theorem mj_390_136 : mc_P 390 136 = some (.getfield 79, 3, 14, 31, 0) := by decide +kernel
theorem s_390_136 {x0 x1 x2 x3 x4 x5 : Option Value} {o : Nat} : mw d 390 Q 136 [x0, x1, x2, x3, x4, x5] (.ref o :: st) h = (mg h o 14 ∧ mw d 390 Q 139 [x0, x1, x2, x3, x4, x5] (va_rf (mh_r h o 31) :: st) h) := (mw_at mj_390_136).trans (z_getr (by decide) (by decide) rfl)
theorem mj_390_139 : mc_P 390 139 = some (.iload_n 2, 1, 0, 0, 0) := by decide +kernel
theorem s_390_139 {x0 x1 x3 x4 x5 : Option Value} {w : Value} : mw d 390 Q 139 [x0, x1, some w, x3, x4, x5] (st) h = mv_i w (mw d 390 Q 140 [x0, x1, some w, x3, x4, x5] (w :: st) h) := (mw_at mj_390_139).trans (z_iload_n rfl)
theorem mj_390_140 : mc_P 390 140 = some (.iaload, 1, 0, 0, 0) := by decide +kernel
theorem s_390_140 {x0 x1 x2 x3 x4 x5 : Option Value} {o : Nat} {i : Int32} : mw d 390 Q 140 [x0, x1, x2, x3, x4, x5] (.int i :: .ref o :: st) h = (mg h o 100 ∧ mx i (mh_l h o) ∧ mw d 390 Q 141 [x0, x1, x2, x3, x4, x5] (.int (mh_i h o i.toNatClampNeg) :: st) h) := (mw_at mj_390_140).trans (z_iald)
theorem s_390_140x {x0 x1 x2 x3 x4 x5 : Option Value} {i : Int32} : mw d 390 Q 140 [x0, x1, x2, x3, x4, x5] (.int i :: .retAddr 2 :: st) h = (mx i 24 ∧ mw d 390 Q 141 [x0, x1, x2, x3, x4, x5] (.int (mx_row.getD i.toNatClampNeg 0) :: st) h) := (mw_at mj_390_140).trans (z_iaX)
theorem mj_390_141 : mc_P 390 141 = some (.if_icmp .ge 73, 3, 0, 0, 0) := by decide +kernel
theorem s_390_141 {x0 x1 x2 x3 x4 x5 : Option Value} {x w : Int32} : mw d 390 Q 141 [x0, x1, x2, x3, x4, x5] (.int w :: .int x :: st) h = mB (w ≤ x) (mw d 390 Q) 214 144 [x0, x1, x2, x3, x4, x5] st h := (mw_at mj_390_141).trans (z_icmp_ge (by decide) rfl)
theorem mj_390_144 : mc_P 390 144 = some (.aload_n 0, 1, 0, 0, 0) := by decide +kernel
theorem s_390_144 {x1 x2 x3 x4 x5 : Option Value} {w : Value} : mw d 390 Q 144 [some w, x1, x2, x3, x4, x5] (st) h = mv_a w (mw d 390 Q 145 [some w, x1, x2, x3, x4, x5] (w :: st) h) := (mw_at mj_390_144).trans (z_aload_n rfl)
theorem mj_390_145 : mc_P 390 145 = some (.aload_n 3, 1, 0, 0, 0) := by decide +kernel
theorem s_390_145 {x0 x1 x2 x4 x5 : Option Value} {w : Value} : mw d 390 Q 145 [x0, x1, x2, some w, x4, x5] (st) h = mv_a w (mw d 390 Q 146 [x0, x1, x2, some w, x4, x5] (w :: st) h) := (mw_at mj_390_145).trans (z_aload_n rfl)
theorem mj_390_146 : mc_P 390 146 = some (.iload_n 2, 1, 0, 0, 0) := by decide +kernel
theorem s_390_146 {x0 x1 x3 x4 x5 : Option Value} {w : Value} : mw d 390 Q 146 [x0, x1, some w, x3, x4, x5] (st) h = mv_i w (mw d 390 Q 147 [x0, x1, some w, x3, x4, x5] (w :: st) h) := (mw_at mj_390_146).trans (z_iload_n rfl)
theorem mj_390_147 : mc_P 390 147 = some (.iconst 2, 1, 0, 0, 0) := by decide +kernel
theorem s_390_147 {x0 x1 x2 x3 x4 x5 : Option Value} : mw d 390 Q 147 [x0, x1, x2, x3, x4, x5] (st) h = mw d 390 Q 148 [x0, x1, x2, x3, x4, x5] (.int 2 :: st) h := (mw_at mj_390_147).trans (z_iconst (by decide))
theorem mj_390_148 : mc_P 390 148 = some (.iload 4, 2, 0, 0, 0) := by decide +kernel
theorem s_390_148 {x0 x1 x2 x3 x5 : Option Value} {w : Value} : mw d 390 Q 148 [x0, x1, x2, x3, some w, x5] (st) h = mv_i w (mw d 390 Q 150 [x0, x1, x2, x3, some w, x5] (w :: st) h) := (mw_at mj_390_148).trans (z_iload rfl)
theorem mj_390_150 : mc_P 390 150 = some (.imul, 1, 0, 0, 0) := by decide +kernel
theorem s_390_150 {x0 x1 x2 x3 x4 x5 : Option Value} {x w : Int32} : mw d 390 Q 150 [x0, x1, x2, x3, x4, x5] (.int w :: .int x :: st) h = mw d 390 Q 151 [x0, x1, x2, x3, x4, x5] (.int (x * w) :: st) h := (mw_at mj_390_150).trans (z_imul)
theorem mj_390_151 : mc_P 390 151 = some (.iconst 2, 1, 0, 0, 0) := by decide +kernel
theorem s_390_151 {x0 x1 x2 x3 x4 x5 : Option Value} : mw d 390 Q 151 [x0, x1, x2, x3, x4, x5] (st) h = mw d 390 Q 152 [x0, x1, x2, x3, x4, x5] (.int 2 :: st) h := (mw_at mj_390_151).trans (z_iconst (by decide))
theorem mj_390_152 : mc_P 390 152 = some (.iload 5, 2, 0, 0, 0) := by decide +kernel
theorem s_390_152 {x0 x1 x2 x3 x4 : Option Value} {w : Value} : mw d 390 Q 152 [x0, x1, x2, x3, x4, some w] (st) h = mv_i w (mw d 390 Q 154 [x0, x1, x2, x3, x4, some w] (w :: st) h) := (mw_at mj_390_152).trans (z_iload rfl)
theorem mj_390_154 : mc_P 390 154 = some (.imul, 1, 0, 0, 0) := by decide +kernel
theorem s_390_154 {x0 x1 x2 x3 x4 x5 : Option Value} {x w : Int32} : mw d 390 Q 154 [x0, x1, x2, x3, x4, x5] (.int w :: .int x :: st) h = mw d 390 Q 155 [x0, x1, x2, x3, x4, x5] (.int (x * w) :: st) h := (mw_at mj_390_154).trans (z_imul)
theorem mj_390_155 : mc_P 390 155 = some (.invokevirtual 590, 3, 389, 14, 5) := by decide +kernel
theorem s_390_155 {x0 x1 x2 x3 x4 x5 : Option Value} {o : Nat} {a1 a2 a3 a4 : Value} : mw (d + 1) 390 Q 155 [x0, x1, x2, x3, x4, x5] (a4 :: a3 :: a2 :: a1 :: .ref o :: st) h = (mg h o 14 ∧ mca st 8 ∧ mca [.ref o, a1, a2, a3, a4] 5 ∧ mcall d 389 [.ref o, a1, a2, a3, a4] h (mK (d + 1) 390 Q 158 [x0, x1, x2, x3, x4, x5] st)) := (mw_at mj_390_155).trans ((z_invv (As := [a1, a2, a3, a4]) (by decide) rfl rfl).trans (congrArg (And _) (congrArg (And _) (mC_nl nl_389))))
theorem mj_390_158 : mc_P 390 158 = some (.aload_n 0, 1, 0, 0, 0) := by decide +kernel
theorem s_390_158 {x1 x2 x3 x4 x5 : Option Value} {w : Value} : mw d 390 Q 158 [some w, x1, x2, x3, x4, x5] (st) h = mv_a w (mw d 390 Q 159 [some w, x1, x2, x3, x4, x5] (w :: st) h) := (mw_at mj_390_158).trans (z_aload_n rfl)
theorem mj_390_159 : mc_P 390 159 = some (.aload_n 3, 1, 0, 0, 0) := by decide +kernel
theorem s_390_159 {x0 x1 x2 x4 x5 : Option Value} {w : Value} : mw d 390 Q 159 [x0, x1, x2, some w, x4, x5] (st) h = mv_a w (mw d 390 Q 160 [x0, x1, x2, some w, x4, x5] (w :: st) h) := (mw_at mj_390_159).trans (z_aload_n rfl)
theorem mj_390_160 : mc_P 390 160 = some (.iload_n 2, 1, 0, 0, 0) := by decide +kernel
theorem s_390_160 {x0 x1 x3 x4 x5 : Option Value} {w : Value} : mw d 390 Q 160 [x0, x1, some w, x3, x4, x5] (st) h = mv_i w (mw d 390 Q 161 [x0, x1, some w, x3, x4, x5] (w :: st) h) := (mw_at mj_390_160).trans (z_iload_n rfl)
theorem mj_390_161 : mc_P 390 161 = some (.iconst 2, 1, 0, 0, 0) := by decide +kernel
theorem s_390_161 {x0 x1 x2 x3 x4 x5 : Option Value} : mw d 390 Q 161 [x0, x1, x2, x3, x4, x5] (st) h = mw d 390 Q 162 [x0, x1, x2, x3, x4, x5] (.int 2 :: st) h := (mw_at mj_390_161).trans (z_iconst (by decide))
theorem mj_390_162 : mc_P 390 162 = some (.iload 4, 2, 0, 0, 0) := by decide +kernel
theorem s_390_162 {x0 x1 x2 x3 x5 : Option Value} {w : Value} : mw d 390 Q 162 [x0, x1, x2, x3, some w, x5] (st) h = mv_i w (mw d 390 Q 164 [x0, x1, x2, x3, some w, x5] (w :: st) h) := (mw_at mj_390_162).trans (z_iload rfl)
theorem mj_390_164 : mc_P 390 164 = some (.imul, 1, 0, 0, 0) := by decide +kernel
theorem s_390_164 {x0 x1 x2 x3 x4 x5 : Option Value} {x w : Int32} : mw d 390 Q 164 [x0, x1, x2, x3, x4, x5] (.int w :: .int x :: st) h = mw d 390 Q 165 [x0, x1, x2, x3, x4, x5] (.int (x * w) :: st) h := (mw_at mj_390_164).trans (z_imul)
theorem mj_390_165 : mc_P 390 165 = some (.iconst 2, 1, 0, 0, 0) := by decide +kernel
theorem s_390_165 {x0 x1 x2 x3 x4 x5 : Option Value} : mw d 390 Q 165 [x0, x1, x2, x3, x4, x5] (st) h = mw d 390 Q 166 [x0, x1, x2, x3, x4, x5] (.int 2 :: st) h := (mw_at mj_390_165).trans (z_iconst (by decide))
theorem mj_390_166 : mc_P 390 166 = some (.iload 5, 2, 0, 0, 0) := by decide +kernel
theorem s_390_166 {x0 x1 x2 x3 x4 : Option Value} {w : Value} : mw d 390 Q 166 [x0, x1, x2, x3, x4, some w] (st) h = mv_i w (mw d 390 Q 168 [x0, x1, x2, x3, x4, some w] (w :: st) h) := (mw_at mj_390_166).trans (z_iload rfl)
theorem mj_390_168 : mc_P 390 168 = some (.imul, 1, 0, 0, 0) := by decide +kernel
theorem s_390_168 {x0 x1 x2 x3 x4 x5 : Option Value} {x w : Int32} : mw d 390 Q 168 [x0, x1, x2, x3, x4, x5] (.int w :: .int x :: st) h = mw d 390 Q 169 [x0, x1, x2, x3, x4, x5] (.int (x * w) :: st) h := (mw_at mj_390_168).trans (z_imul)
theorem mj_390_169 : mc_P 390 169 = some (.iconst 1, 1, 0, 0, 0) := by decide +kernel
theorem s_390_169 {x0 x1 x2 x3 x4 x5 : Option Value} : mw d 390 Q 169 [x0, x1, x2, x3, x4, x5] (st) h = mw d 390 Q 170 [x0, x1, x2, x3, x4, x5] (.int 1 :: st) h := (mw_at mj_390_169).trans (z_iconst (by decide))
theorem mj_390_170 : mc_P 390 170 = some (.iadd, 1, 0, 0, 0) := by decide +kernel
theorem s_390_170 {x0 x1 x2 x3 x4 x5 : Option Value} {x w : Int32} : mw d 390 Q 170 [x0, x1, x2, x3, x4, x5] (.int w :: .int x :: st) h = mw d 390 Q 171 [x0, x1, x2, x3, x4, x5] (.int (x + w) :: st) h := (mw_at mj_390_170).trans (z_iadd)
theorem mj_390_171 : mc_P 390 171 = some (.invokevirtual 590, 3, 389, 14, 5) := by decide +kernel
theorem s_390_171 {x0 x1 x2 x3 x4 x5 : Option Value} {o : Nat} {a1 a2 a3 a4 : Value} : mw (d + 1) 390 Q 171 [x0, x1, x2, x3, x4, x5] (a4 :: a3 :: a2 :: a1 :: .ref o :: st) h = (mg h o 14 ∧ mca st 8 ∧ mca [.ref o, a1, a2, a3, a4] 5 ∧ mcall d 389 [.ref o, a1, a2, a3, a4] h (mK (d + 1) 390 Q 174 [x0, x1, x2, x3, x4, x5] st)) := (mw_at mj_390_171).trans ((z_invv (As := [a1, a2, a3, a4]) (by decide) rfl rfl).trans (congrArg (And _) (congrArg (And _) (mC_nl nl_389))))
theorem mj_390_174 : mc_P 390 174 = some (.aload_n 0, 1, 0, 0, 0) := by decide +kernel
theorem s_390_174 {x1 x2 x3 x4 x5 : Option Value} {w : Value} : mw d 390 Q 174 [some w, x1, x2, x3, x4, x5] (st) h = mv_a w (mw d 390 Q 175 [some w, x1, x2, x3, x4, x5] (w :: st) h) := (mw_at mj_390_174).trans (z_aload_n rfl)
theorem mj_390_175 : mc_P 390 175 = some (.aload_n 3, 1, 0, 0, 0) := by decide +kernel
theorem s_390_175 {x0 x1 x2 x4 x5 : Option Value} {w : Value} : mw d 390 Q 175 [x0, x1, x2, some w, x4, x5] (st) h = mv_a w (mw d 390 Q 176 [x0, x1, x2, some w, x4, x5] (w :: st) h) := (mw_at mj_390_175).trans (z_aload_n rfl)
theorem mj_390_176 : mc_P 390 176 = some (.iload_n 2, 1, 0, 0, 0) := by decide +kernel
theorem s_390_176 {x0 x1 x3 x4 x5 : Option Value} {w : Value} : mw d 390 Q 176 [x0, x1, some w, x3, x4, x5] (st) h = mv_i w (mw d 390 Q 177 [x0, x1, some w, x3, x4, x5] (w :: st) h) := (mw_at mj_390_176).trans (z_iload_n rfl)
theorem mj_390_177 : mc_P 390 177 = some (.iconst 2, 1, 0, 0, 0) := by decide +kernel
theorem s_390_177 {x0 x1 x2 x3 x4 x5 : Option Value} : mw d 390 Q 177 [x0, x1, x2, x3, x4, x5] (st) h = mw d 390 Q 178 [x0, x1, x2, x3, x4, x5] (.int 2 :: st) h := (mw_at mj_390_177).trans (z_iconst (by decide))
theorem mj_390_178 : mc_P 390 178 = some (.iload 4, 2, 0, 0, 0) := by decide +kernel
theorem s_390_178 {x0 x1 x2 x3 x5 : Option Value} {w : Value} : mw d 390 Q 178 [x0, x1, x2, x3, some w, x5] (st) h = mv_i w (mw d 390 Q 180 [x0, x1, x2, x3, some w, x5] (w :: st) h) := (mw_at mj_390_178).trans (z_iload rfl)
theorem mj_390_180 : mc_P 390 180 = some (.imul, 1, 0, 0, 0) := by decide +kernel
theorem s_390_180 {x0 x1 x2 x3 x4 x5 : Option Value} {x w : Int32} : mw d 390 Q 180 [x0, x1, x2, x3, x4, x5] (.int w :: .int x :: st) h = mw d 390 Q 181 [x0, x1, x2, x3, x4, x5] (.int (x * w) :: st) h := (mw_at mj_390_180).trans (z_imul)
theorem mj_390_181 : mc_P 390 181 = some (.iconst 1, 1, 0, 0, 0) := by decide +kernel
theorem s_390_181 {x0 x1 x2 x3 x4 x5 : Option Value} : mw d 390 Q 181 [x0, x1, x2, x3, x4, x5] (st) h = mw d 390 Q 182 [x0, x1, x2, x3, x4, x5] (.int 1 :: st) h := (mw_at mj_390_181).trans (z_iconst (by decide))
theorem mj_390_182 : mc_P 390 182 = some (.iadd, 1, 0, 0, 0) := by decide +kernel
theorem s_390_182 {x0 x1 x2 x3 x4 x5 : Option Value} {x w : Int32} : mw d 390 Q 182 [x0, x1, x2, x3, x4, x5] (.int w :: .int x :: st) h = mw d 390 Q 183 [x0, x1, x2, x3, x4, x5] (.int (x + w) :: st) h := (mw_at mj_390_182).trans (z_iadd)
theorem mj_390_183 : mc_P 390 183 = some (.iconst 2, 1, 0, 0, 0) := by decide +kernel
theorem s_390_183 {x0 x1 x2 x3 x4 x5 : Option Value} : mw d 390 Q 183 [x0, x1, x2, x3, x4, x5] (st) h = mw d 390 Q 184 [x0, x1, x2, x3, x4, x5] (.int 2 :: st) h := (mw_at mj_390_183).trans (z_iconst (by decide))
theorem mj_390_184 : mc_P 390 184 = some (.iload 5, 2, 0, 0, 0) := by decide +kernel
theorem s_390_184 {x0 x1 x2 x3 x4 : Option Value} {w : Value} : mw d 390 Q 184 [x0, x1, x2, x3, x4, some w] (st) h = mv_i w (mw d 390 Q 186 [x0, x1, x2, x3, x4, some w] (w :: st) h) := (mw_at mj_390_184).trans (z_iload rfl)
theorem mj_390_186 : mc_P 390 186 = some (.imul, 1, 0, 0, 0) := by decide +kernel
theorem s_390_186 {x0 x1 x2 x3 x4 x5 : Option Value} {x w : Int32} : mw d 390 Q 186 [x0, x1, x2, x3, x4, x5] (.int w :: .int x :: st) h = mw d 390 Q 187 [x0, x1, x2, x3, x4, x5] (.int (x * w) :: st) h := (mw_at mj_390_186).trans (z_imul)
theorem mj_390_187 : mc_P 390 187 = some (.invokevirtual 590, 3, 389, 14, 5) := by decide +kernel
theorem s_390_187 {x0 x1 x2 x3 x4 x5 : Option Value} {o : Nat} {a1 a2 a3 a4 : Value} : mw (d + 1) 390 Q 187 [x0, x1, x2, x3, x4, x5] (a4 :: a3 :: a2 :: a1 :: .ref o :: st) h = (mg h o 14 ∧ mca st 8 ∧ mca [.ref o, a1, a2, a3, a4] 5 ∧ mcall d 389 [.ref o, a1, a2, a3, a4] h (mK (d + 1) 390 Q 190 [x0, x1, x2, x3, x4, x5] st)) := (mw_at mj_390_187).trans ((z_invv (As := [a1, a2, a3, a4]) (by decide) rfl rfl).trans (congrArg (And _) (congrArg (And _) (mC_nl nl_389))))
theorem mj_390_190 : mc_P 390 190 = some (.aload_n 0, 1, 0, 0, 0) := by decide +kernel
theorem s_390_190 {x1 x2 x3 x4 x5 : Option Value} {w : Value} : mw d 390 Q 190 [some w, x1, x2, x3, x4, x5] (st) h = mv_a w (mw d 390 Q 191 [some w, x1, x2, x3, x4, x5] (w :: st) h) := (mw_at mj_390_190).trans (z_aload_n rfl)
theorem mj_390_191 : mc_P 390 191 = some (.aload_n 3, 1, 0, 0, 0) := by decide +kernel
theorem s_390_191 {x0 x1 x2 x4 x5 : Option Value} {w : Value} : mw d 390 Q 191 [x0, x1, x2, some w, x4, x5] (st) h = mv_a w (mw d 390 Q 192 [x0, x1, x2, some w, x4, x5] (w :: st) h) := (mw_at mj_390_191).trans (z_aload_n rfl)
theorem mj_390_192 : mc_P 390 192 = some (.iload_n 2, 1, 0, 0, 0) := by decide +kernel
theorem s_390_192 {x0 x1 x3 x4 x5 : Option Value} {w : Value} : mw d 390 Q 192 [x0, x1, some w, x3, x4, x5] (st) h = mv_i w (mw d 390 Q 193 [x0, x1, some w, x3, x4, x5] (w :: st) h) := (mw_at mj_390_192).trans (z_iload_n rfl)
theorem mj_390_193 : mc_P 390 193 = some (.iconst 2, 1, 0, 0, 0) := by decide +kernel
theorem s_390_193 {x0 x1 x2 x3 x4 x5 : Option Value} : mw d 390 Q 193 [x0, x1, x2, x3, x4, x5] (st) h = mw d 390 Q 194 [x0, x1, x2, x3, x4, x5] (.int 2 :: st) h := (mw_at mj_390_193).trans (z_iconst (by decide))
theorem mj_390_194 : mc_P 390 194 = some (.iload 4, 2, 0, 0, 0) := by decide +kernel
theorem s_390_194 {x0 x1 x2 x3 x5 : Option Value} {w : Value} : mw d 390 Q 194 [x0, x1, x2, x3, some w, x5] (st) h = mv_i w (mw d 390 Q 196 [x0, x1, x2, x3, some w, x5] (w :: st) h) := (mw_at mj_390_194).trans (z_iload rfl)
theorem mj_390_196 : mc_P 390 196 = some (.imul, 1, 0, 0, 0) := by decide +kernel
theorem s_390_196 {x0 x1 x2 x3 x4 x5 : Option Value} {x w : Int32} : mw d 390 Q 196 [x0, x1, x2, x3, x4, x5] (.int w :: .int x :: st) h = mw d 390 Q 197 [x0, x1, x2, x3, x4, x5] (.int (x * w) :: st) h := (mw_at mj_390_196).trans (z_imul)
theorem mj_390_197 : mc_P 390 197 = some (.iconst 1, 1, 0, 0, 0) := by decide +kernel
theorem s_390_197 {x0 x1 x2 x3 x4 x5 : Option Value} : mw d 390 Q 197 [x0, x1, x2, x3, x4, x5] (st) h = mw d 390 Q 198 [x0, x1, x2, x3, x4, x5] (.int 1 :: st) h := (mw_at mj_390_197).trans (z_iconst (by decide))
theorem mj_390_198 : mc_P 390 198 = some (.iadd, 1, 0, 0, 0) := by decide +kernel
theorem s_390_198 {x0 x1 x2 x3 x4 x5 : Option Value} {x w : Int32} : mw d 390 Q 198 [x0, x1, x2, x3, x4, x5] (.int w :: .int x :: st) h = mw d 390 Q 199 [x0, x1, x2, x3, x4, x5] (.int (x + w) :: st) h := (mw_at mj_390_198).trans (z_iadd)
theorem mj_390_199 : mc_P 390 199 = some (.iconst 2, 1, 0, 0, 0) := by decide +kernel
theorem s_390_199 {x0 x1 x2 x3 x4 x5 : Option Value} : mw d 390 Q 199 [x0, x1, x2, x3, x4, x5] (st) h = mw d 390 Q 200 [x0, x1, x2, x3, x4, x5] (.int 2 :: st) h := (mw_at mj_390_199).trans (z_iconst (by decide))
theorem mj_390_200 : mc_P 390 200 = some (.iload 5, 2, 0, 0, 0) := by decide +kernel
theorem s_390_200 {x0 x1 x2 x3 x4 : Option Value} {w : Value} : mw d 390 Q 200 [x0, x1, x2, x3, x4, some w] (st) h = mv_i w (mw d 390 Q 202 [x0, x1, x2, x3, x4, some w] (w :: st) h) := (mw_at mj_390_200).trans (z_iload rfl)
theorem mj_390_202 : mc_P 390 202 = some (.imul, 1, 0, 0, 0) := by decide +kernel
theorem s_390_202 {x0 x1 x2 x3 x4 x5 : Option Value} {x w : Int32} : mw d 390 Q 202 [x0, x1, x2, x3, x4, x5] (.int w :: .int x :: st) h = mw d 390 Q 203 [x0, x1, x2, x3, x4, x5] (.int (x * w) :: st) h := (mw_at mj_390_202).trans (z_imul)
theorem mj_390_203 : mc_P 390 203 = some (.iconst 1, 1, 0, 0, 0) := by decide +kernel
theorem s_390_203 {x0 x1 x2 x3 x4 x5 : Option Value} : mw d 390 Q 203 [x0, x1, x2, x3, x4, x5] (st) h = mw d 390 Q 204 [x0, x1, x2, x3, x4, x5] (.int 1 :: st) h := (mw_at mj_390_203).trans (z_iconst (by decide))
theorem mj_390_204 : mc_P 390 204 = some (.iadd, 1, 0, 0, 0) := by decide +kernel
theorem s_390_204 {x0 x1 x2 x3 x4 x5 : Option Value} {x w : Int32} : mw d 390 Q 204 [x0, x1, x2, x3, x4, x5] (.int w :: .int x :: st) h = mw d 390 Q 205 [x0, x1, x2, x3, x4, x5] (.int (x + w) :: st) h := (mw_at mj_390_204).trans (z_iadd)
theorem mj_390_205 : mc_P 390 205 = some (.invokevirtual 590, 3, 389, 14, 5) := by decide +kernel
theorem s_390_205 {x0 x1 x2 x3 x4 x5 : Option Value} {o : Nat} {a1 a2 a3 a4 : Value} : mw (d + 1) 390 Q 205 [x0, x1, x2, x3, x4, x5] (a4 :: a3 :: a2 :: a1 :: .ref o :: st) h = (mg h o 14 ∧ mca st 8 ∧ mca [.ref o, a1, a2, a3, a4] 5 ∧ mcall d 389 [.ref o, a1, a2, a3, a4] h (mK (d + 1) 390 Q 208 [x0, x1, x2, x3, x4, x5] st)) := (mw_at mj_390_205).trans ((z_invv (As := [a1, a2, a3, a4]) (by decide) rfl rfl).trans (congrArg (And _) (congrArg (And _) (mC_nl nl_389))))
theorem mj_390_208 : mc_P 390 208 = some (.iinc 5 1, 3, 0, 0, 0) := by decide +kernel
theorem s_390_208 {x0 x1 x2 x3 x4 : Option Value} {w : Int32} : mw d 390 Q 208 [x0, x1, x2, x3, x4, some (.int w)] (st) h = mw d 390 Q 211 [x0, x1, x2, x3, mk2 x4, some (.int (w + 1))] (st) h := (mw_at mj_390_208).trans (z_iinc rfl (Nat.le_of_ble_eq_true rfl) (by decide) (me_s1_mk (j := 4) (w := x4) rfl))
theorem mj_390_211 : mc_P 390 211 = some (.goto (-78), 3, 0, 0, 0) := by decide +kernel
theorem s_390_211 {x0 x1 x2 x3 x4 x5 : Option Value} : mw d 390 Q 211 [x0, x1, x2, x3, x4, x5] (st) h = mw d 390 Q 133 [x0, x1, x2, x3, x4, x5] (st) h := (mw_at mj_390_211).trans (z_goto (by decide))
theorem mj_390_214 : mc_P 390 214 = some (.iinc 4 1, 3, 0, 0, 0) := by decide +kernel
theorem s_390_214 {x0 x1 x2 x3 x5 : Option Value} {w : Int32} : mw d 390 Q 214 [x0, x1, x2, x3, some (.int w), x5] (st) h = mw d 390 Q 217 [x0, x1, x2, mk2 x3, some (.int (w + 1)), x5] (st) h := (mw_at mj_390_214).trans (z_iinc rfl (Nat.le_of_ble_eq_true rfl) (by decide) (me_s1_mk (j := 3) (w := x3) rfl))
theorem mj_390_217 : mc_P 390 217 = some (.goto (-101), 3, 0, 0, 0) := by decide +kernel
theorem s_390_217 {x0 x1 x2 x3 x4 x5 : Option Value} : mw d 390 Q 217 [x0, x1, x2, x3, x4, x5] (st) h = mw d 390 Q 116 [x0, x1, x2, x3, x4, x5] (st) h := (mw_at mj_390_217).trans (z_goto (by decide))
theorem mj_390_220 : mc_P 390 220 = some (.iconst 0, 1, 0, 0, 0) := by decide +kernel
theorem s_390_220 {x0 x1 x2 x3 x4 x5 : Option Value} : mw d 390 Q 220 [x0, x1, x2, x3, x4, x5] (st) h = mw d 390 Q 221 [x0, x1, x2, x3, x4, x5] (.int 0 :: st) h := (mw_at mj_390_220).trans (z_iconst (by decide))
theorem mj_390_221 : mc_P 390 221 = some (.istore 4, 2, 0, 0, 0) := by decide +kernel
theorem s_390_221 {x0 x1 x2 x3 x4 x5 : Option Value} {w : Int32} : mw d 390 Q 221 [x0, x1, x2, x3, x4, x5] (.int w :: st) h = mw d 390 Q 223 [x0, x1, x2, mk2 x3, some (.int w), x5] (st) h := (mw_at mj_390_221).trans (z_istore (Nat.le_of_ble_eq_true rfl) (me_s1_mk (j := 3) (w := x3) rfl))
theorem mj_390_223 : mc_P 390 223 = some (.iload 4, 2, 0, 0, 0) := by decide +kernel
theorem s_390_223 {x0 x1 x2 x3 x5 : Option Value} {w : Value} : mw d 390 Q 223 [x0, x1, x2, x3, some w, x5] (st) h = mv_i w (mw d 390 Q 225 [x0, x1, x2, x3, some w, x5] (w :: st) h) := (mw_at mj_390_223).trans (z_iload rfl)
theorem mj_390_225 : mc_P 390 225 = some (.aload_n 0, 1, 0, 0, 0) := by decide +kernel
theorem s_390_225 {x1 x2 x3 x4 x5 : Option Value} {w : Value} : mw d 390 Q 225 [some w, x1, x2, x3, x4, x5] (st) h = mv_a w (mw d 390 Q 226 [some w, x1, x2, x3, x4, x5] (w :: st) h) := (mw_at mj_390_225).trans (z_aload_n rfl)
theorem mj_390_226 : mc_P 390 226 = some (.getfield 82, 3, 14, 32, 0) := by decide +kernel
theorem s_390_226 {x0 x1 x2 x3 x4 x5 : Option Value} {o : Nat} : mw d 390 Q 226 [x0, x1, x2, x3, x4, x5] (.ref o :: st) h = (mg h o 14 ∧ mw d 390 Q 229 [x0, x1, x2, x3, x4, x5] (va_rf (mh_r h o 32) :: st) h) := (mw_at mj_390_226).trans (z_getr (by decide) (by decide) rfl)
theorem mj_390_229 : mc_P 390 229 = some (.iload_n 2, 1, 0, 0, 0) := by decide +kernel
theorem s_390_229 {x0 x1 x3 x4 x5 : Option Value} {w : Value} : mw d 390 Q 229 [x0, x1, some w, x3, x4, x5] (st) h = mv_i w (mw d 390 Q 230 [x0, x1, some w, x3, x4, x5] (w :: st) h) := (mw_at mj_390_229).trans (z_iload_n rfl)
theorem mj_390_230 : mc_P 390 230 = some (.iaload, 1, 0, 0, 0) := by decide +kernel
theorem s_390_230 {x0 x1 x2 x3 x4 x5 : Option Value} {o : Nat} {i : Int32} : mw d 390 Q 230 [x0, x1, x2, x3, x4, x5] (.int i :: .ref o :: st) h = (mg h o 100 ∧ mx i (mh_l h o) ∧ mw d 390 Q 231 [x0, x1, x2, x3, x4, x5] (.int (mh_i h o i.toNatClampNeg) :: st) h) := (mw_at mj_390_230).trans (z_iald)
theorem s_390_230x {x0 x1 x2 x3 x4 x5 : Option Value} {i : Int32} : mw d 390 Q 230 [x0, x1, x2, x3, x4, x5] (.int i :: .retAddr 2 :: st) h = (mx i 24 ∧ mw d 390 Q 231 [x0, x1, x2, x3, x4, x5] (.int (mx_row.getD i.toNatClampNeg 0) :: st) h) := (mw_at mj_390_230).trans (z_iaX)
theorem mj_390_231 : mc_P 390 231 = some (.if_icmp .ge 65, 3, 0, 0, 0) := by decide +kernel
theorem s_390_231 {x0 x1 x2 x3 x4 x5 : Option Value} {x w : Int32} : mw d 390 Q 231 [x0, x1, x2, x3, x4, x5] (.int w :: .int x :: st) h = mB (w ≤ x) (mw d 390 Q) 296 234 [x0, x1, x2, x3, x4, x5] st h := (mw_at mj_390_231).trans (z_icmp_ge (by decide) rfl)
theorem mj_390_234 : mc_P 390 234 = some (.aload_n 0, 1, 0, 0, 0) := by decide +kernel
theorem s_390_234 {x1 x2 x3 x4 x5 : Option Value} {w : Value} : mw d 390 Q 234 [some w, x1, x2, x3, x4, x5] (st) h = mv_a w (mw d 390 Q 235 [some w, x1, x2, x3, x4, x5] (w :: st) h) := (mw_at mj_390_234).trans (z_aload_n rfl)
theorem mj_390_235 : mc_P 390 235 = some (.invokevirtual 564, 3, 386, 14, 1) := by decide +kernel
theorem s_390_235 {x0 x1 x2 x3 x4 x5 : Option Value} {o : Nat} : mw (d + 1) 390 Q 235 [x0, x1, x2, x3, x4, x5] (.ref o :: st) h = (mg h o 14 ∧ mca st 8 ∧ mca [.ref o] 1 ∧ mcall d 386 [.ref o] h (mK (d + 1) 390 Q 238 [x0, x1, x2, x3, x4, x5] st)) := (mw_at mj_390_235).trans ((z_invv (As := []) (by decide) rfl rfl).trans (congrArg (And _) (congrArg (And _) (mC_nl nl_386))))
theorem mj_390_238 : mc_P 390 238 = some (.aload_n 0, 1, 0, 0, 0) := by decide +kernel
theorem s_390_238 {x1 x2 x3 x4 x5 : Option Value} {w : Value} : mw d 390 Q 238 [some w, x1, x2, x3, x4, x5] (st) h = mv_a w (mw d 390 Q 239 [some w, x1, x2, x3, x4, x5] (w :: st) h) := (mw_at mj_390_238).trans (z_aload_n rfl)
theorem mj_390_239 : mc_P 390 239 = some (.aload_n 0, 1, 0, 0, 0) := by decide +kernel
theorem s_390_239 {x1 x2 x3 x4 x5 : Option Value} {w : Value} : mw d 390 Q 239 [some w, x1, x2, x3, x4, x5] (st) h = mv_a w (mw d 390 Q 240 [some w, x1, x2, x3, x4, x5] (w :: st) h) := (mw_at mj_390_239).trans (z_aload_n rfl)
theorem mj_390_240 : mc_P 390 240 = some (.getfield 115, 3, 14, 51, 0) := by decide +kernel
theorem s_390_240 {x0 x1 x2 x3 x4 x5 : Option Value} {o : Nat} : mw d 390 Q 240 [x0, x1, x2, x3, x4, x5] (.ref o :: st) h = (mg h o 14 ∧ mw d 390 Q 243 [x0, x1, x2, x3, x4, x5] (va_rf (mh_r h o 51) :: st) h) := (mw_at mj_390_240).trans (z_getr (by decide) (by decide) rfl)
theorem mj_390_243 : mc_P 390 243 = some (.bipush 6, 2, 0, 0, 0) := by decide +kernel
theorem s_390_243 {x0 x1 x2 x3 x4 x5 : Option Value} : mw d 390 Q 243 [x0, x1, x2, x3, x4, x5] (st) h = mw d 390 Q 245 [x0, x1, x2, x3, x4, x5] (.int 6 :: st) h := (mw_at mj_390_243).trans (z_bipush (by decide))
theorem mj_390_245 : mc_P 390 245 = some (.iload_n 2, 1, 0, 0, 0) := by decide +kernel
theorem s_390_245 {x0 x1 x3 x4 x5 : Option Value} {w : Value} : mw d 390 Q 245 [x0, x1, some w, x3, x4, x5] (st) h = mv_i w (mw d 390 Q 246 [x0, x1, some w, x3, x4, x5] (w :: st) h) := (mw_at mj_390_245).trans (z_iload_n rfl)
theorem mj_390_246 : mc_P 390 246 = some (.imul, 1, 0, 0, 0) := by decide +kernel
theorem s_390_246 {x0 x1 x2 x3 x4 x5 : Option Value} {x w : Int32} : mw d 390 Q 246 [x0, x1, x2, x3, x4, x5] (.int w :: .int x :: st) h = mw d 390 Q 247 [x0, x1, x2, x3, x4, x5] (.int (x * w) :: st) h := (mw_at mj_390_246).trans (z_imul)
theorem mj_390_247 : mc_P 390 247 = some (.iload 4, 2, 0, 0, 0) := by decide +kernel
theorem s_390_247 {x0 x1 x2 x3 x5 : Option Value} {w : Value} : mw d 390 Q 247 [x0, x1, x2, x3, some w, x5] (st) h = mv_i w (mw d 390 Q 249 [x0, x1, x2, x3, some w, x5] (w :: st) h) := (mw_at mj_390_247).trans (z_iload rfl)
theorem mj_390_249 : mc_P 390 249 = some (.iadd, 1, 0, 0, 0) := by decide +kernel
theorem s_390_249 {x0 x1 x2 x3 x4 x5 : Option Value} {x w : Int32} : mw d 390 Q 249 [x0, x1, x2, x3, x4, x5] (.int w :: .int x :: st) h = mw d 390 Q 250 [x0, x1, x2, x3, x4, x5] (.int (x + w) :: st) h := (mw_at mj_390_249).trans (z_iadd)
theorem mj_390_250 : mc_P 390 250 = some (.iaload, 1, 0, 0, 0) := by decide +kernel
theorem s_390_250 {x0 x1 x2 x3 x4 x5 : Option Value} {o : Nat} {i : Int32} : mw d 390 Q 250 [x0, x1, x2, x3, x4, x5] (.int i :: .ref o :: st) h = (mg h o 100 ∧ mx i (mh_l h o) ∧ mw d 390 Q 251 [x0, x1, x2, x3, x4, x5] (.int (mh_i h o i.toNatClampNeg) :: st) h) := (mw_at mj_390_250).trans (z_iald)
theorem s_390_250x {x0 x1 x2 x3 x4 x5 : Option Value} {i : Int32} : mw d 390 Q 250 [x0, x1, x2, x3, x4, x5] (.int i :: .retAddr 2 :: st) h = (mx i 24 ∧ mw d 390 Q 251 [x0, x1, x2, x3, x4, x5] (.int (mx_row.getD i.toNatClampNeg 0) :: st) h) := (mw_at mj_390_250).trans (z_iaX)
theorem mj_390_251 : mc_P 390 251 = some (.invokevirtual 567, 3, 387, 14, 2) := by decide +kernel
theorem s_390_251 {x0 x1 x2 x3 x4 x5 : Option Value} {o : Nat} {a1 : Value} : mw (d + 1) 390 Q 251 [x0, x1, x2, x3, x4, x5] (a1 :: .ref o :: st) h = (mg h o 14 ∧ mca st 8 ∧ mca [.ref o, a1] 3 ∧ mcall d 387 [.ref o, a1] h (mK (d + 1) 390 Q 254 [x0, x1, x2, x3, x4, x5] st)) := (mw_at mj_390_251).trans ((z_invv (As := [a1]) (by decide) rfl rfl).trans (congrArg (And _) (congrArg (And _) (mC_nl nl_387))))
theorem mj_390_254 : mc_P 390 254 = some (.aload_n 0, 1, 0, 0, 0) := by decide +kernel
theorem s_390_254 {x1 x2 x3 x4 x5 : Option Value} {w : Value} : mw d 390 Q 254 [some w, x1, x2, x3, x4, x5] (st) h = mv_a w (mw d 390 Q 255 [some w, x1, x2, x3, x4, x5] (w :: st) h) := (mw_at mj_390_254).trans (z_aload_n rfl)
theorem mj_390_255 : mc_P 390 255 = some (.ldc_w 594, 3, 102, 1, 0) := by decide +kernel
theorem s_390_255 {x0 x1 x2 x3 x4 x5 : Option Value} : mw d 390 Q 255 [x0, x1, x2, x3, x4, x5] (st) h = mw d 390 Q 258 [x0, x1, x2, x3, x4, x5] (.retAddr 102 :: st) h := (mw_at mj_390_255).trans (z_ldcW)
theorem mj_390_258 : mc_P 390 258 = some (.invokevirtual 555, 3, 384, 14, 2) := by decide +kernel
theorem s_390_258 {x0 x1 x2 x3 x4 x5 : Option Value} {o : Nat} {a1 : Value} : mw (d + 1) 390 Q 258 [x0, x1, x2, x3, x4, x5] (a1 :: .ref o :: st) h = (mg h o 14 ∧ mca st 8 ∧ mca [.ref o, a1] 3 ∧ mcall d 384 [.ref o, a1] h (mK (d + 1) 390 Q 261 [x0, x1, x2, x3, x4, x5] st)) := (mw_at mj_390_258).trans ((z_invv (As := [a1]) (by decide) rfl rfl).trans (congrArg (And _) (congrArg (And _) (mC_nl nl_384))))
theorem mj_390_261 : mc_P 390 261 = some (.aload_n 0, 1, 0, 0, 0) := by decide +kernel
theorem s_390_261 {x1 x2 x3 x4 x5 : Option Value} {w : Value} : mw d 390 Q 261 [some w, x1, x2, x3, x4, x5] (st) h = mv_a w (mw d 390 Q 262 [some w, x1, x2, x3, x4, x5] (w :: st) h) := (mw_at mj_390_261).trans (z_aload_n rfl)
theorem mj_390_262 : mc_P 390 262 = some (.aload_n 3, 1, 0, 0, 0) := by decide +kernel
theorem s_390_262 {x0 x1 x2 x4 x5 : Option Value} {w : Value} : mw d 390 Q 262 [x0, x1, x2, some w, x4, x5] (st) h = mv_a w (mw d 390 Q 263 [x0, x1, x2, some w, x4, x5] (w :: st) h) := (mw_at mj_390_262).trans (z_aload_n rfl)
theorem mj_390_263 : mc_P 390 263 = some (.getfield 518, 3, 13, 4, 0) := by decide +kernel
theorem s_390_263 {x0 x1 x2 x3 x4 x5 : Option Value} {o : Nat} : mw d 390 Q 263 [x0, x1, x2, x3, x4, x5] (.ref o :: st) h = (mg h o 13 ∧ mw d 390 Q 266 [x0, x1, x2, x3, x4, x5] (va_rf (mh_r h o 4) :: st) h) := (mw_at mj_390_263).trans (z_getr (by decide) (by decide) rfl)
theorem mj_390_266 : mc_P 390 266 = some (.iload 4, 2, 0, 0, 0) := by decide +kernel
theorem s_390_266 {x0 x1 x2 x3 x5 : Option Value} {w : Value} : mw d 390 Q 266 [x0, x1, x2, x3, some w, x5] (st) h = mv_i w (mw d 390 Q 268 [x0, x1, x2, x3, some w, x5] (w :: st) h) := (mw_at mj_390_266).trans (z_iload rfl)
theorem mj_390_268 : mc_P 390 268 = some (.laload, 1, 0, 0, 0) := by decide +kernel
theorem s_390_268 {x0 x1 x2 x3 x4 x5 : Option Value} {o : Nat} {i : Int32} : mw d 390 Q 268 [x0, x1, x2, x3, x4, x5] (.int i :: .ref o :: st) h = (mg h o 101 ∧ mx i (mh_l h o) ∧ mw d 390 Q 269 [x0, x1, x2, x3, x4, x5] (.long (mh_j h o i.toNatClampNeg) :: st) h) := (mw_at mj_390_268).trans (z_lald)
theorem mj_390_269 : mc_P 390 269 = some (.invokevirtual 576, 3, 388, 14, 2) := by decide +kernel
theorem s_390_269 {x0 x1 x2 x3 x4 x5 : Option Value} {o : Nat} {a1 : Value} : mw (d + 1) 390 Q 269 [x0, x1, x2, x3, x4, x5] (a1 :: .ref o :: st) h = (mg h o 14 ∧ mca st 8 ∧ mca [.ref o, a1] 7 ∧ mcall d 388 [.ref o, a1] h (mK (d + 1) 390 Q 272 [x0, x1, x2, x3, x4, x5] st)) := (mw_at mj_390_269).trans ((z_invv (As := [a1]) (by decide) rfl rfl).trans (congrArg (And _) (congrArg (And _) (mC_nl nl_388))))
theorem mj_390_272 : mc_P 390 272 = some (.aload_n 0, 1, 0, 0, 0) := by decide +kernel
theorem s_390_272 {x1 x2 x3 x4 x5 : Option Value} {w : Value} : mw d 390 Q 272 [some w, x1, x2, x3, x4, x5] (st) h = mv_a w (mw d 390 Q 273 [some w, x1, x2, x3, x4, x5] (w :: st) h) := (mw_at mj_390_272).trans (z_aload_n rfl)
theorem mj_390_273 : mc_P 390 273 = some (.ldc_w 585, 3, 99, 1, 0) := by decide +kernel
theorem s_390_273 {x0 x1 x2 x3 x4 x5 : Option Value} : mw d 390 Q 273 [x0, x1, x2, x3, x4, x5] (st) h = mw d 390 Q 276 [x0, x1, x2, x3, x4, x5] (.retAddr 99 :: st) h := (mw_at mj_390_273).trans (z_ldcW)
theorem mj_390_276 : mc_P 390 276 = some (.invokevirtual 555, 3, 384, 14, 2) := by decide +kernel
theorem s_390_276 {x0 x1 x2 x3 x4 x5 : Option Value} {o : Nat} {a1 : Value} : mw (d + 1) 390 Q 276 [x0, x1, x2, x3, x4, x5] (a1 :: .ref o :: st) h = (mg h o 14 ∧ mca st 8 ∧ mca [.ref o, a1] 3 ∧ mcall d 384 [.ref o, a1] h (mK (d + 1) 390 Q 279 [x0, x1, x2, x3, x4, x5] st)) := (mw_at mj_390_276).trans ((z_invv (As := [a1]) (by decide) rfl rfl).trans (congrArg (And _) (congrArg (And _) (mC_nl nl_384))))
theorem mj_390_279 : mc_P 390 279 = some (.aload_n 0, 1, 0, 0, 0) := by decide +kernel
theorem s_390_279 {x1 x2 x3 x4 x5 : Option Value} {w : Value} : mw d 390 Q 279 [some w, x1, x2, x3, x4, x5] (st) h = mv_a w (mw d 390 Q 280 [some w, x1, x2, x3, x4, x5] (w :: st) h) := (mw_at mj_390_279).trans (z_aload_n rfl)
theorem mj_390_280 : mc_P 390 280 = some (.aload_n 3, 1, 0, 0, 0) := by decide +kernel
theorem s_390_280 {x0 x1 x2 x4 x5 : Option Value} {w : Value} : mw d 390 Q 280 [x0, x1, x2, some w, x4, x5] (st) h = mv_a w (mw d 390 Q 281 [x0, x1, x2, some w, x4, x5] (w :: st) h) := (mw_at mj_390_280).trans (z_aload_n rfl)
theorem mj_390_281 : mc_P 390 281 = some (.getfield 515, 3, 13, 5, 0) := by decide +kernel
theorem s_390_281 {x0 x1 x2 x3 x4 x5 : Option Value} {o : Nat} : mw d 390 Q 281 [x0, x1, x2, x3, x4, x5] (.ref o :: st) h = (mg h o 13 ∧ mw d 390 Q 284 [x0, x1, x2, x3, x4, x5] (va_rf (mh_r h o 5) :: st) h) := (mw_at mj_390_281).trans (z_getr (by decide) (by decide) rfl)
theorem mj_390_284 : mc_P 390 284 = some (.iload 4, 2, 0, 0, 0) := by decide +kernel
theorem s_390_284 {x0 x1 x2 x3 x5 : Option Value} {w : Value} : mw d 390 Q 284 [x0, x1, x2, x3, some w, x5] (st) h = mv_i w (mw d 390 Q 286 [x0, x1, x2, x3, some w, x5] (w :: st) h) := (mw_at mj_390_284).trans (z_iload rfl)
theorem mj_390_286 : mc_P 390 286 = some (.laload, 1, 0, 0, 0) := by decide +kernel
theorem s_390_286 {x0 x1 x2 x3 x4 x5 : Option Value} {o : Nat} {i : Int32} : mw d 390 Q 286 [x0, x1, x2, x3, x4, x5] (.int i :: .ref o :: st) h = (mg h o 101 ∧ mx i (mh_l h o) ∧ mw d 390 Q 287 [x0, x1, x2, x3, x4, x5] (.long (mh_j h o i.toNatClampNeg) :: st) h) := (mw_at mj_390_286).trans (z_lald)
theorem mj_390_287 : mc_P 390 287 = some (.invokevirtual 576, 3, 388, 14, 2) := by decide +kernel
theorem s_390_287 {x0 x1 x2 x3 x4 x5 : Option Value} {o : Nat} {a1 : Value} : mw (d + 1) 390 Q 287 [x0, x1, x2, x3, x4, x5] (a1 :: .ref o :: st) h = (mg h o 14 ∧ mca st 8 ∧ mca [.ref o, a1] 7 ∧ mcall d 388 [.ref o, a1] h (mK (d + 1) 390 Q 290 [x0, x1, x2, x3, x4, x5] st)) := (mw_at mj_390_287).trans ((z_invv (As := [a1]) (by decide) rfl rfl).trans (congrArg (And _) (congrArg (And _) (mC_nl nl_388))))
theorem mj_390_290 : mc_P 390 290 = some (.iinc 4 1, 3, 0, 0, 0) := by decide +kernel
theorem s_390_290 {x0 x1 x2 x3 x5 : Option Value} {w : Int32} : mw d 390 Q 290 [x0, x1, x2, x3, some (.int w), x5] (st) h = mw d 390 Q 293 [x0, x1, x2, mk2 x3, some (.int (w + 1)), x5] (st) h := (mw_at mj_390_290).trans (z_iinc rfl (Nat.le_of_ble_eq_true rfl) (by decide) (me_s1_mk (j := 3) (w := x3) rfl))
theorem mj_390_293 : mc_P 390 293 = some (.goto (-70), 3, 0, 0, 0) := by decide +kernel
theorem s_390_293 {x0 x1 x2 x3 x4 x5 : Option Value} : mw d 390 Q 293 [x0, x1, x2, x3, x4, x5] (st) h = mw d 390 Q 223 [x0, x1, x2, x3, x4, x5] (st) h := (mw_at mj_390_293).trans (z_goto (by decide))
theorem mj_390_296 : mc_P 390 296 = some (.aload_n 0, 1, 0, 0, 0) := by decide +kernel
theorem s_390_296 {x1 x2 x3 x4 x5 : Option Value} {w : Value} : mw d 390 Q 296 [some w, x1, x2, x3, x4, x5] (st) h = mv_a w (mw d 390 Q 297 [some w, x1, x2, x3, x4, x5] (w :: st) h) := (mw_at mj_390_296).trans (z_aload_n rfl)
theorem mj_390_297 : mc_P 390 297 = some (.getfield 550, 3, 14, 69, 0) := by decide +kernel
theorem s_390_297 {x0 x1 x2 x3 x4 x5 : Option Value} {o : Nat} : mw d 390 Q 297 [x0, x1, x2, x3, x4, x5] (.ref o :: st) h = (mg h o 14 ∧ mw d 390 Q 300 [x0, x1, x2, x3, x4, x5] (.int (mh_i h o 69) :: st) h) := (mw_at mj_390_297).trans (z_geti (by decide) (by decide) (Or.inl rfl))
theorem mj_390_300 : mc_P 390 300 = some (.ifCond .ne 10, 3, 0, 0, 0) := by decide +kernel
theorem s_390_300 {x0 x1 x2 x3 x4 x5 : Option Value} {x : Int32} : mw d 390 Q 300 [x0, x1, x2, x3, x4, x5] (.int x :: st) h = mB (¬ x = 0) (mw d 390 Q) 310 303 [x0, x1, x2, x3, x4, x5] st h := (mw_at mj_390_300).trans (z_if_ne (by decide) rfl)
theorem mj_390_303 : mc_P 390 303 = some (.aload_n 0, 1, 0, 0, 0) := by decide +kernel
theorem s_390_303 {x1 x2 x3 x4 x5 : Option Value} {w : Value} : mw d 390 Q 303 [some w, x1, x2, x3, x4, x5] (st) h = mv_a w (mw d 390 Q 304 [some w, x1, x2, x3, x4, x5] (w :: st) h) := (mw_at mj_390_303).trans (z_aload_n rfl)
theorem mj_390_304 : mc_P 390 304 = some (.ldc_w 596, 3, 105, 1, 0) := by decide +kernel
theorem s_390_304 {x0 x1 x2 x3 x4 x5 : Option Value} : mw d 390 Q 304 [x0, x1, x2, x3, x4, x5] (st) h = mw d 390 Q 307 [x0, x1, x2, x3, x4, x5] (.retAddr 105 :: st) h := (mw_at mj_390_304).trans (z_ldcW)
theorem mj_390_307 : mc_P 390 307 = some (.invokevirtual 555, 3, 384, 14, 2) := by decide +kernel
theorem s_390_307 {x0 x1 x2 x3 x4 x5 : Option Value} {o : Nat} {a1 : Value} : mw (d + 1) 390 Q 307 [x0, x1, x2, x3, x4, x5] (a1 :: .ref o :: st) h = (mg h o 14 ∧ mca st 8 ∧ mca [.ref o, a1] 3 ∧ mcall d 384 [.ref o, a1] h (mK (d + 1) 390 Q 310 [x0, x1, x2, x3, x4, x5] st)) := (mw_at mj_390_307).trans ((z_invv (As := [a1]) (by decide) rfl rfl).trans (congrArg (And _) (congrArg (And _) (mC_nl nl_384))))
theorem mj_390_310 : mc_P 390 310 = some (.aload_n 0, 1, 0, 0, 0) := by decide +kernel
theorem s_390_310 {x1 x2 x3 x4 x5 : Option Value} {w : Value} : mw d 390 Q 310 [some w, x1, x2, x3, x4, x5] (st) h = mv_a w (mw d 390 Q 311 [some w, x1, x2, x3, x4, x5] (w :: st) h) := (mw_at mj_390_310).trans (z_aload_n rfl)
theorem mj_390_311 : mc_P 390 311 = some (.aload_n 0, 1, 0, 0, 0) := by decide +kernel
theorem s_390_311 {x1 x2 x3 x4 x5 : Option Value} {w : Value} : mw d 390 Q 311 [some w, x1, x2, x3, x4, x5] (st) h = mv_a w (mw d 390 Q 312 [some w, x1, x2, x3, x4, x5] (w :: st) h) := (mw_at mj_390_311).trans (z_aload_n rfl)
theorem mj_390_312 : mc_P 390 312 = some (.getfield 550, 3, 14, 69, 0) := by decide +kernel
theorem s_390_312 {x0 x1 x2 x3 x4 x5 : Option Value} {o : Nat} : mw d 390 Q 312 [x0, x1, x2, x3, x4, x5] (.ref o :: st) h = (mg h o 14 ∧ mw d 390 Q 315 [x0, x1, x2, x3, x4, x5] (.int (mh_i h o 69) :: st) h) := (mw_at mj_390_312).trans (z_geti (by decide) (by decide) (Or.inl rfl))
theorem mj_390_315 : mc_P 390 315 = some (.putfield 598, 3, 14, 57, 0) := by decide +kernel
theorem s_390_315 {x0 x1 x2 x3 x4 x5 : Option Value} {o : Nat} {w : Int32} : mw d 390 Q 315 [x0, x1, x2, x3, x4, x5] (.int w :: .ref o :: st) h = (mg h o 14 ∧ mw d 390 Q 318 [x0, x1, x2, x3, x4, x5] (st) (mh_si h o 57 w)) := (mw_at mj_390_315).trans (z_puti (by decide) (by decide) rfl)
theorem mj_390_318 : mc_P 390 318 = some (.iconst 0, 1, 0, 0, 0) := by decide +kernel
theorem s_390_318 {x0 x1 x2 x3 x4 x5 : Option Value} : mw d 390 Q 318 [x0, x1, x2, x3, x4, x5] (st) h = mw d 390 Q 319 [x0, x1, x2, x3, x4, x5] (.int 0 :: st) h := (mw_at mj_390_318).trans (z_iconst (by decide))
theorem mj_390_319 : mc_P 390 319 = some (.istore 4, 2, 0, 0, 0) := by decide +kernel
theorem s_390_319 {x0 x1 x2 x3 x4 x5 : Option Value} {w : Int32} : mw d 390 Q 319 [x0, x1, x2, x3, x4, x5] (.int w :: st) h = mw d 390 Q 321 [x0, x1, x2, mk2 x3, some (.int w), x5] (st) h := (mw_at mj_390_319).trans (z_istore (Nat.le_of_ble_eq_true rfl) (me_s1_mk (j := 3) (w := x3) rfl))
theorem mj_390_321 : mc_P 390 321 = some (.iload 4, 2, 0, 0, 0) := by decide +kernel
theorem s_390_321 {x0 x1 x2 x3 x5 : Option Value} {w : Value} : mw d 390 Q 321 [x0, x1, x2, x3, some w, x5] (st) h = mv_i w (mw d 390 Q 323 [x0, x1, x2, x3, some w, x5] (w :: st) h) := (mw_at mj_390_321).trans (z_iload rfl)
theorem mj_390_323 : mc_P 390 323 = some (.aload_n 0, 1, 0, 0, 0) := by decide +kernel
theorem s_390_323 {x1 x2 x3 x4 x5 : Option Value} {w : Value} : mw d 390 Q 323 [some w, x1, x2, x3, x4, x5] (st) h = mv_a w (mw d 390 Q 324 [some w, x1, x2, x3, x4, x5] (w :: st) h) := (mw_at mj_390_323).trans (z_aload_n rfl)
theorem mj_390_324 : mc_P 390 324 = some (.getfield 550, 3, 14, 69, 0) := by decide +kernel
theorem s_390_324 {x0 x1 x2 x3 x4 x5 : Option Value} {o : Nat} : mw d 390 Q 324 [x0, x1, x2, x3, x4, x5] (.ref o :: st) h = (mg h o 14 ∧ mw d 390 Q 327 [x0, x1, x2, x3, x4, x5] (.int (mh_i h o 69) :: st) h) := (mw_at mj_390_324).trans (z_geti (by decide) (by decide) (Or.inl rfl))
theorem mj_390_327 : mc_P 390 327 = some (.if_icmp .ge 23, 3, 0, 0, 0) := by decide +kernel
theorem s_390_327 {x0 x1 x2 x3 x4 x5 : Option Value} {x w : Int32} : mw d 390 Q 327 [x0, x1, x2, x3, x4, x5] (.int w :: .int x :: st) h = mB (w ≤ x) (mw d 390 Q) 350 330 [x0, x1, x2, x3, x4, x5] st h := (mw_at mj_390_327).trans (z_icmp_ge (by decide) rfl)
theorem mj_390_330 : mc_P 390 330 = some (.aload_n 0, 1, 0, 0, 0) := by decide +kernel
theorem s_390_330 {x1 x2 x3 x4 x5 : Option Value} {w : Value} : mw d 390 Q 330 [some w, x1, x2, x3, x4, x5] (st) h = mv_a w (mw d 390 Q 331 [some w, x1, x2, x3, x4, x5] (w :: st) h) := (mw_at mj_390_330).trans (z_aload_n rfl)
theorem mj_390_331 : mc_P 390 331 = some (.getfield 132, 3, 14, 56, 0) := by decide +kernel
theorem s_390_331 {x0 x1 x2 x3 x4 x5 : Option Value} {o : Nat} : mw d 390 Q 331 [x0, x1, x2, x3, x4, x5] (.ref o :: st) h = (mg h o 14 ∧ mw d 390 Q 334 [x0, x1, x2, x3, x4, x5] (va_rf (mh_r h o 56) :: st) h) := (mw_at mj_390_331).trans (z_getr (by decide) (by decide) rfl)
theorem mj_390_334 : mc_P 390 334 = some (.iload 4, 2, 0, 0, 0) := by decide +kernel
theorem s_390_334 {x0 x1 x2 x3 x5 : Option Value} {w : Value} : mw d 390 Q 334 [x0, x1, x2, x3, some w, x5] (st) h = mv_i w (mw d 390 Q 336 [x0, x1, x2, x3, some w, x5] (w :: st) h) := (mw_at mj_390_334).trans (z_iload rfl)
theorem mj_390_336 : mc_P 390 336 = some (.aload_n 0, 1, 0, 0, 0) := by decide +kernel
theorem s_390_336 {x1 x2 x3 x4 x5 : Option Value} {w : Value} : mw d 390 Q 336 [some w, x1, x2, x3, x4, x5] (st) h = mv_a w (mw d 390 Q 337 [some w, x1, x2, x3, x4, x5] (w :: st) h) := (mw_at mj_390_336).trans (z_aload_n rfl)
theorem mj_390_337 : mc_P 390 337 = some (.getfield 135, 3, 14, 58, 0) := by decide +kernel
theorem s_390_337 {x0 x1 x2 x3 x4 x5 : Option Value} {o : Nat} : mw d 390 Q 337 [x0, x1, x2, x3, x4, x5] (.ref o :: st) h = (mg h o 14 ∧ mw d 390 Q 340 [x0, x1, x2, x3, x4, x5] (va_rf (mh_r h o 58) :: st) h) := (mw_at mj_390_337).trans (z_getr (by decide) (by decide) rfl)
theorem mj_390_340 : mc_P 390 340 = some (.iload 4, 2, 0, 0, 0) := by decide +kernel
theorem s_390_340 {x0 x1 x2 x3 x5 : Option Value} {w : Value} : mw d 390 Q 340 [x0, x1, x2, x3, some w, x5] (st) h = mv_i w (mw d 390 Q 342 [x0, x1, x2, x3, some w, x5] (w :: st) h) := (mw_at mj_390_340).trans (z_iload rfl)
theorem mj_390_342 : mc_P 390 342 = some (.iaload, 1, 0, 0, 0) := by decide +kernel
theorem s_390_342 {x0 x1 x2 x3 x4 x5 : Option Value} {o : Nat} {i : Int32} : mw d 390 Q 342 [x0, x1, x2, x3, x4, x5] (.int i :: .ref o :: st) h = (mg h o 100 ∧ mx i (mh_l h o) ∧ mw d 390 Q 343 [x0, x1, x2, x3, x4, x5] (.int (mh_i h o i.toNatClampNeg) :: st) h) := (mw_at mj_390_342).trans (z_iald)
theorem s_390_342x {x0 x1 x2 x3 x4 x5 : Option Value} {i : Int32} : mw d 390 Q 342 [x0, x1, x2, x3, x4, x5] (.int i :: .retAddr 2 :: st) h = (mx i 24 ∧ mw d 390 Q 343 [x0, x1, x2, x3, x4, x5] (.int (mx_row.getD i.toNatClampNeg 0) :: st) h) := (mw_at mj_390_342).trans (z_iaX)
theorem mj_390_343 : mc_P 390 343 = some (.iastore, 1, 0, 0, 0) := by decide +kernel
theorem s_390_343 {x0 x1 x2 x3 x4 x5 : Option Value} {o : Nat} {i w : Int32} : mw d 390 Q 343 [x0, x1, x2, x3, x4, x5] (.int w :: .int i :: .ref o :: st) h = (mg h o 100 ∧ mx i (mh_l h o) ∧ mw d 390 Q 344 [x0, x1, x2, x3, x4, x5] (st) (mh_si h o i.toNatClampNeg w)) := (mw_at mj_390_343).trans (z_iast)
theorem mj_390_344 : mc_P 390 344 = some (.iinc 4 1, 3, 0, 0, 0) := by decide +kernel
theorem s_390_344 {x0 x1 x2 x3 x5 : Option Value} {w : Int32} : mw d 390 Q 344 [x0, x1, x2, x3, some (.int w), x5] (st) h = mw d 390 Q 347 [x0, x1, x2, mk2 x3, some (.int (w + 1)), x5] (st) h := (mw_at mj_390_344).trans (z_iinc rfl (Nat.le_of_ble_eq_true rfl) (by decide) (me_s1_mk (j := 3) (w := x3) rfl))
theorem mj_390_347 : mc_P 390 347 = some (.goto (-26), 3, 0, 0, 0) := by decide +kernel
theorem s_390_347 {x0 x1 x2 x3 x4 x5 : Option Value} : mw d 390 Q 347 [x0, x1, x2, x3, x4, x5] (st) h = mw d 390 Q 321 [x0, x1, x2, x3, x4, x5] (st) h := (mw_at mj_390_347).trans (z_goto (by decide))
theorem mj_390_350 : mc_P 390 350 = some (.aload_n 0, 1, 0, 0, 0) := by decide +kernel
theorem s_390_350 {x1 x2 x3 x4 x5 : Option Value} {w : Value} : mw d 390 Q 350 [some w, x1, x2, x3, x4, x5] (st) h = mv_a w (mw d 390 Q 351 [some w, x1, x2, x3, x4, x5] (w :: st) h) := (mw_at mj_390_350).trans (z_aload_n rfl)
theorem mj_390_351 : mc_P 390 351 = some (.getfield 598, 3, 14, 57, 0) := by decide +kernel
theorem s_390_351 {x0 x1 x2 x3 x4 x5 : Option Value} {o : Nat} : mw d 390 Q 351 [x0, x1, x2, x3, x4, x5] (.ref o :: st) h = (mg h o 14 ∧ mw d 390 Q 354 [x0, x1, x2, x3, x4, x5] (.int (mh_i h o 57) :: st) h) := (mw_at mj_390_351).trans (z_geti (by decide) (by decide) (Or.inl rfl))
theorem mj_390_354 : mc_P 390 354 = some (.ireturn, 1, 0, 0, 0) := by decide +kernel
theorem s_390_354 {x0 x1 x2 x3 x4 x5 : Option Value} {x : Int32} : mw d 390 Q 354 [x0, x1, x2, x3, x4, x5] ([.int x]) h = (Q (some (.int x)) h) := (mw_at mj_390_354).trans (z_iret)
theorem e_390 {a0 : Nat} {a1 : Int32} {a2 : Int32} : mcall d 390 [.ref a0, .int a1, .int a2] h Q = mw d 390 Q 0 [some (.ref a0), some (.int a1), some (.int a2), none, none, none] [] h := by
  show mw d 390 Q 0 (me_en (mc_nl 390) _) [] h = _
  rw [nl_390]; rfl

/-! InvariantDeskModel.shown(I)I -/
theorem mj_391_0 : mc_P 391 0 = some (.iload_n 1, 1, 0, 0, 0) := by decide +kernel
theorem s_391_0 {x0 : Option Value} {w : Value} : mw d 391 Q 0 [x0, some w] (st) h = mv_i w (mw d 391 Q 1 [x0, some w] (w :: st) h) := (mw_at mj_391_0).trans (z_iload_n rfl)
theorem mj_391_1 : mc_P 391 1 = some (.ifCond .lt 11, 3, 0, 0, 0) := by decide +kernel
theorem s_391_1 {x0 x1 : Option Value} {x : Int32} : mw d 391 Q 1 [x0, x1] (.int x :: st) h = mB (x < 0) (mw d 391 Q) 12 4 [x0, x1] st h := (mw_at mj_391_1).trans (z_if_lt (by decide) rfl)
theorem mj_391_4 : mc_P 391 4 = some (.iload_n 1, 1, 0, 0, 0) := by decide +kernel
theorem s_391_4 {x0 : Option Value} {w : Value} : mw d 391 Q 4 [x0, some w] (st) h = mv_i w (mw d 391 Q 5 [x0, some w] (w :: st) h) := (mw_at mj_391_4).trans (z_iload_n rfl)
theorem mj_391_5 : mc_P 391 5 = some (.aload_n 0, 1, 0, 0, 0) := by decide +kernel
theorem s_391_5 {x1 : Option Value} {w : Value} : mw d 391 Q 5 [some w, x1] (st) h = mv_a w (mw d 391 Q 6 [some w, x1] (w :: st) h) := (mw_at mj_391_5).trans (z_aload_n rfl)
theorem mj_391_6 : mc_P 391 6 = some (.getfield 598, 3, 14, 57, 0) := by decide +kernel
theorem s_391_6 {x0 x1 : Option Value} {o : Nat} : mw d 391 Q 6 [x0, x1] (.ref o :: st) h = (mg h o 14 ∧ mw d 391 Q 9 [x0, x1] (.int (mh_i h o 57) :: st) h) := (mw_at mj_391_6).trans (z_geti (by decide) (by decide) (Or.inl rfl))
theorem mj_391_9 : mc_P 391 9 = some (.if_icmp .lt 7, 3, 0, 0, 0) := by decide +kernel
theorem s_391_9 {x0 x1 : Option Value} {x w : Int32} : mw d 391 Q 9 [x0, x1] (.int w :: .int x :: st) h = mB (x < w) (mw d 391 Q) 16 12 [x0, x1] st h := (mw_at mj_391_9).trans (z_icmp_lt (by decide) rfl)
theorem mj_391_12 : mc_P 391 12 = some (.iconst (-1), 1, 0, 0, 0) := by decide +kernel
theorem s_391_12 {x0 x1 : Option Value} : mw d 391 Q 12 [x0, x1] (st) h = mw d 391 Q 13 [x0, x1] (.int (-1) :: st) h := (mw_at mj_391_12).trans (z_iconst (by decide))
theorem mj_391_13 : mc_P 391 13 = some (.goto 9, 3, 0, 0, 0) := by decide +kernel
theorem s_391_13 {x0 x1 : Option Value} : mw d 391 Q 13 [x0, x1] (st) h = mw d 391 Q 22 [x0, x1] (st) h := (mw_at mj_391_13).trans (z_goto (by decide))
theorem mj_391_16 : mc_P 391 16 = some (.aload_n 0, 1, 0, 0, 0) := by decide +kernel
theorem s_391_16 {x1 : Option Value} {w : Value} : mw d 391 Q 16 [some w, x1] (st) h = mv_a w (mw d 391 Q 17 [some w, x1] (w :: st) h) := (mw_at mj_391_16).trans (z_aload_n rfl)
theorem mj_391_17 : mc_P 391 17 = some (.getfield 132, 3, 14, 56, 0) := by decide +kernel
theorem s_391_17 {x0 x1 : Option Value} {o : Nat} : mw d 391 Q 17 [x0, x1] (.ref o :: st) h = (mg h o 14 ∧ mw d 391 Q 20 [x0, x1] (va_rf (mh_r h o 56) :: st) h) := (mw_at mj_391_17).trans (z_getr (by decide) (by decide) rfl)
theorem mj_391_20 : mc_P 391 20 = some (.iload_n 1, 1, 0, 0, 0) := by decide +kernel
theorem s_391_20 {x0 : Option Value} {w : Value} : mw d 391 Q 20 [x0, some w] (st) h = mv_i w (mw d 391 Q 21 [x0, some w] (w :: st) h) := (mw_at mj_391_20).trans (z_iload_n rfl)
theorem mj_391_21 : mc_P 391 21 = some (.iaload, 1, 0, 0, 0) := by decide +kernel
theorem s_391_21 {x0 x1 : Option Value} {o : Nat} {i : Int32} : mw d 391 Q 21 [x0, x1] (.int i :: .ref o :: st) h = (mg h o 100 ∧ mx i (mh_l h o) ∧ mw d 391 Q 22 [x0, x1] (.int (mh_i h o i.toNatClampNeg) :: st) h) := (mw_at mj_391_21).trans (z_iald)
theorem mj_391_22 : mc_P 391 22 = some (.ireturn, 1, 0, 0, 0) := by decide +kernel
theorem s_391_22 {x0 x1 : Option Value} {x : Int32} : mw d 391 Q 22 [x0, x1] ([.int x]) h = (Q (some (.int x)) h) := (mw_at mj_391_22).trans (z_iret)
theorem e_391 {a0 : Nat} {a1 : Int32} : mcall d 391 [.ref a0, .int a1] h Q = mw d 391 Q 0 [some (.ref a0), some (.int a1)] [] h := by
  show mw d 391 Q 0 (me_en (mc_nl 391) _) [] h = _
  rw [nl_391]; rfl

/-! java/util/Arrays.copyOf([BI)[B -/
theorem mj_392_0 : mc_P 392 0 = some (.iload_n 1, 1, 0, 0, 0) := by decide +kernel
theorem s_392_0 {x0 x2 : Option Value} {w : Value} : mw d 392 Q 0 [x0, some w, x2] (st) h = mv_i w (mw d 392 Q 1 [x0, some w, x2] (w :: st) h) := (mw_at mj_392_0).trans (z_iload_n rfl)
theorem mj_392_1 : mc_P 392 1 = some (.aload_n 0, 1, 0, 0, 0) := by decide +kernel
theorem s_392_1 {x1 x2 : Option Value} {w : Value} : mw d 392 Q 1 [some w, x1, x2] (st) h = mv_a w (mw d 392 Q 2 [some w, x1, x2] (w :: st) h) := (mw_at mj_392_1).trans (z_aload_n rfl)
theorem mj_392_2 : mc_P 392 2 = some (.arraylength, 1, 0, 0, 0) := by decide +kernel
theorem s_392_2 {x0 x1 x2 : Option Value} {o : Nat} : mw d 392 Q 2 [x0, x1, x2] (.ref o :: st) h = (mga h o ∧ mw d 392 Q 3 [x0, x1, x2] (.int (Int32.ofNat (mh_l h o)) :: st) h) := (mw_at mj_392_2).trans (z_alen)
theorem s_392_2x {x0 x1 x2 : Option Value} {x : Nat} : mw d 392 Q 2 [x0, x1, x2] (.retAddr x :: st) h = (me_xb x = true ∧ mw d 392 Q 3 [x0, x1, x2] (.int (Int32.ofNat (mx_len.getD (x / 3 - 1) 0)) :: st) h) := (mw_at mj_392_2).trans (z_alenX)
theorem mj_392_3 : mc_P 392 3 = some (.if_icmp .ne 11, 3, 0, 0, 0) := by decide +kernel
theorem s_392_3 {x0 x1 x2 : Option Value} {x w : Int32} : mw d 392 Q 3 [x0, x1, x2] (.int w :: .int x :: st) h = mB (¬ x = w) (mw d 392 Q) 14 6 [x0, x1, x2] st h := (mw_at mj_392_3).trans (z_icmp_ne (by decide) rfl)
theorem mj_392_6 : mc_P 392 6 = some (.aload_n 0, 1, 0, 0, 0) := by decide +kernel
theorem s_392_6 {x1 x2 : Option Value} {w : Value} : mw d 392 Q 6 [some w, x1, x2] (st) h = mv_a w (mw d 392 Q 7 [some w, x1, x2] (w :: st) h) := (mw_at mj_392_6).trans (z_aload_n rfl)
theorem mj_392_7 : mc_P 392 7 = some (.invokevirtual 310, 3, 0, 91, 0) := by decide +kernel
theorem s_392_7 {x0 x1 x2 : Option Value} {o : Nat} : mw d 392 Q 7 [x0, x1, x2] (.ref o :: st) h = (mg h o 102 ∧ me_bf h o = true ∧ mca st 8 ∧ mw d 392 Q 10 [x0, x1, x2] (.ref (mh_n h) :: st) (mh_cl h o)) := (mw_at mj_392_7).trans (z_clone)
theorem mj_392_10 : mc_P 392 10 = some (.checkcast 311, 3, 102, 0, 0) := by decide +kernel
theorem s_392_10 {x0 x1 x2 : Option Value} {o : Nat} : mw d 392 Q 10 [x0, x1, x2] (.ref o :: st) h = (mg h o 102 ∧ mw d 392 Q 13 [x0, x1, x2] (.ref o :: st) h) := (mw_at mj_392_10).trans (z_cast)
theorem mj_392_13 : mc_P 392 13 = some (.areturn, 1, 0, 0, 0) := by decide +kernel
theorem s_392_13 {x0 x1 x2 : Option Value} {x : Nat} : mw d 392 Q 13 [x0, x1, x2] ([.ref x]) h = Q (some (.ref x)) h := (mw_at mj_392_13).trans (z_aret)
theorem s_392_13n {x0 x1 x2 : Option Value} : mw d 392 Q 13 [x0, x1, x2] ([.null]) h = Q (some .null) h := (mw_at mj_392_13).trans (z_aretN)
theorem mj_392_14 : mc_P 392 14 = some (.iload_n 1, 1, 0, 0, 0) := by decide +kernel
theorem s_392_14 {x0 x2 : Option Value} {w : Value} : mw d 392 Q 14 [x0, some w, x2] (st) h = mv_i w (mw d 392 Q 15 [x0, some w, x2] (w :: st) h) := (mw_at mj_392_14).trans (z_iload_n rfl)
theorem mj_392_15 : mc_P 392 15 = some (.newarray .byte, 2, 102, 0, 0) := by decide +kernel
theorem s_392_15 {x0 x1 x2 : Option Value} {i : Int32} : mw d 392 Q 15 [x0, x1, x2] (.int i :: st) h = (mN i ∧ mw d 392 Q 17 [x0, x1, x2] (.ref (mh_n h) :: st) (mh_new h 102 i.toNatClampNeg)) := (mw_at mj_392_15).trans (z_newa (by decide) (by decide))
theorem mj_392_17 : mc_P 392 17 = some (.astore_n 2, 1, 0, 0, 0) := by decide +kernel
theorem s_392_17 {x0 x1 x2 : Option Value} {w : Nat} : mw d 392 Q 17 [x0, x1, x2] (.ref w :: st) h = mw d 392 Q 18 [x0, mk2 x1, some (.ref w)] (st) h := (mw_at mj_392_17).trans (z_astore_n (Nat.le_of_ble_eq_true rfl) (me_s1_mk (j := 1) (w := x1) rfl))
theorem s_392_17n {x0 x1 x2 : Option Value} : mw d 392 Q 17 [x0, x1, x2] (.null :: st) h = mw d 392 Q 18 [x0, mk2 x1, some (.null)] (st) h := (mw_at mj_392_17).trans (z_astoreN_n (Nat.le_of_ble_eq_true rfl) (me_s1_mk (j := 1) (w := x1) rfl))
theorem s_392_17x {x0 x1 x2 : Option Value} {w : Nat} : mw d 392 Q 17 [x0, x1, x2] (.retAddr w :: st) h = mw d 392 Q 18 [x0, mk2 x1, some (.retAddr w)] (st) h := (mw_at mj_392_17).trans (z_astoreX_n (Nat.le_of_ble_eq_true rfl) (me_s1_mk (j := 1) (w := x1) rfl))
theorem mj_392_18 : mc_P 392 18 = some (.aload_n 0, 1, 0, 0, 0) := by decide +kernel
theorem s_392_18 {x1 x2 : Option Value} {w : Value} : mw d 392 Q 18 [some w, x1, x2] (st) h = mv_a w (mw d 392 Q 19 [some w, x1, x2] (w :: st) h) := (mw_at mj_392_18).trans (z_aload_n rfl)
theorem mj_392_19 : mc_P 392 19 = some (.iconst 0, 1, 0, 0, 0) := by decide +kernel
theorem s_392_19 {x0 x1 x2 : Option Value} : mw d 392 Q 19 [x0, x1, x2] (st) h = mw d 392 Q 20 [x0, x1, x2] (.int 0 :: st) h := (mw_at mj_392_19).trans (z_iconst (by decide))
theorem mj_392_20 : mc_P 392 20 = some (.aload_n 2, 1, 0, 0, 0) := by decide +kernel
theorem s_392_20 {x0 x1 : Option Value} {w : Value} : mw d 392 Q 20 [x0, x1, some w] (st) h = mv_a w (mw d 392 Q 21 [x0, x1, some w] (w :: st) h) := (mw_at mj_392_20).trans (z_aload_n rfl)
theorem mj_392_21 : mc_P 392 21 = some (.iconst 0, 1, 0, 0, 0) := by decide +kernel
theorem s_392_21 {x0 x1 x2 : Option Value} : mw d 392 Q 21 [x0, x1, x2] (st) h = mw d 392 Q 22 [x0, x1, x2] (.int 0 :: st) h := (mw_at mj_392_21).trans (z_iconst (by decide))
theorem mj_392_22 : mc_P 392 22 = some (.aload_n 0, 1, 0, 0, 0) := by decide +kernel
theorem s_392_22 {x1 x2 : Option Value} {w : Value} : mw d 392 Q 22 [some w, x1, x2] (st) h = mv_a w (mw d 392 Q 23 [some w, x1, x2] (w :: st) h) := (mw_at mj_392_22).trans (z_aload_n rfl)
theorem mj_392_23 : mc_P 392 23 = some (.arraylength, 1, 0, 0, 0) := by decide +kernel
theorem s_392_23 {x0 x1 x2 : Option Value} {o : Nat} : mw d 392 Q 23 [x0, x1, x2] (.ref o :: st) h = (mga h o ∧ mw d 392 Q 24 [x0, x1, x2] (.int (Int32.ofNat (mh_l h o)) :: st) h) := (mw_at mj_392_23).trans (z_alen)
theorem s_392_23x {x0 x1 x2 : Option Value} {x : Nat} : mw d 392 Q 23 [x0, x1, x2] (.retAddr x :: st) h = (me_xb x = true ∧ mw d 392 Q 24 [x0, x1, x2] (.int (Int32.ofNat (mx_len.getD (x / 3 - 1) 0)) :: st) h) := (mw_at mj_392_23).trans (z_alenX)
theorem mj_392_24 : mc_P 392 24 = some (.iload_n 1, 1, 0, 0, 0) := by decide +kernel
theorem s_392_24 {x0 x2 : Option Value} {w : Value} : mw d 392 Q 24 [x0, some w, x2] (st) h = mv_i w (mw d 392 Q 25 [x0, some w, x2] (w :: st) h) := (mw_at mj_392_24).trans (z_iload_n rfl)
theorem mj_392_25 : mc_P 392 25 = some (.invokestatic 304, 3, 0, 20, 0) := by decide +kernel
theorem s_392_25 {x0 x1 x2 : Option Value} {x w : Int32} : mw d 392 Q 25 [x0, x1, x2] (.int w :: .int x :: st) h = (mca st 8 ∧ mw d 392 Q 28 [x0, x1, x2] (.int (if w < x then w else x) :: st) h) := (mw_at mj_392_25).trans (z_min)
theorem mj_392_28 : mc_P 392 28 = some (.invokestatic 150, 3, 0, 30, 0) := by decide +kernel
theorem s_392_28 {x0 x1 x2 : Option Value} {o dd : Nat} {sp dp n : Int32} : mw d 392 Q 28 [x0, x1, x2] (.int n :: .int dp :: .ref dd :: .int sp :: .ref o :: st) h = (me_cpok h o dd sp dp n = true ∧ mca st 8 ∧ mw d 392 Q 31 [x0, x1, x2] (st) (mh_cp h o sp.toNatClampNeg dd dp.toNatClampNeg n.toNatClampNeg)) := (mw_at mj_392_28).trans (z_copy)
theorem mj_392_31 : mc_P 392 31 = some (.aload_n 2, 1, 0, 0, 0) := by decide +kernel
theorem s_392_31 {x0 x1 : Option Value} {w : Value} : mw d 392 Q 31 [x0, x1, some w] (st) h = mv_a w (mw d 392 Q 32 [x0, x1, some w] (w :: st) h) := (mw_at mj_392_31).trans (z_aload_n rfl)
theorem mj_392_32 : mc_P 392 32 = some (.areturn, 1, 0, 0, 0) := by decide +kernel
theorem s_392_32 {x0 x1 x2 : Option Value} {x : Nat} : mw d 392 Q 32 [x0, x1, x2] ([.ref x]) h = Q (some (.ref x)) h := (mw_at mj_392_32).trans (z_aret)
theorem s_392_32n {x0 x1 x2 : Option Value} : mw d 392 Q 32 [x0, x1, x2] ([.null]) h = Q (some .null) h := (mw_at mj_392_32).trans (z_aretN)
theorem e_392 {a0 : Nat} {a1 : Int32} : mcall d 392 [.ref a0, .int a1] h Q = mw d 392 Q 0 [some (.ref a0), some (.int a1), none] [] h := by
  show mw d 392 Q 0 (me_en (mc_nl 392) _) [] h = _
  rw [nl_392]; rfl

/-! java/lang/String.length()I -/
theorem mj_394_0 : mc_P 394 0 = some (.aload_n 0, 1, 0, 0, 0) := by decide +kernel
theorem s_394_0 {w : Value} : mw d 394 Q 0 [some w] (st) h = mv_a w (mw d 394 Q 1 [some w] (w :: st) h) := (mw_at mj_394_0).trans (z_aload_n rfl)
theorem mj_394_1 : mc_P 394 1 = some (.getfield 9, 3, 90, 1, 0) := by decide +kernel
theorem s_394_1 {x0 : Option Value} {x : Nat} : mw d 394 Q 1 [x0] (.retAddr x :: st) h = (me_xs x = true ∧ mw d 394 Q 4 [x0] (.retAddr (x + 1) :: st) h) := (mw_at mj_394_1).trans (z_getx (by decide) rfl)
theorem mj_394_4 : mc_P 394 4 = some (.arraylength, 1, 0, 0, 0) := by decide +kernel
theorem s_394_4 {x0 : Option Value} {o : Nat} : mw d 394 Q 4 [x0] (.ref o :: st) h = (mga h o ∧ mw d 394 Q 5 [x0] (.int (Int32.ofNat (mh_l h o)) :: st) h) := (mw_at mj_394_4).trans (z_alen)
theorem s_394_4x {x0 : Option Value} {x : Nat} : mw d 394 Q 4 [x0] (.retAddr x :: st) h = (me_xb x = true ∧ mw d 394 Q 5 [x0] (.int (Int32.ofNat (mx_len.getD (x / 3 - 1) 0)) :: st) h) := (mw_at mj_394_4).trans (z_alenX)
theorem mj_394_5 : mc_P 394 5 = some (.aload_n 0, 1, 0, 0, 0) := by decide +kernel
theorem s_394_5 {w : Value} : mw d 394 Q 5 [some w] (st) h = mv_a w (mw d 394 Q 6 [some w] (w :: st) h) := (mw_at mj_394_5).trans (z_aload_n rfl)
theorem mj_394_6 : mc_P 394 6 = some (.invokevirtual 335, 3, 395, 90, 1) := by decide +kernel
theorem s_394_6 {x0 : Option Value} {o : Nat} : mw (d + 1) 394 Q 6 [x0] (.retAddr o :: st) h = (me_xs o = true ∧ mca st 8 ∧ mca [.retAddr o] 1 ∧ mcall d 395 [.retAddr o] h (mK (d + 1) 394 Q 9 [x0] st)) := (mw_at mj_394_6).trans ((z_invx (As := []) rfl rfl).trans (congrArg (And _) (congrArg (And _) (mC_nl nl_395))))
theorem mj_394_9 : mc_P 394 9 = some (.ishr, 1, 0, 0, 0) := by decide +kernel
theorem s_394_9 {x0 : Option Value} {x w : Int32} : mw d 394 Q 9 [x0] (.int w :: .int x :: st) h = mw d 394 Q 10 [x0] (.int (x >>> (w &&& 31)) :: st) h := (mw_at mj_394_9).trans (z_ishr)
theorem mj_394_10 : mc_P 394 10 = some (.ireturn, 1, 0, 0, 0) := by decide +kernel
theorem s_394_10 {x0 : Option Value} {x : Int32} : mw d 394 Q 10 [x0] ([.int x]) h = (Q (some (.int x)) h) := (mw_at mj_394_10).trans (z_iret)
theorem e_394 {a0 : Nat} : mcall d 394 [.retAddr a0] h Q = mw d 394 Q 0 [some (.retAddr a0)] [] h := by
  show mw d 394 Q 0 (me_en (mc_nl 394) _) [] h = _
  rw [nl_394]; rfl

/-! java/lang/String.coder()B -/
theorem mj_395_0 : mc_P 395 0 = some (.getstatic 38, 3, 0, 1, 1) := by decide +kernel
theorem s_395_0 {x0 : Option Value} : mw d 395 Q 0 [x0] (st) h = mw d 395 Q 3 [x0] (.int 1 :: st) h := (mw_at mj_395_0).trans (z_gets1 (by decide))
theorem mj_395_3 : mc_P 395 3 = some (.ifCond .eq 10, 3, 0, 0, 0) := by decide +kernel
theorem s_395_3 {x0 : Option Value} {x : Int32} : mw d 395 Q 3 [x0] (.int x :: st) h = mB (x = 0) (mw d 395 Q) 13 6 [x0] st h := (mw_at mj_395_3).trans (z_if_eq (by decide) rfl)
theorem mj_395_6 : mc_P 395 6 = some (.aload_n 0, 1, 0, 0, 0) := by decide +kernel
theorem s_395_6 {w : Value} : mw d 395 Q 6 [some w] (st) h = mv_a w (mw d 395 Q 7 [some w] (w :: st) h) := (mw_at mj_395_6).trans (z_aload_n rfl)
theorem mj_395_7 : mc_P 395 7 = some (.getfield 15, 3, 90, 0, 0) := by decide +kernel
theorem s_395_7 {x0 : Option Value} {x : Nat} : mw d 395 Q 7 [x0] (.retAddr x :: st) h = (me_xs x = true ∧ mw d 395 Q 10 [x0] (.int 0 :: st) h) := (mw_at mj_395_7).trans (z_getx (by decide) rfl)
theorem mj_395_10 : mc_P 395 10 = some (.goto 4, 3, 0, 0, 0) := by decide +kernel
theorem s_395_10 {x0 : Option Value} : mw d 395 Q 10 [x0] (st) h = mw d 395 Q 14 [x0] (st) h := (mw_at mj_395_10).trans (z_goto (by decide))
theorem mj_395_13 : mc_P 395 13 = some (.iconst 1, 1, 0, 0, 0) := by decide +kernel
theorem s_395_13 {x0 : Option Value} : mw d 395 Q 13 [x0] (st) h = mw d 395 Q 14 [x0] (.int 1 :: st) h := (mw_at mj_395_13).trans (z_iconst (by decide))
theorem mj_395_14 : mc_P 395 14 = some (.ireturn, 1, 0, 5, 0) := by decide +kernel
theorem s_395_14 {x0 : Option Value} {x : Int32} : mw d 395 Q 14 [x0] ([.int x]) h = (narrow .byte (.int x) = .int x ∧ Q (some (.int x)) h) := (mw_at mj_395_14).trans (z_bret)
theorem e_395 {a0 : Nat} : mcall d 395 [.retAddr a0] h Q = mw d 395 Q 0 [some (.retAddr a0)] [] h := by
  show mw d 395 Q 0 (me_en (mc_nl 395) _) [] h = _
  rw [nl_395]; rfl

/-! java/lang/String.isLatin1()Z -/
theorem mj_396_0 : mc_P 396 0 = some (.getstatic 38, 3, 0, 1, 1) := by decide +kernel
theorem s_396_0 {x0 : Option Value} : mw d 396 Q 0 [x0] (st) h = mw d 396 Q 3 [x0] (.int 1 :: st) h := (mw_at mj_396_0).trans (z_gets1 (by decide))
theorem mj_396_3 : mc_P 396 3 = some (.ifCond .eq 14, 3, 0, 0, 0) := by decide +kernel
theorem s_396_3 {x0 : Option Value} {x : Int32} : mw d 396 Q 3 [x0] (.int x :: st) h = mB (x = 0) (mw d 396 Q) 17 6 [x0] st h := (mw_at mj_396_3).trans (z_if_eq (by decide) rfl)
theorem mj_396_6 : mc_P 396 6 = some (.aload_n 0, 1, 0, 0, 0) := by decide +kernel
theorem s_396_6 {w : Value} : mw d 396 Q 6 [some w] (st) h = mv_a w (mw d 396 Q 7 [some w] (w :: st) h) := (mw_at mj_396_6).trans (z_aload_n rfl)
theorem mj_396_7 : mc_P 396 7 = some (.getfield 15, 3, 90, 0, 0) := by decide +kernel
theorem s_396_7 {x0 : Option Value} {x : Nat} : mw d 396 Q 7 [x0] (.retAddr x :: st) h = (me_xs x = true ∧ mw d 396 Q 10 [x0] (.int 0 :: st) h) := (mw_at mj_396_7).trans (z_getx (by decide) rfl)
theorem mj_396_10 : mc_P 396 10 = some (.ifCond .ne 7, 3, 0, 0, 0) := by decide +kernel
theorem s_396_10 {x0 : Option Value} {x : Int32} : mw d 396 Q 10 [x0] (.int x :: st) h = mB (¬ x = 0) (mw d 396 Q) 17 13 [x0] st h := (mw_at mj_396_10).trans (z_if_ne (by decide) rfl)
theorem mj_396_13 : mc_P 396 13 = some (.iconst 1, 1, 0, 0, 0) := by decide +kernel
theorem s_396_13 {x0 : Option Value} : mw d 396 Q 13 [x0] (st) h = mw d 396 Q 14 [x0] (.int 1 :: st) h := (mw_at mj_396_13).trans (z_iconst (by decide))
theorem mj_396_14 : mc_P 396 14 = some (.goto 4, 3, 0, 0, 0) := by decide +kernel
theorem s_396_14 {x0 : Option Value} : mw d 396 Q 14 [x0] (st) h = mw d 396 Q 18 [x0] (st) h := (mw_at mj_396_14).trans (z_goto (by decide))
theorem mj_396_17 : mc_P 396 17 = some (.iconst 0, 1, 0, 0, 0) := by decide +kernel
theorem s_396_17 {x0 : Option Value} : mw d 396 Q 17 [x0] (st) h = mw d 396 Q 18 [x0] (.int 0 :: st) h := (mw_at mj_396_17).trans (z_iconst (by decide))
theorem mj_396_18 : mc_P 396 18 = some (.ireturn, 1, 0, 3, 0) := by decide +kernel
theorem s_396_18 {x0 : Option Value} {x : Int32} : mw d 396 Q 18 [x0] ([.int x]) h = ((x = 0 ∨ x = 1) ∧ Q (some (.int x)) h) := (mw_at mj_396_18).trans (z_zret)
theorem e_396 {a0 : Nat} : mcall d 396 [.retAddr a0] h Q = mw d 396 Q 0 [some (.retAddr a0)] [] h := by
  show mw d 396 Q 0 (me_en (mc_nl 396) _) [] h = _
  rw [nl_396]; rfl

/-! java/lang/String.charAt(I)C -/
theorem mj_397_0 : mc_P 397 0 = some (.aload_n 0, 1, 0, 0, 0) := by decide +kernel
theorem s_397_0 {x1 : Option Value} {w : Value} : mw d 397 Q 0 [some w, x1] (st) h = mv_a w (mw d 397 Q 1 [some w, x1] (w :: st) h) := (mw_at mj_397_0).trans (z_aload_n rfl)
theorem mj_397_1 : mc_P 397 1 = some (.invokevirtual 492, 3, 396, 90, 1) := by decide +kernel
theorem s_397_1 {x0 x1 : Option Value} {o : Nat} : mw (d + 1) 397 Q 1 [x0, x1] (.retAddr o :: st) h = (me_xs o = true ∧ mca st 8 ∧ mca [.retAddr o] 1 ∧ mcall d 396 [.retAddr o] h (mK (d + 1) 397 Q 4 [x0, x1] st)) := (mw_at mj_397_1).trans ((z_invx (As := []) rfl rfl).trans (congrArg (And _) (congrArg (And _) (mC_nl nl_396))))
theorem mj_397_4 : mc_P 397 4 = some (.ifCond .eq 12, 3, 0, 0, 0) := by decide +kernel
theorem s_397_4 {x0 x1 : Option Value} {x : Int32} : mw d 397 Q 4 [x0, x1] (.int x :: st) h = mB (x = 0) (mw d 397 Q) 16 7 [x0, x1] st h := (mw_at mj_397_4).trans (z_if_eq (by decide) rfl)
theorem mj_397_7 : mc_P 397 7 = some (.aload_n 0, 1, 0, 0, 0) := by decide +kernel
theorem s_397_7 {x1 : Option Value} {w : Value} : mw d 397 Q 7 [some w, x1] (st) h = mv_a w (mw d 397 Q 8 [some w, x1] (w :: st) h) := (mw_at mj_397_7).trans (z_aload_n rfl)
theorem mj_397_8 : mc_P 397 8 = some (.getfield 9, 3, 90, 1, 0) := by decide +kernel
theorem s_397_8 {x0 x1 : Option Value} {x : Nat} : mw d 397 Q 8 [x0, x1] (.retAddr x :: st) h = (me_xs x = true ∧ mw d 397 Q 11 [x0, x1] (.retAddr (x + 1) :: st) h) := (mw_at mj_397_8).trans (z_getx (by decide) rfl)
theorem mj_397_11 : mc_P 397 11 = some (.iload_n 1, 1, 0, 0, 0) := by decide +kernel
theorem s_397_11 {x0 : Option Value} {w : Value} : mw d 397 Q 11 [x0, some w] (st) h = mv_i w (mw d 397 Q 12 [x0, some w] (w :: st) h) := (mw_at mj_397_11).trans (z_iload_n rfl)
theorem mj_397_12 : mc_P 397 12 = some (.invokestatic 495, 3, 401, 0, 2) := by decide +kernel
theorem s_397_12 {x0 x1 : Option Value} {a0 a1 : Value} : mw (d + 1) 397 Q 12 [x0, x1] (a1 :: a0 :: st) h = (mca st 8 ∧ mca [a0, a1] 2 ∧ mcall d 401 [a0, a1] h (mK (d + 1) 397 Q 15 [x0, x1] st)) := (mw_at mj_397_12).trans ((z_invs (As := [a0, a1]) rfl rfl).trans (congrArg (And _) (mC_nl nl_401)))
theorem mj_397_15 : mc_P 397 15 = some (.ireturn, 1, 0, 4, 0) := by decide +kernel
theorem s_397_15 {x0 x1 : Option Value} {x : Int32} : mw d 397 Q 15 [x0, x1] ([.int x]) h = (narrow .char (.int x) = .int x ∧ Q (some (.int x)) h) := (mw_at mj_397_15).trans (z_cret)
theorem mj_397_16 : mc_P 397 16 = some (.aload_n 0, 1, 0, 0, 0) := by decide +kernel
theorem s_397_16 {x1 : Option Value} {w : Value} : mw d 397 Q 16 [some w, x1] (st) h = mv_a w (mw d 397 Q 17 [some w, x1] (w :: st) h) := (mw_at mj_397_16).trans (z_aload_n rfl)
theorem mj_397_17 : mc_P 397 17 = some (.getfield 9, 3, 90, 1, 0) := by decide +kernel
theorem s_397_17 {x0 x1 : Option Value} {x : Nat} : mw d 397 Q 17 [x0, x1] (.retAddr x :: st) h = (me_xs x = true ∧ mw d 397 Q 20 [x0, x1] (.retAddr (x + 1) :: st) h) := (mw_at mj_397_17).trans (z_getx (by decide) rfl)
theorem mj_397_20 : mc_P 397 20 = some (.iload_n 1, 1, 0, 0, 0) := by decide +kernel
theorem s_397_20 {x0 : Option Value} {w : Value} : mw d 397 Q 20 [x0, some w] (st) h = mv_i w (mw d 397 Q 21 [x0, some w] (w :: st) h) := (mw_at mj_397_20).trans (z_iload_n rfl)
theorem mj_397_24 : mc_P 397 24 = some (.ireturn, 1, 0, 4, 0) := by decide +kernel
theorem s_397_24 {x0 x1 : Option Value} {x : Int32} : mw d 397 Q 24 [x0, x1] ([.int x]) h = (narrow .char (.int x) = .int x ∧ Q (some (.int x)) h) := (mw_at mj_397_24).trans (z_cret)
theorem e_397 {a0 : Nat} {a1 : Int32} : mcall d 397 [.retAddr a0, .int a1] h Q = mw d 397 Q 0 [some (.retAddr a0), some (.int a1)] [] h := by
  show mw d 397 Q 0 (me_en (mc_nl 397) _) [] h = _
  rw [nl_397]; rfl

/-! java/lang/String.checkIndex(II)V -/
theorem mj_398_0 : mc_P 398 0 = some (.iload_n 0, 1, 0, 0, 0) := by decide +kernel
theorem s_398_0 {x1 : Option Value} {w : Value} : mw d 398 Q 0 [some w, x1] (st) h = mv_i w (mw d 398 Q 1 [some w, x1] (w :: st) h) := (mw_at mj_398_0).trans (z_iload_n rfl)
theorem mj_398_1 : mc_P 398 1 = some (.iload_n 1, 1, 0, 0, 0) := by decide +kernel
theorem s_398_1 {x0 : Option Value} {w : Value} : mw d 398 Q 1 [x0, some w] (st) h = mv_i w (mw d 398 Q 2 [x0, some w] (w :: st) h) := (mw_at mj_398_1).trans (z_iload_n rfl)
theorem mj_398_2 : mc_P 398 2 = some (.getstatic 1053, 3, 5, 0, 0) := by decide +kernel
theorem s_398_2 {x0 x1 : Option Value} : mw d 398 Q 2 [x0, x1] (st) h = mw d 398 Q 5 [x0, x1] (.retAddr 5 :: st) h := (mw_at mj_398_2).trans (z_gets0)
theorem mj_398_5 : mc_P 398 5 = some (.invokestatic 1059, 3, 405, 0, 3) := by decide +kernel
theorem s_398_5 {x0 x1 : Option Value} {a0 a1 a2 : Value} : mw (d + 1) 398 Q 5 [x0, x1] (a2 :: a1 :: a0 :: st) h = (mca st 8 ∧ mca [a0, a1, a2] 3 ∧ mcall d 405 [a0, a1, a2] h (mK (d + 1) 398 Q 8 [x0, x1] st)) := (mw_at mj_398_5).trans ((z_invs (As := [a0, a1, a2]) rfl rfl).trans (congrArg (And _) (mC_nl nl_405)))
theorem mj_398_8 : mc_P 398 8 = some (.pop, 1, 0, 0, 0) := by decide +kernel
theorem s_398_8 {x0 x1 : Option Value} {w : Value} : mw d 398 Q 8 [x0, x1] (w :: st) h = (w.category = 1 ∧ mw d 398 Q 9 [x0, x1] (st) h) := (mw_at mj_398_8).trans (z_pop)
theorem mj_398_9 : mc_P 398 9 = some (.return_, 1, 0, 0, 0) := by decide +kernel
theorem s_398_9 {x0 x1 : Option Value} : mw d 398 Q 9 [x0, x1] ([]) h = Q none h := (mw_at mj_398_9).trans (z_vret)
theorem e_398 {a0 : Int32} {a1 : Int32} : mcall d 398 [.int a0, .int a1] h Q = mw d 398 Q 0 [some (.int a0), some (.int a1)] [] h := by
  show mw d 398 Q 0 (me_en (mc_nl 398) _) [] h = _
  rw [nl_398]; rfl

/-! java/lang/StringLatin1.charAt([BI)C -/
theorem mj_401_0 : mc_P 401 0 = some (.iload_n 1, 1, 0, 0, 0) := by decide +kernel
theorem s_401_0 {x0 : Option Value} {w : Value} : mw d 401 Q 0 [x0, some w] (st) h = mv_i w (mw d 401 Q 1 [x0, some w] (w :: st) h) := (mw_at mj_401_0).trans (z_iload_n rfl)
theorem mj_401_1 : mc_P 401 1 = some (.aload_n 0, 1, 0, 0, 0) := by decide +kernel
theorem s_401_1 {x1 : Option Value} {w : Value} : mw d 401 Q 1 [some w, x1] (st) h = mv_a w (mw d 401 Q 2 [some w, x1] (w :: st) h) := (mw_at mj_401_1).trans (z_aload_n rfl)
theorem mj_401_2 : mc_P 401 2 = some (.arraylength, 1, 0, 0, 0) := by decide +kernel
theorem s_401_2 {x0 x1 : Option Value} {o : Nat} : mw d 401 Q 2 [x0, x1] (.ref o :: st) h = (mga h o ∧ mw d 401 Q 3 [x0, x1] (.int (Int32.ofNat (mh_l h o)) :: st) h) := (mw_at mj_401_2).trans (z_alen)
theorem s_401_2x {x0 x1 : Option Value} {x : Nat} : mw d 401 Q 2 [x0, x1] (.retAddr x :: st) h = (me_xb x = true ∧ mw d 401 Q 3 [x0, x1] (.int (Int32.ofNat (mx_len.getD (x / 3 - 1) 0)) :: st) h) := (mw_at mj_401_2).trans (z_alenX)
theorem mj_401_3 : mc_P 401 3 = some (.invokestatic 9, 3, 398, 0, 2) := by decide +kernel
theorem s_401_3 {x0 x1 : Option Value} {a0 a1 : Value} : mw (d + 1) 401 Q 3 [x0, x1] (a1 :: a0 :: st) h = (mca st 8 ∧ mca [a0, a1] 2 ∧ mcall d 398 [a0, a1] h (mK (d + 1) 401 Q 6 [x0, x1] st)) := (mw_at mj_401_3).trans ((z_invs (As := [a0, a1]) rfl rfl).trans (congrArg (And _) (mC_nl nl_398)))
theorem mj_401_6 : mc_P 401 6 = some (.aload_n 0, 1, 0, 0, 0) := by decide +kernel
theorem s_401_6 {x1 : Option Value} {w : Value} : mw d 401 Q 6 [some w, x1] (st) h = mv_a w (mw d 401 Q 7 [some w, x1] (w :: st) h) := (mw_at mj_401_6).trans (z_aload_n rfl)
theorem mj_401_7 : mc_P 401 7 = some (.iload_n 1, 1, 0, 0, 0) := by decide +kernel
theorem s_401_7 {x0 : Option Value} {w : Value} : mw d 401 Q 7 [x0, some w] (st) h = mv_i w (mw d 401 Q 8 [x0, some w] (w :: st) h) := (mw_at mj_401_7).trans (z_iload_n rfl)
theorem mj_401_8 : mc_P 401 8 = some (.baload, 1, 0, 0, 0) := by decide +kernel
theorem s_401_8 {x0 x1 : Option Value} {o : Nat} {i : Int32} : mw d 401 Q 8 [x0, x1] (.int i :: .ref o :: st) h = (mgb h o ∧ mx i (mh_l h o) ∧ mw d 401 Q 9 [x0, x1] (.int (mh_i h o i.toNatClampNeg) :: st) h) := (mw_at mj_401_8).trans (z_bald)
theorem s_401_8x {x0 x1 : Option Value} {x : Nat} {i : Int32} : mw d 401 Q 8 [x0, x1] (.int i :: .retAddr x :: st) h = (me_xb x = true ∧ mx i (mx_len.getD (x / 3 - 1) 0) ∧ mw d 401 Q 9 [x0, x1] (.int ((mx_byt.getD (x / 3 - 1) []).getD i.toNatClampNeg 0) :: st) h) := (mw_at mj_401_8).trans (z_baX)
theorem mj_401_9 : mc_P 401 9 = some (.sipush 255, 3, 0, 0, 0) := by decide +kernel
theorem s_401_9 {x0 x1 : Option Value} : mw d 401 Q 9 [x0, x1] (st) h = mw d 401 Q 12 [x0, x1] (.int 255 :: st) h := (mw_at mj_401_9).trans (z_sipush (by decide))
theorem mj_401_12 : mc_P 401 12 = some (.iand, 1, 0, 0, 0) := by decide +kernel
theorem s_401_12 {x0 x1 : Option Value} {x w : Int32} : mw d 401 Q 12 [x0, x1] (.int w :: .int x :: st) h = mw d 401 Q 13 [x0, x1] (.int (x &&& w) :: st) h := (mw_at mj_401_12).trans (z_iand)
theorem mj_401_13 : mc_P 401 13 = some (.i2c, 1, 0, 0, 0) := by decide +kernel
theorem s_401_13 {x0 x1 : Option Value} {x : Int32} : mw d 401 Q 13 [x0, x1] (.int x :: st) h = mw d 401 Q 14 [x0, x1] (.int (x.toUInt32 % 65536).toInt32 :: st) h := (mw_at mj_401_13).trans (z_i2c)
theorem mj_401_14 : mc_P 401 14 = some (.ireturn, 1, 0, 4, 0) := by decide +kernel
theorem s_401_14 {x0 x1 : Option Value} {x : Int32} : mw d 401 Q 14 [x0, x1] ([.int x]) h = (narrow .char (.int x) = .int x ∧ Q (some (.int x)) h) := (mw_at mj_401_14).trans (z_cret)
theorem e_401 {a0 : Nat} {a1 : Int32} : mcall d 401 [.retAddr a0, .int a1] h Q = mw d 401 Q 0 [some (.retAddr a0), some (.int a1)] [] h := by
  show mw d 401 Q 0 (me_en (mc_nl 401) _) [] h = _
  rw [nl_401]; rfl

/-! jdk/internal/util/Preconditions.checkIndex(IILjava/util/function/BiFunction;)I -/
theorem mj_405_0 : mc_P 405 0 = some (.iload_n 0, 1, 0, 0, 0) := by decide +kernel
theorem s_405_0 {x1 x2 : Option Value} {w : Value} : mw d 405 Q 0 [some w, x1, x2] (st) h = mv_i w (mw d 405 Q 1 [some w, x1, x2] (w :: st) h) := (mw_at mj_405_0).trans (z_iload_n rfl)
theorem mj_405_1 : mc_P 405 1 = some (.ifCond .lt 8, 3, 0, 0, 0) := by decide +kernel
theorem s_405_1 {x0 x1 x2 : Option Value} {x : Int32} : mw d 405 Q 1 [x0, x1, x2] (.int x :: st) h = mB (x < 0) (mw d 405 Q) 9 4 [x0, x1, x2] st h := (mw_at mj_405_1).trans (z_if_lt (by decide) rfl)
theorem mj_405_4 : mc_P 405 4 = some (.iload_n 0, 1, 0, 0, 0) := by decide +kernel
theorem s_405_4 {x1 x2 : Option Value} {w : Value} : mw d 405 Q 4 [some w, x1, x2] (st) h = mv_i w (mw d 405 Q 5 [some w, x1, x2] (w :: st) h) := (mw_at mj_405_4).trans (z_iload_n rfl)
theorem mj_405_5 : mc_P 405 5 = some (.iload_n 1, 1, 0, 0, 0) := by decide +kernel
theorem s_405_5 {x0 x2 : Option Value} {w : Value} : mw d 405 Q 5 [x0, some w, x2] (st) h = mv_i w (mw d 405 Q 6 [x0, some w, x2] (w :: st) h) := (mw_at mj_405_5).trans (z_iload_n rfl)
theorem mj_405_6 : mc_P 405 6 = some (.if_icmp .lt 10, 3, 0, 0, 0) := by decide +kernel
theorem s_405_6 {x0 x1 x2 : Option Value} {x w : Int32} : mw d 405 Q 6 [x0, x1, x2] (.int w :: .int x :: st) h = mB (x < w) (mw d 405 Q) 16 9 [x0, x1, x2] st h := (mw_at mj_405_6).trans (z_icmp_lt (by decide) rfl)
theorem mj_405_9 : mc_P 405 9 = some (.aload_n 2, 1, 0, 0, 0) := by decide +kernel
theorem s_405_9 {x0 x1 : Option Value} {w : Value} : mw d 405 Q 9 [x0, x1, some w] (st) h = mv_a w (mw d 405 Q 10 [x0, x1, some w] (w :: st) h) := (mw_at mj_405_9).trans (z_aload_n rfl)
theorem mj_405_10 : mc_P 405 10 = some (.iload_n 0, 1, 0, 0, 0) := by decide +kernel
theorem s_405_10 {x1 x2 : Option Value} {w : Value} : mw d 405 Q 10 [some w, x1, x2] (st) h = mv_i w (mw d 405 Q 11 [some w, x1, x2] (w :: st) h) := (mw_at mj_405_10).trans (z_iload_n rfl)
theorem mj_405_11 : mc_P 405 11 = some (.iload_n 1, 1, 0, 0, 0) := by decide +kernel
theorem s_405_11 {x0 x2 : Option Value} {w : Value} : mw d 405 Q 11 [x0, some w, x2] (st) h = mv_i w (mw d 405 Q 12 [x0, some w, x2] (w :: st) h) := (mw_at mj_405_11).trans (z_iload_n rfl)
theorem mj_405_16 : mc_P 405 16 = some (.iload_n 0, 1, 0, 0, 0) := by decide +kernel
theorem s_405_16 {x1 x2 : Option Value} {w : Value} : mw d 405 Q 16 [some w, x1, x2] (st) h = mv_i w (mw d 405 Q 17 [some w, x1, x2] (w :: st) h) := (mw_at mj_405_16).trans (z_iload_n rfl)
theorem mj_405_17 : mc_P 405 17 = some (.ireturn, 1, 0, 0, 0) := by decide +kernel
theorem s_405_17 {x0 x1 x2 : Option Value} {x : Int32} : mw d 405 Q 17 [x0, x1, x2] ([.int x]) h = (Q (some (.int x)) h) := (mw_at mj_405_17).trans (z_iret)
theorem e_405 {a0 : Int32} {a1 : Int32} {a2 : Nat} : mcall d 405 [.int a0, .int a1, .retAddr a2] h Q = mw d 405 Q 0 [some (.int a0), some (.int a1), some (.retAddr a2)] [] h := by
  show mw d 405 Q 0 (me_en (mc_nl 405) _) [] h = _
  rw [nl_405]; rfl

end SR
