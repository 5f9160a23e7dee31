/-! rules of methods, by program (wip/whole/srule.py) -/
section SR
variable {d : Nat} {Q : Option Value → mh_H → Prop} {st : List Value} {h : mh_H}
/-! InvariantDesk$Tokens.byteAt(I)I -/
theorem mj_170_0 : mc_P 170 0 = some (.iload_n 1, 1, 0, 0, 0) := by decide +kernel
theorem s_170_0 {x0 : Option Value} {w : Value} : mw d 170 Q 0 [x0, some w] (st) h = mv_i w (mw d 170 Q 1 [x0, some w] (w :: st) h) := (mw_at mj_170_0).trans (z_iload_n rfl)
theorem mj_170_1 : mc_P 170 1 = some (.ifCond .lt 25, 3, 0, 0, 0) := by decide +kernel
theorem s_170_1 {x0 x1 : Option Value} {x : Int32} : mw d 170 Q 1 [x0, x1] (.int x :: st) h = mB (x < 0) (mw d 170 Q) 26 4 [x0, x1] st h := (mw_at mj_170_1).trans (z_if_lt (by decide) rfl)
theorem mj_170_4 : mc_P 170 4 = some (.iload_n 1, 1, 0, 0, 0) := by decide +kernel
theorem s_170_4 {x0 : Option Value} {w : Value} : mw d 170 Q 4 [x0, some w] (st) h = mv_i w (mw d 170 Q 5 [x0, some w] (w :: st) h) := (mw_at mj_170_4).trans (z_iload_n rfl)
theorem mj_170_5 : mc_P 170 5 = some (.aload_n 0, 1, 0, 0, 0) := by decide +kernel
theorem s_170_5 {x1 : Option Value} {w : Value} : mw d 170 Q 5 [some w, x1] (st) h = mv_a w (mw d 170 Q 6 [some w, x1] (w :: st) h) := (mw_at mj_170_5).trans (z_aload_n rfl)
theorem mj_170_6 : mc_P 170 6 = some (.getfield 15, 3, 10, 0, 0) := by decide +kernel
theorem s_170_6 {x0 x1 : Option Value} {o : Nat} : mw d 170 Q 6 [x0, x1] (.ref o :: st) h = (mg h o 10 ∧ mw d 170 Q 9 [x0, x1] (va_rf (mh_r h o 0) :: st) h) := (mw_at mj_170_6).trans (z_getr (by decide) (by decide) rfl)
theorem mj_170_9 : mc_P 170 9 = some (.arraylength, 1, 0, 0, 0) := by decide +kernel
theorem s_170_9 {x0 x1 : Option Value} {o : Nat} : mw d 170 Q 9 [x0, x1] (.ref o :: st) h = (mga h o ∧ mw d 170 Q 10 [x0, x1] (.int (Int32.ofNat (mh_l h o)) :: st) h) := (mw_at mj_170_9).trans (z_alen)
theorem mj_170_10 : mc_P 170 10 = some (.if_icmp .ge 16, 3, 0, 0, 0) := by decide +kernel
theorem s_170_10 {x0 x1 : Option Value} {x w : Int32} : mw d 170 Q 10 [x0, x1] (.int w :: .int x :: st) h = mB (w ≤ x) (mw d 170 Q) 26 13 [x0, x1] st h := (mw_at mj_170_10).trans (z_icmp_ge (by decide) rfl)
theorem mj_170_13 : mc_P 170 13 = some (.aload_n 0, 1, 0, 0, 0) := by decide +kernel
theorem s_170_13 {x1 : Option Value} {w : Value} : mw d 170 Q 13 [some w, x1] (st) h = mv_a w (mw d 170 Q 14 [some w, x1] (w :: st) h) := (mw_at mj_170_13).trans (z_aload_n rfl)
theorem mj_170_14 : mc_P 170 14 = some (.getfield 15, 3, 10, 0, 0) := by decide +kernel
theorem s_170_14 {x0 x1 : Option Value} {o : Nat} : mw d 170 Q 14 [x0, x1] (.ref o :: st) h = (mg h o 10 ∧ mw d 170 Q 17 [x0, x1] (va_rf (mh_r h o 0) :: st) h) := (mw_at mj_170_14).trans (z_getr (by decide) (by decide) rfl)
theorem mj_170_17 : mc_P 170 17 = some (.iload_n 1, 1, 0, 0, 0) := by decide +kernel
theorem s_170_17 {x0 : Option Value} {w : Value} : mw d 170 Q 17 [x0, some w] (st) h = mv_i w (mw d 170 Q 18 [x0, some w] (w :: st) h) := (mw_at mj_170_17).trans (z_iload_n rfl)
theorem mj_170_18 : mc_P 170 18 = some (.baload, 1, 0, 0, 0) := by decide +kernel
theorem s_170_18 {x0 x1 : Option Value} {o : Nat} {i : Int32} : mw d 170 Q 18 [x0, x1] (.int i :: .ref o :: st) h = (mgb h o ∧ mx i (mh_l h o) ∧ mw d 170 Q 19 [x0, x1] (.int (mh_i h o i.toNatClampNeg) :: st) h) := (mw_at mj_170_18).trans (z_bald)
theorem mj_170_19 : mc_P 170 19 = some (.sipush 255, 3, 0, 0, 0) := by decide +kernel
theorem s_170_19 {x0 x1 : Option Value} : mw d 170 Q 19 [x0, x1] (st) h = mw d 170 Q 22 [x0, x1] (.int 255 :: st) h := (mw_at mj_170_19).trans (z_sipush (by decide))
theorem mj_170_22 : mc_P 170 22 = some (.iand, 1, 0, 0, 0) := by decide +kernel
theorem s_170_22 {x0 x1 : Option Value} {x w : Int32} : mw d 170 Q 22 [x0, x1] (.int w :: .int x :: st) h = mw d 170 Q 23 [x0, x1] (.int (x &&& w) :: st) h := (mw_at mj_170_22).trans (z_iand)
theorem mj_170_23 : mc_P 170 23 = some (.goto 4, 3, 0, 0, 0) := by decide +kernel
theorem s_170_23 {x0 x1 : Option Value} : mw d 170 Q 23 [x0, x1] (st) h = mw d 170 Q 27 [x0, x1] (st) h := (mw_at mj_170_23).trans (z_goto (by decide))
theorem mj_170_26 : mc_P 170 26 = some (.iconst (-1), 1, 0, 0, 0) := by decide +kernel
theorem s_170_26 {x0 x1 : Option Value} : mw d 170 Q 26 [x0, x1] (st) h = mw d 170 Q 27 [x0, x1] (.int (-1) :: st) h := (mw_at mj_170_26).trans (z_iconst (by decide))
theorem mj_170_27 : mc_P 170 27 = some (.ireturn, 1, 0, 0, 0) := by decide +kernel
theorem s_170_27 {x0 x1 : Option Value} {x : Int32} : mw d 170 Q 27 [x0, x1] ([.int x]) h = (Q (some (.int x)) h) := (mw_at mj_170_27).trans (z_iret)
theorem e_170 {a0 : Nat} {a1 : Int32} : mcall d 170 [.ref a0, .int a1] h Q = mw d 170 Q 0 [some (.ref a0), some (.int a1)] [] h := by
  show mw d 170 Q 0 (me_en (mc_nl 170) _) [] h = _
  rw [nl_170]; rfl

/-! InvariantDesk$Tokens.isLetter(I)Z -/
theorem mj_172_0 : mc_P 172 0 = some (.iload_n 0, 1, 0, 0, 0) := by decide +kernel
theorem s_172_0 {w : Value} : mw d 172 Q 0 [some w] (st) h = mv_i w (mw d 172 Q 1 [some w] (w :: st) h) := (mw_at mj_172_0).trans (z_iload_n rfl)
theorem mj_172_1 : mc_P 172 1 = some (.bipush 97, 2, 0, 0, 0) := by decide +kernel
theorem s_172_1 {x0 : Option Value} : mw d 172 Q 1 [x0] (st) h = mw d 172 Q 3 [x0] (.int 97 :: st) h := (mw_at mj_172_1).trans (z_bipush (by decide))
theorem mj_172_3 : mc_P 172 3 = some (.if_icmp .lt 9, 3, 0, 0, 0) := by decide +kernel
theorem s_172_3 {x0 : Option Value} {x w : Int32} : mw d 172 Q 3 [x0] (.int w :: .int x :: st) h = mB (x < w) (mw d 172 Q) 12 6 [x0] st h := (mw_at mj_172_3).trans (z_icmp_lt (by decide) rfl)
theorem mj_172_6 : mc_P 172 6 = some (.iload_n 0, 1, 0, 0, 0) := by decide +kernel
theorem s_172_6 {w : Value} : mw d 172 Q 6 [some w] (st) h = mv_i w (mw d 172 Q 7 [some w] (w :: st) h) := (mw_at mj_172_6).trans (z_iload_n rfl)
theorem mj_172_7 : mc_P 172 7 = some (.bipush 122, 2, 0, 0, 0) := by decide +kernel
theorem s_172_7 {x0 : Option Value} : mw d 172 Q 7 [x0] (st) h = mw d 172 Q 9 [x0] (.int 122 :: st) h := (mw_at mj_172_7).trans (z_bipush (by decide))
theorem mj_172_9 : mc_P 172 9 = some (.if_icmp .le 21, 3, 0, 0, 0) := by decide +kernel
theorem s_172_9 {x0 : Option Value} {x w : Int32} : mw d 172 Q 9 [x0] (.int w :: .int x :: st) h = mB (x ≤ w) (mw d 172 Q) 30 12 [x0] st h := (mw_at mj_172_9).trans (z_icmp_le (by decide) rfl)
theorem mj_172_12 : mc_P 172 12 = some (.iload_n 0, 1, 0, 0, 0) := by decide +kernel
theorem s_172_12 {w : Value} : mw d 172 Q 12 [some w] (st) h = mv_i w (mw d 172 Q 13 [some w] (w :: st) h) := (mw_at mj_172_12).trans (z_iload_n rfl)
theorem mj_172_13 : mc_P 172 13 = some (.bipush 65, 2, 0, 0, 0) := by decide +kernel
theorem s_172_13 {x0 : Option Value} : mw d 172 Q 13 [x0] (st) h = mw d 172 Q 15 [x0] (.int 65 :: st) h := (mw_at mj_172_13).trans (z_bipush (by decide))
theorem mj_172_15 : mc_P 172 15 = some (.if_icmp .lt 9, 3, 0, 0, 0) := by decide +kernel
theorem s_172_15 {x0 : Option Value} {x w : Int32} : mw d 172 Q 15 [x0] (.int w :: .int x :: st) h = mB (x < w) (mw d 172 Q) 24 18 [x0] st h := (mw_at mj_172_15).trans (z_icmp_lt (by decide) rfl)
theorem mj_172_18 : mc_P 172 18 = some (.iload_n 0, 1, 0, 0, 0) := by decide +kernel
theorem s_172_18 {w : Value} : mw d 172 Q 18 [some w] (st) h = mv_i w (mw d 172 Q 19 [some w] (w :: st) h) := (mw_at mj_172_18).trans (z_iload_n rfl)
theorem mj_172_19 : mc_P 172 19 = some (.bipush 90, 2, 0, 0, 0) := by decide +kernel
theorem s_172_19 {x0 : Option Value} : mw d 172 Q 19 [x0] (st) h = mw d 172 Q 21 [x0] (.int 90 :: st) h := (mw_at mj_172_19).trans (z_bipush (by decide))
theorem mj_172_21 : mc_P 172 21 = some (.if_icmp .le 9, 3, 0, 0, 0) := by decide +kernel
theorem s_172_21 {x0 : Option Value} {x w : Int32} : mw d 172 Q 21 [x0] (.int w :: .int x :: st) h = mB (x ≤ w) (mw d 172 Q) 30 24 [x0] st h := (mw_at mj_172_21).trans (z_icmp_le (by decide) rfl)
theorem mj_172_24 : mc_P 172 24 = some (.iload_n 0, 1, 0, 0, 0) := by decide +kernel
theorem s_172_24 {w : Value} : mw d 172 Q 24 [some w] (st) h = mv_i w (mw d 172 Q 25 [some w] (w :: st) h) := (mw_at mj_172_24).trans (z_iload_n rfl)
theorem mj_172_25 : mc_P 172 25 = some (.bipush 95, 2, 0, 0, 0) := by decide +kernel
theorem s_172_25 {x0 : Option Value} : mw d 172 Q 25 [x0] (st) h = mw d 172 Q 27 [x0] (.int 95 :: st) h := (mw_at mj_172_25).trans (z_bipush (by decide))
theorem mj_172_27 : mc_P 172 27 = some (.if_icmp .ne 7, 3, 0, 0, 0) := by decide +kernel
theorem s_172_27 {x0 : Option Value} {x w : Int32} : mw d 172 Q 27 [x0] (.int w :: .int x :: st) h = mB (¬ x = w) (mw d 172 Q) 34 30 [x0] st h := (mw_at mj_172_27).trans (z_icmp_ne (by decide) rfl)
theorem mj_172_30 : mc_P 172 30 = some (.iconst 1, 1, 0, 0, 0) := by decide +kernel
theorem s_172_30 {x0 : Option Value} : mw d 172 Q 30 [x0] (st) h = mw d 172 Q 31 [x0] (.int 1 :: st) h := (mw_at mj_172_30).trans (z_iconst (by decide))
theorem mj_172_31 : mc_P 172 31 = some (.goto 4, 3, 0, 0, 0) := by decide +kernel
theorem s_172_31 {x0 : Option Value} : mw d 172 Q 31 [x0] (st) h = mw d 172 Q 35 [x0] (st) h := (mw_at mj_172_31).trans (z_goto (by decide))
theorem mj_172_34 : mc_P 172 34 = some (.iconst 0, 1, 0, 0, 0) := by decide +kernel
theorem s_172_34 {x0 : Option Value} : mw d 172 Q 34 [x0] (st) h = mw d 172 Q 35 [x0] (.int 0 :: st) h := (mw_at mj_172_34).trans (z_iconst (by decide))
theorem mj_172_35 : mc_P 172 35 = some (.ireturn, 1, 0, 3, 0) := by decide +kernel
theorem s_172_35 {x0 : Option Value} {x : Int32} : mw d 172 Q 35 [x0] ([.int x]) h = ((x = 0 ∨ x = 1) ∧ Q (some (.int x)) h) := (mw_at mj_172_35).trans (z_zret)
theorem e_172 {a0 : Int32} : mcall d 172 [.int a0] h Q = mw d 172 Q 0 [some (.int a0)] [] h := by
  show mw d 172 Q 0 (me_en (mc_nl 172) _) [] h = _
  rw [nl_172]; rfl

/-! InvariantDesk$Tokens.isDigit(I)Z -/
theorem mj_173_0 : mc_P 173 0 = some (.iload_n 0, 1, 0, 0, 0) := by decide +kernel
theorem s_173_0 {w : Value} : mw d 173 Q 0 [some w] (st) h = mv_i w (mw d 173 Q 1 [some w] (w :: st) h) := (mw_at mj_173_0).trans (z_iload_n rfl)
theorem mj_173_1 : mc_P 173 1 = some (.bipush 48, 2, 0, 0, 0) := by decide +kernel
theorem s_173_1 {x0 : Option Value} : mw d 173 Q 1 [x0] (st) h = mw d 173 Q 3 [x0] (.int 48 :: st) h := (mw_at mj_173_1).trans (z_bipush (by decide))
theorem mj_173_3 : mc_P 173 3 = some (.if_icmp .lt 13, 3, 0, 0, 0) := by decide +kernel
theorem s_173_3 {x0 : Option Value} {x w : Int32} : mw d 173 Q 3 [x0] (.int w :: .int x :: st) h = mB (x < w) (mw d 173 Q) 16 6 [x0] st h := (mw_at mj_173_3).trans (z_icmp_lt (by decide) rfl)
theorem mj_173_6 : mc_P 173 6 = some (.iload_n 0, 1, 0, 0, 0) := by decide +kernel
theorem s_173_6 {w : Value} : mw d 173 Q 6 [some w] (st) h = mv_i w (mw d 173 Q 7 [some w] (w :: st) h) := (mw_at mj_173_6).trans (z_iload_n rfl)
theorem mj_173_7 : mc_P 173 7 = some (.bipush 57, 2, 0, 0, 0) := by decide +kernel
theorem s_173_7 {x0 : Option Value} : mw d 173 Q 7 [x0] (st) h = mw d 173 Q 9 [x0] (.int 57 :: st) h := (mw_at mj_173_7).trans (z_bipush (by decide))
theorem mj_173_9 : mc_P 173 9 = some (.if_icmp .gt 7, 3, 0, 0, 0) := by decide +kernel
theorem s_173_9 {x0 : Option Value} {x w : Int32} : mw d 173 Q 9 [x0] (.int w :: .int x :: st) h = mB (w < x) (mw d 173 Q) 16 12 [x0] st h := (mw_at mj_173_9).trans (z_icmp_gt (by decide) rfl)
theorem mj_173_12 : mc_P 173 12 = some (.iconst 1, 1, 0, 0, 0) := by decide +kernel
theorem s_173_12 {x0 : Option Value} : mw d 173 Q 12 [x0] (st) h = mw d 173 Q 13 [x0] (.int 1 :: st) h := (mw_at mj_173_12).trans (z_iconst (by decide))
theorem mj_173_13 : mc_P 173 13 = some (.goto 4, 3, 0, 0, 0) := by decide +kernel
theorem s_173_13 {x0 : Option Value} : mw d 173 Q 13 [x0] (st) h = mw d 173 Q 17 [x0] (st) h := (mw_at mj_173_13).trans (z_goto (by decide))
theorem mj_173_16 : mc_P 173 16 = some (.iconst 0, 1, 0, 0, 0) := by decide +kernel
theorem s_173_16 {x0 : Option Value} : mw d 173 Q 16 [x0] (st) h = mw d 173 Q 17 [x0] (.int 0 :: st) h := (mw_at mj_173_16).trans (z_iconst (by decide))
theorem mj_173_17 : mc_P 173 17 = some (.ireturn, 1, 0, 3, 0) := by decide +kernel
theorem s_173_17 {x0 : Option Value} {x : Int32} : mw d 173 Q 17 [x0] ([.int x]) h = ((x = 0 ∨ x = 1) ∧ Q (some (.int x)) h) := (mw_at mj_173_17).trans (z_zret)
theorem e_173 {a0 : Int32} : mcall d 173 [.int a0] h Q = mw d 173 Q 0 [some (.int a0)] [] h := by
  show mw d 173 Q 0 (me_en (mc_nl 173) _) [] h = _
  rw [nl_173]; rfl

/-! InvariantDesk$Tokens.widthAt(I)I -/
theorem mj_174_0 : mc_P 174 0 = some (.aload_n 0, 1, 0, 0, 0) := by decide +kernel
theorem s_174_0 {x1 x2 x3 : Option Value} {w : Value} : mw d 174 Q 0 [some w, x1, x2, x3] (st) h = mv_a w (mw d 174 Q 1 [some w, x1, x2, x3] (w :: st) h) := (mw_at mj_174_0).trans (z_aload_n rfl)
theorem mj_174_1 : mc_P 174 1 = some (.iload_n 1, 1, 0, 0, 0) := by decide +kernel
theorem s_174_1 {x0 x2 x3 : Option Value} {w : Value} : mw d 174 Q 1 [x0, some w, x2, x3] (st) h = mv_i w (mw d 174 Q 2 [x0, some w, x2, x3] (w :: st) h) := (mw_at mj_174_1).trans (z_iload_n rfl)
theorem mj_174_2 : mc_P 174 2 = some (.invokevirtual 50, 3, 170, 10, 2) := by decide +kernel
theorem s_174_2 {x0 x1 x2 x3 : Option Value} {o : Nat} {a1 : Value} : mw (d + 1) 174 Q 2 [x0, x1, x2, x3] (a1 :: .ref o :: st) h = (mg h o 10 ∧ mca st 8 ∧ mca [.ref o, a1] 2 ∧ mcall d 170 [.ref o, a1] h (mK (d + 1) 174 Q 5 [x0, x1, x2, x3] st)) := (mw_at mj_174_2).trans ((z_invv (As := [a1]) (by decide) rfl rfl).trans (congrArg (And _) (congrArg (And _) (mC_nl nl_170))))
theorem mj_174_5 : mc_P 174 5 = some (.istore_n 2, 1, 0, 0, 0) := by decide +kernel
theorem s_174_5 {x0 x1 x2 x3 : Option Value} {w : Int32} : mw d 174 Q 5 [x0, x1, x2, x3] (.int w :: st) h = mw d 174 Q 6 [x0, mk2 x1, some (.int w), x3] (st) h := (mw_at mj_174_5).trans (z_istore_n (Nat.le_of_ble_eq_true rfl) (me_s1_mk (j := 1) (w := x1) rfl))
theorem mj_174_6 : mc_P 174 6 = some (.iload_n 2, 1, 0, 0, 0) := by decide +kernel
theorem s_174_6 {x0 x1 x3 : Option Value} {w : Value} : mw d 174 Q 6 [x0, x1, some w, x3] (st) h = mv_i w (mw d 174 Q 7 [x0, x1, some w, x3] (w :: st) h) := (mw_at mj_174_6).trans (z_iload_n rfl)
theorem mj_174_7 : mc_P 174 7 = some (.invokestatic 53, 3, 172, 0, 1) := by decide +kernel
theorem s_174_7 {x0 x1 x2 x3 : Option Value} {a0 : Value} : mw (d + 1) 174 Q 7 [x0, x1, x2, x3] (a0 :: st) h = (mca st 8 ∧ mca [a0] 1 ∧ mcall d 172 [a0] h (mK (d + 1) 174 Q 10 [x0, x1, x2, x3] st)) := (mw_at mj_174_7).trans ((z_invs (As := [a0]) rfl rfl).trans (congrArg (And _) (mC_nl nl_172)))
theorem mj_174_10 : mc_P 174 10 = some (.ifCond .eq 21, 3, 0, 0, 0) := by decide +kernel
theorem s_174_10 {x0 x1 x2 x3 : Option Value} {x : Int32} : mw d 174 Q 10 [x0, x1, x2, x3] (.int x :: st) h = mB (x = 0) (mw d 174 Q) 31 13 [x0, x1, x2, x3] st h := (mw_at mj_174_10).trans (z_if_eq (by decide) rfl)
theorem mj_174_13 : mc_P 174 13 = some (.aload_n 0, 1, 0, 0, 0) := by decide +kernel
theorem s_174_13 {x1 x2 x3 : Option Value} {w : Value} : mw d 174 Q 13 [some w, x1, x2, x3] (st) h = mv_a w (mw d 174 Q 14 [some w, x1, x2, x3] (w :: st) h) := (mw_at mj_174_13).trans (z_aload_n rfl)
theorem mj_174_14 : mc_P 174 14 = some (.iload_n 1, 1, 0, 0, 0) := by decide +kernel
theorem s_174_14 {x0 x2 x3 : Option Value} {w : Value} : mw d 174 Q 14 [x0, some w, x2, x3] (st) h = mv_i w (mw d 174 Q 15 [x0, some w, x2, x3] (w :: st) h) := (mw_at mj_174_14).trans (z_iload_n rfl)
theorem mj_174_15 : mc_P 174 15 = some (.invokevirtual 57, 3, 175, 10, 2) := by decide +kernel
theorem s_174_15 {x0 x1 x2 x3 : Option Value} {o : Nat} {a1 : Value} : mw (d + 1) 174 Q 15 [x0, x1, x2, x3] (a1 :: .ref o :: st) h = (mg h o 10 ∧ mca st 8 ∧ mca [.ref o, a1] 4 ∧ mcall d 175 [.ref o, a1] h (mK (d + 1) 174 Q 18 [x0, x1, x2, x3] st)) := (mw_at mj_174_15).trans ((z_invv (As := [a1]) (by decide) rfl rfl).trans (congrArg (And _) (congrArg (And _) (mC_nl nl_175))))
theorem mj_174_18 : mc_P 174 18 = some (.istore_n 3, 1, 0, 0, 0) := by decide +kernel
theorem s_174_18 {x0 x1 x2 x3 : Option Value} {w : Int32} : mw d 174 Q 18 [x0, x1, x2, x3] (.int w :: st) h = mw d 174 Q 19 [x0, x1, mk2 x2, some (.int w)] (st) h := (mw_at mj_174_18).trans (z_istore_n (Nat.le_of_ble_eq_true rfl) (me_s1_mk (j := 2) (w := x2) rfl))
theorem mj_174_19 : mc_P 174 19 = some (.iload_n 3, 1, 0, 0, 0) := by decide +kernel
theorem s_174_19 {x0 x1 x2 : Option Value} {w : Value} : mw d 174 Q 19 [x0, x1, x2, some w] (st) h = mv_i w (mw d 174 Q 20 [x0, x1, x2, some w] (w :: st) h) := (mw_at mj_174_19).trans (z_iload_n rfl)
theorem mj_174_20 : mc_P 174 20 = some (.bipush 30, 2, 0, 0, 0) := by decide +kernel
theorem s_174_20 {x0 x1 x2 x3 : Option Value} : mw d 174 Q 20 [x0, x1, x2, x3] (st) h = mw d 174 Q 22 [x0, x1, x2, x3] (.int 30 :: st) h := (mw_at mj_174_20).trans (z_bipush (by decide))
theorem mj_174_22 : mc_P 174 22 = some (.if_icmp .gt 7, 3, 0, 0, 0) := by decide +kernel
theorem s_174_22 {x0 x1 x2 x3 : Option Value} {x w : Int32} : mw d 174 Q 22 [x0, x1, x2, x3] (.int w :: .int x :: st) h = mB (w < x) (mw d 174 Q) 29 25 [x0, x1, x2, x3] st h := (mw_at mj_174_22).trans (z_icmp_gt (by decide) rfl)
theorem mj_174_25 : mc_P 174 25 = some (.iload_n 3, 1, 0, 0, 0) := by decide +kernel
theorem s_174_25 {x0 x1 x2 : Option Value} {w : Value} : mw d 174 Q 25 [x0, x1, x2, some w] (st) h = mv_i w (mw d 174 Q 26 [x0, x1, x2, some w] (w :: st) h) := (mw_at mj_174_25).trans (z_iload_n rfl)
theorem mj_174_26 : mc_P 174 26 = some (.goto 4, 3, 0, 0, 0) := by decide +kernel
theorem s_174_26 {x0 x1 x2 x3 : Option Value} : mw d 174 Q 26 [x0, x1, x2, x3] (st) h = mw d 174 Q 30 [x0, x1, x2, x3] (st) h := (mw_at mj_174_26).trans (z_goto (by decide))
theorem mj_174_29 : mc_P 174 29 = some (.iconst 0, 1, 0, 0, 0) := by decide +kernel
theorem s_174_29 {x0 x1 x2 x3 : Option Value} : mw d 174 Q 29 [x0, x1, x2, x3] (st) h = mw d 174 Q 30 [x0, x1, x2, x3] (.int 0 :: st) h := (mw_at mj_174_29).trans (z_iconst (by decide))
theorem mj_174_30 : mc_P 174 30 = some (.ireturn, 1, 0, 0, 0) := by decide +kernel
theorem s_174_30 {x0 x1 x2 x3 : Option Value} {x : Int32} : mw d 174 Q 30 [x0, x1, x2, x3] ([.int x]) h = (Q (some (.int x)) h) := (mw_at mj_174_30).trans (z_iret)
theorem mj_174_31 : mc_P 174 31 = some (.iload_n 2, 1, 0, 0, 0) := by decide +kernel
theorem s_174_31 {x0 x1 x3 : Option Value} {w : Value} : mw d 174 Q 31 [x0, x1, some w, x3] (st) h = mv_i w (mw d 174 Q 32 [x0, x1, some w, x3] (w :: st) h) := (mw_at mj_174_31).trans (z_iload_n rfl)
theorem mj_174_32 : mc_P 174 32 = some (.invokestatic 60, 3, 173, 0, 1) := by decide +kernel
theorem s_174_32 {x0 x1 x2 x3 : Option Value} {a0 : Value} : mw (d + 1) 174 Q 32 [x0, x1, x2, x3] (a0 :: st) h = (mca st 8 ∧ mca [a0] 1 ∧ mcall d 173 [a0] h (mK (d + 1) 174 Q 35 [x0, x1, x2, x3] st)) := (mw_at mj_174_32).trans ((z_invs (As := [a0]) rfl rfl).trans (congrArg (And _) (mC_nl nl_173)))
theorem mj_174_35 : mc_P 174 35 = some (.ifCond .eq 9, 3, 0, 0, 0) := by decide +kernel
theorem s_174_35 {x0 x1 x2 x3 : Option Value} {x : Int32} : mw d 174 Q 35 [x0, x1, x2, x3] (.int x :: st) h = mB (x = 0) (mw d 174 Q) 44 38 [x0, x1, x2, x3] st h := (mw_at mj_174_35).trans (z_if_eq (by decide) rfl)
theorem mj_174_38 : mc_P 174 38 = some (.aload_n 0, 1, 0, 0, 0) := by decide +kernel
theorem s_174_38 {x1 x2 x3 : Option Value} {w : Value} : mw d 174 Q 38 [some w, x1, x2, x3] (st) h = mv_a w (mw d 174 Q 39 [some w, x1, x2, x3] (w :: st) h) := (mw_at mj_174_38).trans (z_aload_n rfl)
theorem mj_174_39 : mc_P 174 39 = some (.iload_n 1, 1, 0, 0, 0) := by decide +kernel
theorem s_174_39 {x0 x2 x3 : Option Value} {w : Value} : mw d 174 Q 39 [x0, some w, x2, x3] (st) h = mv_i w (mw d 174 Q 40 [x0, some w, x2, x3] (w :: st) h) := (mw_at mj_174_39).trans (z_iload_n rfl)
theorem mj_174_40 : mc_P 174 40 = some (.invokevirtual 63, 3, 176, 10, 2) := by decide +kernel
theorem s_174_40 {x0 x1 x2 x3 : Option Value} {o : Nat} {a1 : Value} : mw (d + 1) 174 Q 40 [x0, x1, x2, x3] (a1 :: .ref o :: st) h = (mg h o 10 ∧ mca st 8 ∧ mca [.ref o, a1] 5 ∧ mcall d 176 [.ref o, a1] h (mK (d + 1) 174 Q 43 [x0, x1, x2, x3] st)) := (mw_at mj_174_40).trans ((z_invv (As := [a1]) (by decide) rfl rfl).trans (congrArg (And _) (congrArg (And _) (mC_nl nl_176))))
theorem mj_174_43 : mc_P 174 43 = some (.ireturn, 1, 0, 0, 0) := by decide +kernel
theorem s_174_43 {x0 x1 x2 x3 : Option Value} {x : Int32} : mw d 174 Q 43 [x0, x1, x2, x3] ([.int x]) h = (Q (some (.int x)) h) := (mw_at mj_174_43).trans (z_iret)
theorem mj_174_44 : mc_P 174 44 = some (.iload_n 2, 1, 0, 0, 0) := by decide +kernel
theorem s_174_44 {x0 x1 x3 : Option Value} {w : Value} : mw d 174 Q 44 [x0, x1, some w, x3] (st) h = mv_i w (mw d 174 Q 45 [x0, x1, some w, x3] (w :: st) h) := (mw_at mj_174_44).trans (z_iload_n rfl)
theorem mj_174_45 : mc_P 174 45 = some (.aload_n 0, 1, 0, 0, 0) := by decide +kernel
theorem s_174_45 {x1 x2 x3 : Option Value} {w : Value} : mw d 174 Q 45 [some w, x1, x2, x3] (st) h = mv_a w (mw d 174 Q 46 [some w, x1, x2, x3] (w :: st) h) := (mw_at mj_174_45).trans (z_aload_n rfl)
theorem mj_174_46 : mc_P 174 46 = some (.iload_n 1, 1, 0, 0, 0) := by decide +kernel
theorem s_174_46 {x0 x2 x3 : Option Value} {w : Value} : mw d 174 Q 46 [x0, some w, x2, x3] (st) h = mv_i w (mw d 174 Q 47 [x0, some w, x2, x3] (w :: st) h) := (mw_at mj_174_46).trans (z_iload_n rfl)
theorem mj_174_47 : mc_P 174 47 = some (.iconst 1, 1, 0, 0, 0) := by decide +kernel
theorem s_174_47 {x0 x1 x2 x3 : Option Value} : mw d 174 Q 47 [x0, x1, x2, x3] (st) h = mw d 174 Q 48 [x0, x1, x2, x3] (.int 1 :: st) h := (mw_at mj_174_47).trans (z_iconst (by decide))
theorem mj_174_48 : mc_P 174 48 = some (.iadd, 1, 0, 0, 0) := by decide +kernel
theorem s_174_48 {x0 x1 x2 x3 : Option Value} {x w : Int32} : mw d 174 Q 48 [x0, x1, x2, x3] (.int w :: .int x :: st) h = mw d 174 Q 49 [x0, x1, x2, x3] (.int (x + w) :: st) h := (mw_at mj_174_48).trans (z_iadd)
theorem mj_174_49 : mc_P 174 49 = some (.invokevirtual 50, 3, 170, 10, 2) := by decide +kernel
theorem s_174_49 {x0 x1 x2 x3 : Option Value} {o : Nat} {a1 : Value} : mw (d + 1) 174 Q 49 [x0, x1, x2, x3] (a1 :: .ref o :: st) h = (mg h o 10 ∧ mca st 8 ∧ mca [.ref o, a1] 2 ∧ mcall d 170 [.ref o, a1] h (mK (d + 1) 174 Q 52 [x0, x1, x2, x3] st)) := (mw_at mj_174_49).trans ((z_invv (As := [a1]) (by decide) rfl rfl).trans (congrArg (And _) (congrArg (And _) (mC_nl nl_170))))
theorem mj_174_52 : mc_P 174 52 = some (.invokestatic 66, 3, 179, 0, 2) := by decide +kernel
theorem s_174_52 {x0 x1 x2 x3 : Option Value} {a0 a1 : Value} : mw (d + 1) 174 Q 52 [x0, x1, x2, x3] (a1 :: a0 :: st) h = (mca st 8 ∧ mca [a0, a1] 2 ∧ mcall d 179 [a0, a1] h (mK (d + 1) 174 Q 55 [x0, x1, x2, x3] st)) := (mw_at mj_174_52).trans ((z_invs (As := [a0, a1]) rfl rfl).trans (congrArg (And _) (mC_nl nl_179)))
theorem mj_174_55 : mc_P 174 55 = some (.iconst 1, 1, 0, 0, 0) := by decide +kernel
theorem s_174_55 {x0 x1 x2 x3 : Option Value} : mw d 174 Q 55 [x0, x1, x2, x3] (st) h = mw d 174 Q 56 [x0, x1, x2, x3] (.int 1 :: st) h := (mw_at mj_174_55).trans (z_iconst (by decide))
theorem mj_174_56 : mc_P 174 56 = some (.if_icmp .eq 5, 3, 0, 0, 0) := by decide +kernel
theorem s_174_56 {x0 x1 x2 x3 : Option Value} {x w : Int32} : mw d 174 Q 56 [x0, x1, x2, x3] (.int w :: .int x :: st) h = mB (x = w) (mw d 174 Q) 61 59 [x0, x1, x2, x3] st h := (mw_at mj_174_56).trans (z_icmp_eq (by decide) rfl)
theorem mj_174_59 : mc_P 174 59 = some (.iconst 2, 1, 0, 0, 0) := by decide +kernel
theorem s_174_59 {x0 x1 x2 x3 : Option Value} : mw d 174 Q 59 [x0, x1, x2, x3] (st) h = mw d 174 Q 60 [x0, x1, x2, x3] (.int 2 :: st) h := (mw_at mj_174_59).trans (z_iconst (by decide))
theorem mj_174_60 : mc_P 174 60 = some (.ireturn, 1, 0, 0, 0) := by decide +kernel
theorem s_174_60 {x0 x1 x2 x3 : Option Value} {x : Int32} : mw d 174 Q 60 [x0, x1, x2, x3] ([.int x]) h = (Q (some (.int x)) h) := (mw_at mj_174_60).trans (z_iret)
theorem mj_174_61 : mc_P 174 61 = some (.ldc 69, 2, 30, 1, 0) := by decide +kernel
theorem s_174_61 {x0 x1 x2 x3 : Option Value} : mw d 174 Q 61 [x0, x1, x2, x3] (st) h = mw d 174 Q 63 [x0, x1, x2, x3] (.retAddr 30 :: st) h := (mw_at mj_174_61).trans (z_ldcS)
theorem mj_174_63 : mc_P 174 63 = some (.iload_n 2, 1, 0, 0, 0) := by decide +kernel
theorem s_174_63 {x0 x1 x3 : Option Value} {w : Value} : mw d 174 Q 63 [x0, x1, some w, x3] (st) h = mv_i w (mw d 174 Q 64 [x0, x1, some w, x3] (w :: st) h) := (mw_at mj_174_63).trans (z_iload_n rfl)
theorem mj_174_64 : mc_P 174 64 = some (.i2c, 1, 0, 0, 0) := by decide +kernel
theorem s_174_64 {x0 x1 x2 x3 : Option Value} {x : Int32} : mw d 174 Q 64 [x0, x1, x2, x3] (.int x :: st) h = mw d 174 Q 65 [x0, x1, x2, x3] (.int (x.toUInt32 % 65536).toInt32 :: st) h := (mw_at mj_174_64).trans (z_i2c)
theorem mj_174_65 : mc_P 174 65 = some (.invokevirtual 71, 3, 399, 90, 2) := by decide +kernel
theorem s_174_65 {x0 x1 x2 x3 : Option Value} {o : Nat} {a1 : Value} : mw (d + 1) 174 Q 65 [x0, x1, x2, x3] (a1 :: .retAddr o :: st) h = (me_xs o = true ∧ mca st 8 ∧ mca [.retAddr o, a1] 2 ∧ mcall d 399 [.retAddr o, a1] h (mK (d + 1) 174 Q 68 [x0, x1, x2, x3] st)) := (mw_at mj_174_65).trans ((z_invx (As := [a1]) rfl rfl).trans (congrArg (And _) (congrArg (And _) (mC_nl nl_399))))
theorem mj_174_68 : mc_P 174 68 = some (.ifCond .lt 7, 3, 0, 0, 0) := by decide +kernel
theorem s_174_68 {x0 x1 x2 x3 : Option Value} {x : Int32} : mw d 174 Q 68 [x0, x1, x2, x3] (.int x :: st) h = mB (x < 0) (mw d 174 Q) 75 71 [x0, x1, x2, x3] st h := (mw_at mj_174_68).trans (z_if_lt (by decide) rfl)
theorem mj_174_71 : mc_P 174 71 = some (.iconst 1, 1, 0, 0, 0) := by decide +kernel
theorem s_174_71 {x0 x1 x2 x3 : Option Value} : mw d 174 Q 71 [x0, x1, x2, x3] (st) h = mw d 174 Q 72 [x0, x1, x2, x3] (.int 1 :: st) h := (mw_at mj_174_71).trans (z_iconst (by decide))
theorem mj_174_72 : mc_P 174 72 = some (.goto 4, 3, 0, 0, 0) := by decide +kernel
theorem s_174_72 {x0 x1 x2 x3 : Option Value} : mw d 174 Q 72 [x0, x1, x2, x3] (st) h = mw d 174 Q 76 [x0, x1, x2, x3] (st) h := (mw_at mj_174_72).trans (z_goto (by decide))
theorem mj_174_75 : mc_P 174 75 = some (.iconst 0, 1, 0, 0, 0) := by decide +kernel
theorem s_174_75 {x0 x1 x2 x3 : Option Value} : mw d 174 Q 75 [x0, x1, x2, x3] (st) h = mw d 174 Q 76 [x0, x1, x2, x3] (.int 0 :: st) h := (mw_at mj_174_75).trans (z_iconst (by decide))
theorem mj_174_76 : mc_P 174 76 = some (.ireturn, 1, 0, 0, 0) := by decide +kernel
theorem s_174_76 {x0 x1 x2 x3 : Option Value} {x : Int32} : mw d 174 Q 76 [x0, x1, x2, x3] ([.int x]) h = (Q (some (.int x)) h) := (mw_at mj_174_76).trans (z_iret)
theorem e_174 {a0 : Nat} {a1 : Int32} : mcall d 174 [.ref a0, .int a1] h Q = mw d 174 Q 0 [some (.ref a0), some (.int a1), none, none] [] h := by
  show mw d 174 Q 0 (me_en (mc_nl 174) _) [] h = _
  rw [nl_174]; rfl

/-! InvariantDesk$Tokens.nameWidth(I)I -/
theorem mj_175_0 : mc_P 175 0 = some (.iload_n 1, 1, 0, 0, 0) := by decide +kernel
theorem s_175_0 {x0 x2 x3 : Option Value} {w : Value} : mw d 175 Q 0 [x0, some w, x2, x3] (st) h = mv_i w (mw d 175 Q 1 [x0, some w, x2, x3] (w :: st) h) := (mw_at mj_175_0).trans (z_iload_n rfl)
theorem mj_175_1 : mc_P 175 1 = some (.istore_n 2, 1, 0, 0, 0) := by decide +kernel
theorem s_175_1 {x0 x1 x2 x3 : Option Value} {w : Int32} : mw d 175 Q 1 [x0, x1, x2, x3] (.int w :: st) h = mw d 175 Q 2 [x0, mk2 x1, some (.int w), x3] (st) h := (mw_at mj_175_1).trans (z_istore_n (Nat.le_of_ble_eq_true rfl) (me_s1_mk (j := 1) (w := x1) rfl))
theorem mj_175_2 : mc_P 175 2 = some (.iload_n 2, 1, 0, 0, 0) := by decide +kernel
theorem s_175_2 {x0 x1 x3 : Option Value} {w : Value} : mw d 175 Q 2 [x0, x1, some w, x3] (st) h = mv_i w (mw d 175 Q 3 [x0, x1, some w, x3] (w :: st) h) := (mw_at mj_175_2).trans (z_iload_n rfl)
theorem mj_175_3 : mc_P 175 3 = some (.aload_n 0, 1, 0, 0, 0) := by decide +kernel
theorem s_175_3 {x1 x2 x3 : Option Value} {w : Value} : mw d 175 Q 3 [some w, x1, x2, x3] (st) h = mv_a w (mw d 175 Q 4 [some w, x1, x2, x3] (w :: st) h) := (mw_at mj_175_3).trans (z_aload_n rfl)
theorem mj_175_4 : mc_P 175 4 = some (.getfield 15, 3, 10, 0, 0) := by decide +kernel
theorem s_175_4 {x0 x1 x2 x3 : Option Value} {o : Nat} : mw d 175 Q 4 [x0, x1, x2, x3] (.ref o :: st) h = (mg h o 10 ∧ mw d 175 Q 7 [x0, x1, x2, x3] (va_rf (mh_r h o 0) :: st) h) := (mw_at mj_175_4).trans (z_getr (by decide) (by decide) rfl)
theorem mj_175_7 : mc_P 175 7 = some (.arraylength, 1, 0, 0, 0) := by decide +kernel
theorem s_175_7 {x0 x1 x2 x3 : Option Value} {o : Nat} : mw d 175 Q 7 [x0, x1, x2, x3] (.ref o :: st) h = (mga h o ∧ mw d 175 Q 8 [x0, x1, x2, x3] (.int (Int32.ofNat (mh_l h o)) :: st) h) := (mw_at mj_175_7).trans (z_alen)
theorem mj_175_8 : mc_P 175 8 = some (.if_icmp .ge 33, 3, 0, 0, 0) := by decide +kernel
theorem s_175_8 {x0 x1 x2 x3 : Option Value} {x w : Int32} : mw d 175 Q 8 [x0, x1, x2, x3] (.int w :: .int x :: st) h = mB (w ≤ x) (mw d 175 Q) 41 11 [x0, x1, x2, x3] st h := (mw_at mj_175_8).trans (z_icmp_ge (by decide) rfl)
theorem mj_175_11 : mc_P 175 11 = some (.aload_n 0, 1, 0, 0, 0) := by decide +kernel
theorem s_175_11 {x1 x2 x3 : Option Value} {w : Value} : mw d 175 Q 11 [some w, x1, x2, x3] (st) h = mv_a w (mw d 175 Q 12 [some w, x1, x2, x3] (w :: st) h) := (mw_at mj_175_11).trans (z_aload_n rfl)
theorem mj_175_12 : mc_P 175 12 = some (.iload_n 2, 1, 0, 0, 0) := by decide +kernel
theorem s_175_12 {x0 x1 x3 : Option Value} {w : Value} : mw d 175 Q 12 [x0, x1, some w, x3] (st) h = mv_i w (mw d 175 Q 13 [x0, x1, some w, x3] (w :: st) h) := (mw_at mj_175_12).trans (z_iload_n rfl)
theorem mj_175_13 : mc_P 175 13 = some (.invokevirtual 50, 3, 170, 10, 2) := by decide +kernel
theorem s_175_13 {x0 x1 x2 x3 : Option Value} {o : Nat} {a1 : Value} : mw (d + 1) 175 Q 13 [x0, x1, x2, x3] (a1 :: .ref o :: st) h = (mg h o 10 ∧ mca st 8 ∧ mca [.ref o, a1] 2 ∧ mcall d 170 [.ref o, a1] h (mK (d + 1) 175 Q 16 [x0, x1, x2, x3] st)) := (mw_at mj_175_13).trans ((z_invv (As := [a1]) (by decide) rfl rfl).trans (congrArg (And _) (congrArg (And _) (mC_nl nl_170))))
theorem mj_175_16 : mc_P 175 16 = some (.istore_n 3, 1, 0, 0, 0) := by decide +kernel
theorem s_175_16 {x0 x1 x2 x3 : Option Value} {w : Int32} : mw d 175 Q 16 [x0, x1, x2, x3] (.int w :: st) h = mw d 175 Q 17 [x0, x1, mk2 x2, some (.int w)] (st) h := (mw_at mj_175_16).trans (z_istore_n (Nat.le_of_ble_eq_true rfl) (me_s1_mk (j := 2) (w := x2) rfl))
theorem mj_175_17 : mc_P 175 17 = some (.iload_n 3, 1, 0, 0, 0) := by decide +kernel
theorem s_175_17 {x0 x1 x2 : Option Value} {w : Value} : mw d 175 Q 17 [x0, x1, x2, some w] (st) h = mv_i w (mw d 175 Q 18 [x0, x1, x2, some w] (w :: st) h) := (mw_at mj_175_17).trans (z_iload_n rfl)
theorem mj_175_18 : mc_P 175 18 = some (.invokestatic 53, 3, 172, 0, 1) := by decide +kernel
theorem s_175_18 {x0 x1 x2 x3 : Option Value} {a0 : Value} : mw (d + 1) 175 Q 18 [x0, x1, x2, x3] (a0 :: st) h = (mca st 8 ∧ mca [a0] 1 ∧ mcall d 172 [a0] h (mK (d + 1) 175 Q 21 [x0, x1, x2, x3] st)) := (mw_at mj_175_18).trans ((z_invs (As := [a0]) rfl rfl).trans (congrArg (And _) (mC_nl nl_172)))
theorem mj_175_21 : mc_P 175 21 = some (.ifCond .ne 14, 3, 0, 0, 0) := by decide +kernel
theorem s_175_21 {x0 x1 x2 x3 : Option Value} {x : Int32} : mw d 175 Q 21 [x0, x1, x2, x3] (.int x :: st) h = mB (¬ x = 0) (mw d 175 Q) 35 24 [x0, x1, x2, x3] st h := (mw_at mj_175_21).trans (z_if_ne (by decide) rfl)
theorem mj_175_24 : mc_P 175 24 = some (.iload_n 3, 1, 0, 0, 0) := by decide +kernel
theorem s_175_24 {x0 x1 x2 : Option Value} {w : Value} : mw d 175 Q 24 [x0, x1, x2, some w] (st) h = mv_i w (mw d 175 Q 25 [x0, x1, x2, some w] (w :: st) h) := (mw_at mj_175_24).trans (z_iload_n rfl)
theorem mj_175_25 : mc_P 175 25 = some (.invokestatic 60, 3, 173, 0, 1) := by decide +kernel
theorem s_175_25 {x0 x1 x2 x3 : Option Value} {a0 : Value} : mw (d + 1) 175 Q 25 [x0, x1, x2, x3] (a0 :: st) h = (mca st 8 ∧ mca [a0] 1 ∧ mcall d 173 [a0] h (mK (d + 1) 175 Q 28 [x0, x1, x2, x3] st)) := (mw_at mj_175_25).trans ((z_invs (As := [a0]) rfl rfl).trans (congrArg (And _) (mC_nl nl_173)))
theorem mj_175_28 : mc_P 175 28 = some (.ifCond .ne 7, 3, 0, 0, 0) := by decide +kernel
theorem s_175_28 {x0 x1 x2 x3 : Option Value} {x : Int32} : mw d 175 Q 28 [x0, x1, x2, x3] (.int x :: st) h = mB (¬ x = 0) (mw d 175 Q) 35 31 [x0, x1, x2, x3] st h := (mw_at mj_175_28).trans (z_if_ne (by decide) rfl)
theorem mj_175_31 : mc_P 175 31 = some (.iload_n 2, 1, 0, 0, 0) := by decide +kernel
theorem s_175_31 {x0 x1 x3 : Option Value} {w : Value} : mw d 175 Q 31 [x0, x1, some w, x3] (st) h = mv_i w (mw d 175 Q 32 [x0, x1, some w, x3] (w :: st) h) := (mw_at mj_175_31).trans (z_iload_n rfl)
theorem mj_175_32 : mc_P 175 32 = some (.iload_n 1, 1, 0, 0, 0) := by decide +kernel
theorem s_175_32 {x0 x2 x3 : Option Value} {w : Value} : mw d 175 Q 32 [x0, some w, x2, x3] (st) h = mv_i w (mw d 175 Q 33 [x0, some w, x2, x3] (w :: st) h) := (mw_at mj_175_32).trans (z_iload_n rfl)
theorem mj_175_33 : mc_P 175 33 = some (.isub, 1, 0, 0, 0) := by decide +kernel
theorem s_175_33 {x0 x1 x2 x3 : Option Value} {x w : Int32} : mw d 175 Q 33 [x0, x1, x2, x3] (.int w :: .int x :: st) h = mw d 175 Q 34 [x0, x1, x2, x3] (.int (x - w) :: st) h := (mw_at mj_175_33).trans (z_isub)
theorem mj_175_34 : mc_P 175 34 = some (.ireturn, 1, 0, 0, 0) := by decide +kernel
theorem s_175_34 {x0 x1 x2 x3 : Option Value} {x : Int32} : mw d 175 Q 34 [x0, x1, x2, x3] ([.int x]) h = (Q (some (.int x)) h) := (mw_at mj_175_34).trans (z_iret)
theorem mj_175_35 : mc_P 175 35 = some (.iinc 2 1, 3, 0, 0, 0) := by decide +kernel
theorem s_175_35 {x0 x1 x3 : Option Value} {w : Int32} : mw d 175 Q 35 [x0, x1, some (.int w), x3] (st) h = mw d 175 Q 38 [x0, mk2 x1, some (.int (w + 1)), x3] (st) h := (mw_at mj_175_35).trans (z_iinc rfl (Nat.le_of_ble_eq_true rfl) (by decide) (me_s1_mk (j := 1) (w := x1) rfl))
theorem mj_175_38 : mc_P 175 38 = some (.goto (-36), 3, 0, 0, 0) := by decide +kernel
theorem s_175_38 {x0 x1 x2 x3 : Option Value} : mw d 175 Q 38 [x0, x1, x2, x3] (st) h = mw d 175 Q 2 [x0, x1, x2, x3] (st) h := (mw_at mj_175_38).trans (z_goto (by decide))
theorem mj_175_41 : mc_P 175 41 = some (.aload_n 0, 1, 0, 0, 0) := by decide +kernel
theorem s_175_41 {x1 x2 x3 : Option Value} {w : Value} : mw d 175 Q 41 [some w, x1, x2, x3] (st) h = mv_a w (mw d 175 Q 42 [some w, x1, x2, x3] (w :: st) h) := (mw_at mj_175_41).trans (z_aload_n rfl)
theorem mj_175_42 : mc_P 175 42 = some (.getfield 15, 3, 10, 0, 0) := by decide +kernel
theorem s_175_42 {x0 x1 x2 x3 : Option Value} {o : Nat} : mw d 175 Q 42 [x0, x1, x2, x3] (.ref o :: st) h = (mg h o 10 ∧ mw d 175 Q 45 [x0, x1, x2, x3] (va_rf (mh_r h o 0) :: st) h) := (mw_at mj_175_42).trans (z_getr (by decide) (by decide) rfl)
theorem mj_175_45 : mc_P 175 45 = some (.arraylength, 1, 0, 0, 0) := by decide +kernel
theorem s_175_45 {x0 x1 x2 x3 : Option Value} {o : Nat} : mw d 175 Q 45 [x0, x1, x2, x3] (.ref o :: st) h = (mga h o ∧ mw d 175 Q 46 [x0, x1, x2, x3] (.int (Int32.ofNat (mh_l h o)) :: st) h) := (mw_at mj_175_45).trans (z_alen)
theorem mj_175_46 : mc_P 175 46 = some (.iload_n 1, 1, 0, 0, 0) := by decide +kernel
theorem s_175_46 {x0 x2 x3 : Option Value} {w : Value} : mw d 175 Q 46 [x0, some w, x2, x3] (st) h = mv_i w (mw d 175 Q 47 [x0, some w, x2, x3] (w :: st) h) := (mw_at mj_175_46).trans (z_iload_n rfl)
theorem mj_175_47 : mc_P 175 47 = some (.isub, 1, 0, 0, 0) := by decide +kernel
theorem s_175_47 {x0 x1 x2 x3 : Option Value} {x w : Int32} : mw d 175 Q 47 [x0, x1, x2, x3] (.int w :: .int x :: st) h = mw d 175 Q 48 [x0, x1, x2, x3] (.int (x - w) :: st) h := (mw_at mj_175_47).trans (z_isub)
theorem mj_175_48 : mc_P 175 48 = some (.ireturn, 1, 0, 0, 0) := by decide +kernel
theorem s_175_48 {x0 x1 x2 x3 : Option Value} {x : Int32} : mw d 175 Q 48 [x0, x1, x2, x3] ([.int x]) h = (Q (some (.int x)) h) := (mw_at mj_175_48).trans (z_iret)
theorem e_175 {a0 : Nat} {a1 : Int32} : mcall d 175 [.ref a0, .int a1] h Q = mw d 175 Q 0 [some (.ref a0), some (.int a1), none, none] [] h := by
  show mw d 175 Q 0 (me_en (mc_nl 175) _) [] h = _
  rw [nl_175]; rfl

/-! InvariantDesk$Tokens.numberWidth(I)I -/
theorem mj_176_0 : mc_P 176 0 = some (.iconst 0, 1, 0, 0, 0) := by decide +kernel
theorem s_176_0 {x0 x1 x2 x3 x4 : Option Value} : mw d 176 Q 0 [x0, x1, x2, x3, x4] (st) h = mw d 176 Q 1 [x0, x1, x2, x3, x4] (.int 0 :: st) h := (mw_at mj_176_0).trans (z_iconst (by decide))
theorem mj_176_1 : mc_P 176 1 = some (.istore_n 2, 1, 0, 0, 0) := by decide +kernel
theorem s_176_1 {x0 x1 x2 x3 x4 : Option Value} {w : Int32} : mw d 176 Q 1 [x0, x1, x2, x3, x4] (.int w :: st) h = mw d 176 Q 2 [x0, mk2 x1, some (.int w), x3, x4] (st) h := (mw_at mj_176_1).trans (z_istore_n (Nat.le_of_ble_eq_true rfl) (me_s1_mk (j := 1) (w := x1) rfl))
theorem mj_176_2 : mc_P 176 2 = some (.iload_n 1, 1, 0, 0, 0) := by decide +kernel
theorem s_176_2 {x0 x2 x3 x4 : Option Value} {w : Value} : mw d 176 Q 2 [x0, some w, x2, x3, x4] (st) h = mv_i w (mw d 176 Q 3 [x0, some w, x2, x3, x4] (w :: st) h) := (mw_at mj_176_2).trans (z_iload_n rfl)
theorem mj_176_3 : mc_P 176 3 = some (.istore_n 3, 1, 0, 0, 0) := by decide +kernel
theorem s_176_3 {x0 x1 x2 x3 x4 : Option Value} {w : Int32} : mw d 176 Q 3 [x0, x1, x2, x3, x4] (.int w :: st) h = mw d 176 Q 4 [x0, x1, mk2 x2, some (.int w), x4] (st) h := (mw_at mj_176_3).trans (z_istore_n (Nat.le_of_ble_eq_true rfl) (me_s1_mk (j := 2) (w := x2) rfl))
theorem mj_176_4 : mc_P 176 4 = some (.iload_n 3, 1, 0, 0, 0) := by decide +kernel
theorem s_176_4 {x0 x1 x2 x4 : Option Value} {w : Value} : mw d 176 Q 4 [x0, x1, x2, some w, x4] (st) h = mv_i w (mw d 176 Q 5 [x0, x1, x2, some w, x4] (w :: st) h) := (mw_at mj_176_4).trans (z_iload_n rfl)
theorem mj_176_5 : mc_P 176 5 = some (.aload_n 0, 1, 0, 0, 0) := by decide +kernel
theorem s_176_5 {x1 x2 x3 x4 : Option Value} {w : Value} : mw d 176 Q 5 [some w, x1, x2, x3, x4] (st) h = mv_a w (mw d 176 Q 6 [some w, x1, x2, x3, x4] (w :: st) h) := (mw_at mj_176_5).trans (z_aload_n rfl)
theorem mj_176_6 : mc_P 176 6 = some (.getfield 15, 3, 10, 0, 0) := by decide +kernel
theorem s_176_6 {x0 x1 x2 x3 x4 : Option Value} {o : Nat} : mw d 176 Q 6 [x0, x1, x2, x3, x4] (.ref o :: st) h = (mg h o 10 ∧ mw d 176 Q 9 [x0, x1, x2, x3, x4] (va_rf (mh_r h o 0) :: st) h) := (mw_at mj_176_6).trans (z_getr (by decide) (by decide) rfl)
theorem mj_176_9 : mc_P 176 9 = some (.arraylength, 1, 0, 0, 0) := by decide +kernel
theorem s_176_9 {x0 x1 x2 x3 x4 : Option Value} {o : Nat} : mw d 176 Q 9 [x0, x1, x2, x3, x4] (.ref o :: st) h = (mga h o ∧ mw d 176 Q 10 [x0, x1, x2, x3, x4] (.int (Int32.ofNat (mh_l h o)) :: st) h) := (mw_at mj_176_9).trans (z_alen)
theorem mj_176_10 : mc_P 176 10 = some (.if_icmp .ge 23, 3, 0, 0, 0) := by decide +kernel
theorem s_176_10 {x0 x1 x2 x3 x4 : Option Value} {x w : Int32} : mw d 176 Q 10 [x0, x1, x2, x3, x4] (.int w :: .int x :: st) h = mB (w ≤ x) (mw d 176 Q) 33 13 [x0, x1, x2, x3, x4] st h := (mw_at mj_176_10).trans (z_icmp_ge (by decide) rfl)
theorem mj_176_13 : mc_P 176 13 = some (.aload_n 0, 1, 0, 0, 0) := by decide +kernel
theorem s_176_13 {x1 x2 x3 x4 : Option Value} {w : Value} : mw d 176 Q 13 [some w, x1, x2, x3, x4] (st) h = mv_a w (mw d 176 Q 14 [some w, x1, x2, x3, x4] (w :: st) h) := (mw_at mj_176_13).trans (z_aload_n rfl)
theorem mj_176_14 : mc_P 176 14 = some (.iload_n 3, 1, 0, 0, 0) := by decide +kernel
theorem s_176_14 {x0 x1 x2 x4 : Option Value} {w : Value} : mw d 176 Q 14 [x0, x1, x2, some w, x4] (st) h = mv_i w (mw d 176 Q 15 [x0, x1, x2, some w, x4] (w :: st) h) := (mw_at mj_176_14).trans (z_iload_n rfl)
theorem mj_176_15 : mc_P 176 15 = some (.invokevirtual 50, 3, 170, 10, 2) := by decide +kernel
theorem s_176_15 {x0 x1 x2 x3 x4 : Option Value} {o : Nat} {a1 : Value} : mw (d + 1) 176 Q 15 [x0, x1, x2, x3, x4] (a1 :: .ref o :: st) h = (mg h o 10 ∧ mca st 8 ∧ mca [.ref o, a1] 2 ∧ mcall d 170 [.ref o, a1] h (mK (d + 1) 176 Q 18 [x0, x1, x2, x3, x4] st)) := (mw_at mj_176_15).trans ((z_invv (As := [a1]) (by decide) rfl rfl).trans (congrArg (And _) (congrArg (And _) (mC_nl nl_170))))
theorem mj_176_18 : mc_P 176 18 = some (.invokestatic 60, 3, 173, 0, 1) := by decide +kernel
theorem s_176_18 {x0 x1 x2 x3 x4 : Option Value} {a0 : Value} : mw (d + 1) 176 Q 18 [x0, x1, x2, x3, x4] (a0 :: st) h = (mca st 8 ∧ mca [a0] 1 ∧ mcall d 173 [a0] h (mK (d + 1) 176 Q 21 [x0, x1, x2, x3, x4] st)) := (mw_at mj_176_18).trans ((z_invs (As := [a0]) rfl rfl).trans (congrArg (And _) (mC_nl nl_173)))
theorem mj_176_21 : mc_P 176 21 = some (.ifCond .eq 12, 3, 0, 0, 0) := by decide +kernel
theorem s_176_21 {x0 x1 x2 x3 x4 : Option Value} {x : Int32} : mw d 176 Q 21 [x0, x1, x2, x3, x4] (.int x :: st) h = mB (x = 0) (mw d 176 Q) 33 24 [x0, x1, x2, x3, x4] st h := (mw_at mj_176_21).trans (z_if_eq (by decide) rfl)
theorem mj_176_24 : mc_P 176 24 = some (.iinc 2 1, 3, 0, 0, 0) := by decide +kernel
theorem s_176_24 {x0 x1 x3 x4 : Option Value} {w : Int32} : mw d 176 Q 24 [x0, x1, some (.int w), x3, x4] (st) h = mw d 176 Q 27 [x0, mk2 x1, some (.int (w + 1)), x3, x4] (st) h := (mw_at mj_176_24).trans (z_iinc rfl (Nat.le_of_ble_eq_true rfl) (by decide) (me_s1_mk (j := 1) (w := x1) rfl))
theorem mj_176_27 : mc_P 176 27 = some (.iinc 3 1, 3, 0, 0, 0) := by decide +kernel
theorem s_176_27 {x0 x1 x2 x4 : Option Value} {w : Int32} : mw d 176 Q 27 [x0, x1, x2, some (.int w), x4] (st) h = mw d 176 Q 30 [x0, x1, mk2 x2, some (.int (w + 1)), x4] (st) h := (mw_at mj_176_27).trans (z_iinc rfl (Nat.le_of_ble_eq_true rfl) (by decide) (me_s1_mk (j := 2) (w := x2) rfl))
theorem mj_176_30 : mc_P 176 30 = some (.goto (-26), 3, 0, 0, 0) := by decide +kernel
theorem s_176_30 {x0 x1 x2 x3 x4 : Option Value} : mw d 176 Q 30 [x0, x1, x2, x3, x4] (st) h = mw d 176 Q 4 [x0, x1, x2, x3, x4] (st) h := (mw_at mj_176_30).trans (z_goto (by decide))
theorem mj_176_33 : mc_P 176 33 = some (.iload_n 2, 1, 0, 0, 0) := by decide +kernel
theorem s_176_33 {x0 x1 x3 x4 : Option Value} {w : Value} : mw d 176 Q 33 [x0, x1, some w, x3, x4] (st) h = mv_i w (mw d 176 Q 34 [x0, x1, some w, x3, x4] (w :: st) h) := (mw_at mj_176_33).trans (z_iload_n rfl)
theorem mj_176_34 : mc_P 176 34 = some (.iconst 1, 1, 0, 0, 0) := by decide +kernel
theorem s_176_34 {x0 x1 x2 x3 x4 : Option Value} : mw d 176 Q 34 [x0, x1, x2, x3, x4] (st) h = mw d 176 Q 35 [x0, x1, x2, x3, x4] (.int 1 :: st) h := (mw_at mj_176_34).trans (z_iconst (by decide))
theorem mj_176_35 : mc_P 176 35 = some (.if_icmp .le 17, 3, 0, 0, 0) := by decide +kernel
theorem s_176_35 {x0 x1 x2 x3 x4 : Option Value} {x w : Int32} : mw d 176 Q 35 [x0, x1, x2, x3, x4] (.int w :: .int x :: st) h = mB (x ≤ w) (mw d 176 Q) 52 38 [x0, x1, x2, x3, x4] st h := (mw_at mj_176_35).trans (z_icmp_le (by decide) rfl)
theorem mj_176_38 : mc_P 176 38 = some (.aload_n 0, 1, 0, 0, 0) := by decide +kernel
theorem s_176_38 {x1 x2 x3 x4 : Option Value} {w : Value} : mw d 176 Q 38 [some w, x1, x2, x3, x4] (st) h = mv_a w (mw d 176 Q 39 [some w, x1, x2, x3, x4] (w :: st) h) := (mw_at mj_176_38).trans (z_aload_n rfl)
theorem mj_176_39 : mc_P 176 39 = some (.iload_n 1, 1, 0, 0, 0) := by decide +kernel
theorem s_176_39 {x0 x2 x3 x4 : Option Value} {w : Value} : mw d 176 Q 39 [x0, some w, x2, x3, x4] (st) h = mv_i w (mw d 176 Q 40 [x0, some w, x2, x3, x4] (w :: st) h) := (mw_at mj_176_39).trans (z_iload_n rfl)
theorem mj_176_40 : mc_P 176 40 = some (.invokevirtual 50, 3, 170, 10, 2) := by decide +kernel
theorem s_176_40 {x0 x1 x2 x3 x4 : Option Value} {o : Nat} {a1 : Value} : mw (d + 1) 176 Q 40 [x0, x1, x2, x3, x4] (a1 :: .ref o :: st) h = (mg h o 10 ∧ mca st 8 ∧ mca [.ref o, a1] 2 ∧ mcall d 170 [.ref o, a1] h (mK (d + 1) 176 Q 43 [x0, x1, x2, x3, x4] st)) := (mw_at mj_176_40).trans ((z_invv (As := [a1]) (by decide) rfl rfl).trans (congrArg (And _) (congrArg (And _) (mC_nl nl_170))))
theorem mj_176_43 : mc_P 176 43 = some (.bipush 48, 2, 0, 0, 0) := by decide +kernel
theorem s_176_43 {x0 x1 x2 x3 x4 : Option Value} : mw d 176 Q 43 [x0, x1, x2, x3, x4] (st) h = mw d 176 Q 45 [x0, x1, x2, x3, x4] (.int 48 :: st) h := (mw_at mj_176_43).trans (z_bipush (by decide))
theorem mj_176_45 : mc_P 176 45 = some (.if_icmp .ne 7, 3, 0, 0, 0) := by decide +kernel
theorem s_176_45 {x0 x1 x2 x3 x4 : Option Value} {x w : Int32} : mw d 176 Q 45 [x0, x1, x2, x3, x4] (.int w :: .int x :: st) h = mB (¬ x = w) (mw d 176 Q) 52 48 [x0, x1, x2, x3, x4] st h := (mw_at mj_176_45).trans (z_icmp_ne (by decide) rfl)
theorem mj_176_48 : mc_P 176 48 = some (.iconst 1, 1, 0, 0, 0) := by decide +kernel
theorem s_176_48 {x0 x1 x2 x3 x4 : Option Value} : mw d 176 Q 48 [x0, x1, x2, x3, x4] (st) h = mw d 176 Q 49 [x0, x1, x2, x3, x4] (.int 1 :: st) h := (mw_at mj_176_48).trans (z_iconst (by decide))
theorem mj_176_49 : mc_P 176 49 = some (.goto 4, 3, 0, 0, 0) := by decide +kernel
theorem s_176_49 {x0 x1 x2 x3 x4 : Option Value} : mw d 176 Q 49 [x0, x1, x2, x3, x4] (st) h = mw d 176 Q 53 [x0, x1, x2, x3, x4] (st) h := (mw_at mj_176_49).trans (z_goto (by decide))
theorem mj_176_52 : mc_P 176 52 = some (.iconst 0, 1, 0, 0, 0) := by decide +kernel
theorem s_176_52 {x0 x1 x2 x3 x4 : Option Value} : mw d 176 Q 52 [x0, x1, x2, x3, x4] (st) h = mw d 176 Q 53 [x0, x1, x2, x3, x4] (.int 0 :: st) h := (mw_at mj_176_52).trans (z_iconst (by decide))
theorem mj_176_53 : mc_P 176 53 = some (.istore_n 3, 1, 0, 0, 0) := by decide +kernel
theorem s_176_53 {x0 x1 x2 x3 x4 : Option Value} {w : Int32} : mw d 176 Q 53 [x0, x1, x2, x3, x4] (.int w :: st) h = mw d 176 Q 54 [x0, x1, mk2 x2, some (.int w), x4] (st) h := (mw_at mj_176_53).trans (z_istore_n (Nat.le_of_ble_eq_true rfl) (me_s1_mk (j := 2) (w := x2) rfl))
theorem mj_176_54 : mc_P 176 54 = some (.aload_n 0, 1, 0, 0, 0) := by decide +kernel
theorem s_176_54 {x1 x2 x3 x4 : Option Value} {w : Value} : mw d 176 Q 54 [some w, x1, x2, x3, x4] (st) h = mv_a w (mw d 176 Q 55 [some w, x1, x2, x3, x4] (w :: st) h) := (mw_at mj_176_54).trans (z_aload_n rfl)
theorem mj_176_55 : mc_P 176 55 = some (.iload_n 1, 1, 0, 0, 0) := by decide +kernel
theorem s_176_55 {x0 x2 x3 x4 : Option Value} {w : Value} : mw d 176 Q 55 [x0, some w, x2, x3, x4] (st) h = mv_i w (mw d 176 Q 56 [x0, some w, x2, x3, x4] (w :: st) h) := (mw_at mj_176_55).trans (z_iload_n rfl)
theorem mj_176_56 : mc_P 176 56 = some (.iload_n 2, 1, 0, 0, 0) := by decide +kernel
theorem s_176_56 {x0 x1 x3 x4 : Option Value} {w : Value} : mw d 176 Q 56 [x0, x1, some w, x3, x4] (st) h = mv_i w (mw d 176 Q 57 [x0, x1, some w, x3, x4] (w :: st) h) := (mw_at mj_176_56).trans (z_iload_n rfl)
theorem mj_176_57 : mc_P 176 57 = some (.iadd, 1, 0, 0, 0) := by decide +kernel
theorem s_176_57 {x0 x1 x2 x3 x4 : Option Value} {x w : Int32} : mw d 176 Q 57 [x0, x1, x2, x3, x4] (.int w :: .int x :: st) h = mw d 176 Q 58 [x0, x1, x2, x3, x4] (.int (x + w) :: st) h := (mw_at mj_176_57).trans (z_iadd)
theorem mj_176_58 : mc_P 176 58 = some (.invokevirtual 50, 3, 170, 10, 2) := by decide +kernel
theorem s_176_58 {x0 x1 x2 x3 x4 : Option Value} {o : Nat} {a1 : Value} : mw (d + 1) 176 Q 58 [x0, x1, x2, x3, x4] (a1 :: .ref o :: st) h = (mg h o 10 ∧ mca st 8 ∧ mca [.ref o, a1] 2 ∧ mcall d 170 [.ref o, a1] h (mK (d + 1) 176 Q 61 [x0, x1, x2, x3, x4] st)) := (mw_at mj_176_58).trans ((z_invv (As := [a1]) (by decide) rfl rfl).trans (congrArg (And _) (congrArg (And _) (mC_nl nl_170))))
theorem mj_176_61 : mc_P 176 61 = some (.invokestatic 53, 3, 172, 0, 1) := by decide +kernel
theorem s_176_61 {x0 x1 x2 x3 x4 : Option Value} {a0 : Value} : mw (d + 1) 176 Q 61 [x0, x1, x2, x3, x4] (a0 :: st) h = (mca st 8 ∧ mca [a0] 1 ∧ mcall d 172 [a0] h (mK (d + 1) 176 Q 64 [x0, x1, x2, x3, x4] st)) := (mw_at mj_176_61).trans ((z_invs (As := [a0]) rfl rfl).trans (congrArg (And _) (mC_nl nl_172)))
theorem mj_176_64 : mc_P 176 64 = some (.istore 4, 2, 0, 0, 0) := by decide +kernel
theorem s_176_64 {x0 x1 x2 x3 x4 : Option Value} {w : Int32} : mw d 176 Q 64 [x0, x1, x2, x3, x4] (.int w :: st) h = mw d 176 Q 66 [x0, x1, x2, mk2 x3, some (.int w)] (st) h := (mw_at mj_176_64).trans (z_istore (Nat.le_of_ble_eq_true rfl) (me_s1_mk (j := 3) (w := x3) rfl))
theorem mj_176_66 : mc_P 176 66 = some (.iload_n 3, 1, 0, 0, 0) := by decide +kernel
theorem s_176_66 {x0 x1 x2 x4 : Option Value} {w : Value} : mw d 176 Q 66 [x0, x1, x2, some w, x4] (st) h = mv_i w (mw d 176 Q 67 [x0, x1, x2, some w, x4] (w :: st) h) := (mw_at mj_176_66).trans (z_iload_n rfl)
theorem mj_176_67 : mc_P 176 67 = some (.ifCond .ne 20, 3, 0, 0, 0) := by decide +kernel
theorem s_176_67 {x0 x1 x2 x3 x4 : Option Value} {x : Int32} : mw d 176 Q 67 [x0, x1, x2, x3, x4] (.int x :: st) h = mB (¬ x = 0) (mw d 176 Q) 87 70 [x0, x1, x2, x3, x4] st h := (mw_at mj_176_67).trans (z_if_ne (by decide) rfl)
theorem mj_176_70 : mc_P 176 70 = some (.iload 4, 2, 0, 0, 0) := by decide +kernel
theorem s_176_70 {x0 x1 x2 x3 : Option Value} {w : Value} : mw d 176 Q 70 [x0, x1, x2, x3, some w] (st) h = mv_i w (mw d 176 Q 72 [x0, x1, x2, x3, some w] (w :: st) h) := (mw_at mj_176_70).trans (z_iload rfl)
theorem mj_176_72 : mc_P 176 72 = some (.ifCond .ne 15, 3, 0, 0, 0) := by decide +kernel
theorem s_176_72 {x0 x1 x2 x3 x4 : Option Value} {x : Int32} : mw d 176 Q 72 [x0, x1, x2, x3, x4] (.int x :: st) h = mB (¬ x = 0) (mw d 176 Q) 87 75 [x0, x1, x2, x3, x4] st h := (mw_at mj_176_72).trans (z_if_ne (by decide) rfl)
theorem mj_176_75 : mc_P 176 75 = some (.aload_n 0, 1, 0, 0, 0) := by decide +kernel
theorem s_176_75 {x1 x2 x3 x4 : Option Value} {w : Value} : mw d 176 Q 75 [some w, x1, x2, x3, x4] (st) h = mv_a w (mw d 176 Q 76 [some w, x1, x2, x3, x4] (w :: st) h) := (mw_at mj_176_75).trans (z_aload_n rfl)
theorem mj_176_76 : mc_P 176 76 = some (.iload_n 1, 1, 0, 0, 0) := by decide +kernel
theorem s_176_76 {x0 x2 x3 x4 : Option Value} {w : Value} : mw d 176 Q 76 [x0, some w, x2, x3, x4] (st) h = mv_i w (mw d 176 Q 77 [x0, some w, x2, x3, x4] (w :: st) h) := (mw_at mj_176_76).trans (z_iload_n rfl)
theorem mj_176_77 : mc_P 176 77 = some (.invokevirtual 76, 3, 177, 10, 2) := by decide +kernel
theorem s_176_77 {x0 x1 x2 x3 x4 : Option Value} {o : Nat} {a1 : Value} : mw (d + 1) 176 Q 77 [x0, x1, x2, x3, x4] (a1 :: .ref o :: st) h = (mg h o 10 ∧ mca st 8 ∧ mca [.ref o, a1] 5 ∧ mcall d 177 [.ref o, a1] h (mK (d + 1) 176 Q 80 [x0, x1, x2, x3, x4] st)) := (mw_at mj_176_77).trans ((z_invv (As := [a1]) (by decide) rfl rfl).trans (congrArg (And _) (congrArg (And _) (mC_nl nl_177))))
theorem mj_176_80 : mc_P 176 80 = some (.ldc2_w 80, 3, 0, 0, 2147483647) := by decide +kernel
theorem s_176_80 {x0 x1 x2 x3 x4 : Option Value} : mw d 176 Q 80 [x0, x1, x2, x3, x4] (st) h = mw d 176 Q 83 [x0, x1, x2, x3, x4] (.long 2147483647 :: st) h := (mw_at mj_176_80).trans (z_ldc2 (by decide))
theorem mj_176_83 : mc_P 176 83 = some (.lcmp, 1, 0, 0, 0) := by decide +kernel
theorem s_176_83 {x0 x1 x2 x3 x4 : Option Value} {x w : Int64} : mw d 176 Q 83 [x0, x1, x2, x3, x4] (.long w :: .long x :: st) h = mw d 176 Q 84 [x0, x1, x2, x3, x4] (.int (lg_cmp x w) :: st) h := (mw_at mj_176_83).trans (z_lcmp)
theorem mj_176_84 : mc_P 176 84 = some (.ifCond .le 7, 3, 0, 0, 0) := by decide +kernel
theorem s_176_84 {x0 x1 x2 x3 x4 : Option Value} {x : Int32} : mw d 176 Q 84 [x0, x1, x2, x3, x4] (.int x :: st) h = mB (x ≤ 0) (mw d 176 Q) 91 87 [x0, x1, x2, x3, x4] st h := (mw_at mj_176_84).trans (z_if_le (by decide) rfl)
theorem mj_176_87 : mc_P 176 87 = some (.iconst 0, 1, 0, 0, 0) := by decide +kernel
theorem s_176_87 {x0 x1 x2 x3 x4 : Option Value} : mw d 176 Q 87 [x0, x1, x2, x3, x4] (st) h = mw d 176 Q 88 [x0, x1, x2, x3, x4] (.int 0 :: st) h := (mw_at mj_176_87).trans (z_iconst (by decide))
theorem mj_176_88 : mc_P 176 88 = some (.goto 4, 3, 0, 0, 0) := by decide +kernel
theorem s_176_88 {x0 x1 x2 x3 x4 : Option Value} : mw d 176 Q 88 [x0, x1, x2, x3, x4] (st) h = mw d 176 Q 92 [x0, x1, x2, x3, x4] (st) h := (mw_at mj_176_88).trans (z_goto (by decide))
theorem mj_176_91 : mc_P 176 91 = some (.iload_n 2, 1, 0, 0, 0) := by decide +kernel
theorem s_176_91 {x0 x1 x3 x4 : Option Value} {w : Value} : mw d 176 Q 91 [x0, x1, some w, x3, x4] (st) h = mv_i w (mw d 176 Q 92 [x0, x1, some w, x3, x4] (w :: st) h) := (mw_at mj_176_91).trans (z_iload_n rfl)
theorem mj_176_92 : mc_P 176 92 = some (.ireturn, 1, 0, 0, 0) := by decide +kernel
theorem s_176_92 {x0 x1 x2 x3 x4 : Option Value} {x : Int32} : mw d 176 Q 92 [x0, x1, x2, x3, x4] ([.int x]) h = (Q (some (.int x)) h) := (mw_at mj_176_92).trans (z_iret)
theorem e_176 {a0 : Nat} {a1 : Int32} : mcall d 176 [.ref a0, .int a1] h Q = mw d 176 Q 0 [some (.ref a0), some (.int a1), none, none, none] [] h := by
  show mw d 176 Q 0 (me_en (mc_nl 176) _) [] h = _
  rw [nl_176]; rfl

/-! InvariantDesk$Tokens.numberAt(I)J -/
theorem mj_177_0 : mc_P 177 0 = some (.lconst 0, 1, 0, 0, 0) := by decide +kernel
theorem s_177_0 {x0 x1 x2 x3 x4 : Option Value} : mw d 177 Q 0 [x0, x1, x2, x3, x4] (st) h = mw d 177 Q 1 [x0, x1, x2, x3, x4] (.long 0 :: st) h := (mw_at mj_177_0).trans (z_lconst (by decide))
theorem mj_177_1 : mc_P 177 1 = some (.lstore_n 2, 1, 0, 0, 0) := by decide +kernel
theorem s_177_1 {x0 x1 x2 x3 x4 : Option Value} {w : Int64} : mw d 177 Q 1 [x0, x1, x2, x3, x4] (.long w :: st) h = mw d 177 Q 2 [x0, mk2 x1, some (.long w), none, x4] (st) h := (mw_at mj_177_1).trans (z_lstore_n (Nat.le_of_ble_eq_true rfl) (me_s2_mk (j := 1) (w := x1) rfl))
theorem mj_177_2 : mc_P 177 2 = some (.iload_n 1, 1, 0, 0, 0) := by decide +kernel
theorem s_177_2 {x0 x2 x3 x4 : Option Value} {w : Value} : mw d 177 Q 2 [x0, some w, x2, x3, x4] (st) h = mv_i w (mw d 177 Q 3 [x0, some w, x2, x3, x4] (w :: st) h) := (mw_at mj_177_2).trans (z_iload_n rfl)
theorem mj_177_3 : mc_P 177 3 = some (.istore 4, 2, 0, 0, 0) := by decide +kernel
theorem s_177_3 {x0 x1 x2 x3 x4 : Option Value} {w : Int32} : mw d 177 Q 3 [x0, x1, x2, x3, x4] (.int w :: st) h = mw d 177 Q 5 [x0, x1, x2, mk2 x3, some (.int w)] (st) h := (mw_at mj_177_3).trans (z_istore (Nat.le_of_ble_eq_true rfl) (me_s1_mk (j := 3) (w := x3) rfl))
theorem mj_177_5 : mc_P 177 5 = some (.iload 4, 2, 0, 0, 0) := by decide +kernel
theorem s_177_5 {x0 x1 x2 x3 : Option Value} {w : Value} : mw d 177 Q 5 [x0, x1, x2, x3, some w] (st) h = mv_i w (mw d 177 Q 7 [x0, x1, x2, x3, some w] (w :: st) h) := (mw_at mj_177_5).trans (z_iload rfl)
theorem mj_177_7 : mc_P 177 7 = some (.aload_n 0, 1, 0, 0, 0) := by decide +kernel
theorem s_177_7 {x1 x2 x3 x4 : Option Value} {w : Value} : mw d 177 Q 7 [some w, x1, x2, x3, x4] (st) h = mv_a w (mw d 177 Q 8 [some w, x1, x2, x3, x4] (w :: st) h) := (mw_at mj_177_7).trans (z_aload_n rfl)
theorem mj_177_8 : mc_P 177 8 = some (.getfield 15, 3, 10, 0, 0) := by decide +kernel
theorem s_177_8 {x0 x1 x2 x3 x4 : Option Value} {o : Nat} : mw d 177 Q 8 [x0, x1, x2, x3, x4] (.ref o :: st) h = (mg h o 10 ∧ mw d 177 Q 11 [x0, x1, x2, x3, x4] (va_rf (mh_r h o 0) :: st) h) := (mw_at mj_177_8).trans (z_getr (by decide) (by decide) rfl)
theorem mj_177_11 : mc_P 177 11 = some (.arraylength, 1, 0, 0, 0) := by decide +kernel
theorem s_177_11 {x0 x1 x2 x3 x4 : Option Value} {o : Nat} : mw d 177 Q 11 [x0, x1, x2, x3, x4] (.ref o :: st) h = (mga h o ∧ mw d 177 Q 12 [x0, x1, x2, x3, x4] (.int (Int32.ofNat (mh_l h o)) :: st) h) := (mw_at mj_177_11).trans (z_alen)
theorem mj_177_12 : mc_P 177 12 = some (.if_icmp .ge 47, 3, 0, 0, 0) := by decide +kernel
theorem s_177_12 {x0 x1 x2 x3 x4 : Option Value} {x w : Int32} : mw d 177 Q 12 [x0, x1, x2, x3, x4] (.int w :: .int x :: st) h = mB (w ≤ x) (mw d 177 Q) 59 15 [x0, x1, x2, x3, x4] st h := (mw_at mj_177_12).trans (z_icmp_ge (by decide) rfl)
theorem mj_177_15 : mc_P 177 15 = some (.aload_n 0, 1, 0, 0, 0) := by decide +kernel
theorem s_177_15 {x1 x2 x3 x4 : Option Value} {w : Value} : mw d 177 Q 15 [some w, x1, x2, x3, x4] (st) h = mv_a w (mw d 177 Q 16 [some w, x1, x2, x3, x4] (w :: st) h) := (mw_at mj_177_15).trans (z_aload_n rfl)
theorem mj_177_16 : mc_P 177 16 = some (.iload 4, 2, 0, 0, 0) := by decide +kernel
theorem s_177_16 {x0 x1 x2 x3 : Option Value} {w : Value} : mw d 177 Q 16 [x0, x1, x2, x3, some w] (st) h = mv_i w (mw d 177 Q 18 [x0, x1, x2, x3, some w] (w :: st) h) := (mw_at mj_177_16).trans (z_iload rfl)
theorem mj_177_18 : mc_P 177 18 = some (.invokevirtual 50, 3, 170, 10, 2) := by decide +kernel
theorem s_177_18 {x0 x1 x2 x3 x4 : Option Value} {o : Nat} {a1 : Value} : mw (d + 1) 177 Q 18 [x0, x1, x2, x3, x4] (a1 :: .ref o :: st) h = (mg h o 10 ∧ mca st 8 ∧ mca [.ref o, a1] 2 ∧ mcall d 170 [.ref o, a1] h (mK (d + 1) 177 Q 21 [x0, x1, x2, x3, x4] st)) := (mw_at mj_177_18).trans ((z_invv (As := [a1]) (by decide) rfl rfl).trans (congrArg (And _) (congrArg (And _) (mC_nl nl_170))))
theorem mj_177_21 : mc_P 177 21 = some (.invokestatic 60, 3, 173, 0, 1) := by decide +kernel
theorem s_177_21 {x0 x1 x2 x3 x4 : Option Value} {a0 : Value} : mw (d + 1) 177 Q 21 [x0, x1, x2, x3, x4] (a0 :: st) h = (mca st 8 ∧ mca [a0] 1 ∧ mcall d 173 [a0] h (mK (d + 1) 177 Q 24 [x0, x1, x2, x3, x4] st)) := (mw_at mj_177_21).trans ((z_invs (As := [a0]) rfl rfl).trans (congrArg (And _) (mC_nl nl_173)))
theorem mj_177_24 : mc_P 177 24 = some (.ifCond .eq 35, 3, 0, 0, 0) := by decide +kernel
theorem s_177_24 {x0 x1 x2 x3 x4 : Option Value} {x : Int32} : mw d 177 Q 24 [x0, x1, x2, x3, x4] (.int x :: st) h = mB (x = 0) (mw d 177 Q) 59 27 [x0, x1, x2, x3, x4] st h := (mw_at mj_177_24).trans (z_if_eq (by decide) rfl)
theorem mj_177_27 : mc_P 177 27 = some (.lload_n 2, 1, 0, 0, 0) := by decide +kernel
theorem s_177_27 {x0 x1 x3 x4 : Option Value} {w : Value} : mw d 177 Q 27 [x0, x1, some w, x3, x4] (st) h = mv_l w (mw d 177 Q 28 [x0, x1, some w, x3, x4] (w :: st) h) := (mw_at mj_177_27).trans (z_lload_n rfl)
theorem mj_177_28 : mc_P 177 28 = some (.ldc2_w 80, 3, 0, 0, 2147483647) := by decide +kernel
theorem s_177_28 {x0 x1 x2 x3 x4 : Option Value} : mw d 177 Q 28 [x0, x1, x2, x3, x4] (st) h = mw d 177 Q 31 [x0, x1, x2, x3, x4] (.long 2147483647 :: st) h := (mw_at mj_177_28).trans (z_ldc2 (by decide))
theorem mj_177_31 : mc_P 177 31 = some (.lcmp, 1, 0, 0, 0) := by decide +kernel
theorem s_177_31 {x0 x1 x2 x3 x4 : Option Value} {x w : Int64} : mw d 177 Q 31 [x0, x1, x2, x3, x4] (.long w :: .long x :: st) h = mw d 177 Q 32 [x0, x1, x2, x3, x4] (.int (lg_cmp x w) :: st) h := (mw_at mj_177_31).trans (z_lcmp)
theorem mj_177_32 : mc_P 177 32 = some (.ifCond .gt 27, 3, 0, 0, 0) := by decide +kernel
theorem s_177_32 {x0 x1 x2 x3 x4 : Option Value} {x : Int32} : mw d 177 Q 32 [x0, x1, x2, x3, x4] (.int x :: st) h = mB (0 < x) (mw d 177 Q) 59 35 [x0, x1, x2, x3, x4] st h := (mw_at mj_177_32).trans (z_if_gt (by decide) rfl)
theorem mj_177_35 : mc_P 177 35 = some (.ldc2_w 82, 3, 0, 0, 10) := by decide +kernel
theorem s_177_35 {x0 x1 x2 x3 x4 : Option Value} : mw d 177 Q 35 [x0, x1, x2, x3, x4] (st) h = mw d 177 Q 38 [x0, x1, x2, x3, x4] (.long 10 :: st) h := (mw_at mj_177_35).trans (z_ldc2 (by decide))
theorem mj_177_38 : mc_P 177 38 = some (.lload_n 2, 1, 0, 0, 0) := by decide +kernel
theorem s_177_38 {x0 x1 x3 x4 : Option Value} {w : Value} : mw d 177 Q 38 [x0, x1, some w, x3, x4] (st) h = mv_l w (mw d 177 Q 39 [x0, x1, some w, x3, x4] (w :: st) h) := (mw_at mj_177_38).trans (z_lload_n rfl)
theorem mj_177_39 : mc_P 177 39 = some (.lmul, 1, 0, 0, 0) := by decide +kernel
theorem s_177_39 {x0 x1 x2 x3 x4 : Option Value} {x w : Int64} : mw d 177 Q 39 [x0, x1, x2, x3, x4] (.long w :: .long x :: st) h = mw d 177 Q 40 [x0, x1, x2, x3, x4] (.long (x * w) :: st) h := (mw_at mj_177_39).trans (z_lmul)
theorem mj_177_40 : mc_P 177 40 = some (.aload_n 0, 1, 0, 0, 0) := by decide +kernel
theorem s_177_40 {x1 x2 x3 x4 : Option Value} {w : Value} : mw d 177 Q 40 [some w, x1, x2, x3, x4] (st) h = mv_a w (mw d 177 Q 41 [some w, x1, x2, x3, x4] (w :: st) h) := (mw_at mj_177_40).trans (z_aload_n rfl)
theorem mj_177_41 : mc_P 177 41 = some (.iload 4, 2, 0, 0, 0) := by decide +kernel
theorem s_177_41 {x0 x1 x2 x3 : Option Value} {w : Value} : mw d 177 Q 41 [x0, x1, x2, x3, some w] (st) h = mv_i w (mw d 177 Q 43 [x0, x1, x2, x3, some w] (w :: st) h) := (mw_at mj_177_41).trans (z_iload rfl)
theorem mj_177_43 : mc_P 177 43 = some (.invokevirtual 50, 3, 170, 10, 2) := by decide +kernel
theorem s_177_43 {x0 x1 x2 x3 x4 : Option Value} {o : Nat} {a1 : Value} : mw (d + 1) 177 Q 43 [x0, x1, x2, x3, x4] (a1 :: .ref o :: st) h = (mg h o 10 ∧ mca st 8 ∧ mca [.ref o, a1] 2 ∧ mcall d 170 [.ref o, a1] h (mK (d + 1) 177 Q 46 [x0, x1, x2, x3, x4] st)) := (mw_at mj_177_43).trans ((z_invv (As := [a1]) (by decide) rfl rfl).trans (congrArg (And _) (congrArg (And _) (mC_nl nl_170))))
theorem mj_177_46 : mc_P 177 46 = some (.i2l, 1, 0, 0, 0) := by decide +kernel
theorem s_177_46 {x0 x1 x2 x3 x4 : Option Value} {x : Int32} : mw d 177 Q 46 [x0, x1, x2, x3, x4] (.int x :: st) h = mw d 177 Q 47 [x0, x1, x2, x3, x4] (.long x.toInt64 :: st) h := (mw_at mj_177_46).trans (z_i2l)
theorem mj_177_47 : mc_P 177 47 = some (.ladd, 1, 0, 0, 0) := by decide +kernel
theorem s_177_47 {x0 x1 x2 x3 x4 : Option Value} {x w : Int64} : mw d 177 Q 47 [x0, x1, x2, x3, x4] (.long w :: .long x :: st) h = mw d 177 Q 48 [x0, x1, x2, x3, x4] (.long (x + w) :: st) h := (mw_at mj_177_47).trans (z_ladd)
theorem mj_177_48 : mc_P 177 48 = some (.ldc2_w 84, 3, 0, 0, 48) := by decide +kernel
theorem s_177_48 {x0 x1 x2 x3 x4 : Option Value} : mw d 177 Q 48 [x0, x1, x2, x3, x4] (st) h = mw d 177 Q 51 [x0, x1, x2, x3, x4] (.long 48 :: st) h := (mw_at mj_177_48).trans (z_ldc2 (by decide))
theorem mj_177_51 : mc_P 177 51 = some (.lsub, 1, 0, 0, 0) := by decide +kernel
theorem s_177_51 {x0 x1 x2 x3 x4 : Option Value} {x w : Int64} : mw d 177 Q 51 [x0, x1, x2, x3, x4] (.long w :: .long x :: st) h = mw d 177 Q 52 [x0, x1, x2, x3, x4] (.long (x - w) :: st) h := (mw_at mj_177_51).trans (z_lsub)
theorem mj_177_52 : mc_P 177 52 = some (.lstore_n 2, 1, 0, 0, 0) := by decide +kernel
theorem s_177_52 {x0 x1 x2 x3 x4 : Option Value} {w : Int64} : mw d 177 Q 52 [x0, x1, x2, x3, x4] (.long w :: st) h = mw d 177 Q 53 [x0, mk2 x1, some (.long w), none, x4] (st) h := (mw_at mj_177_52).trans (z_lstore_n (Nat.le_of_ble_eq_true rfl) (me_s2_mk (j := 1) (w := x1) rfl))
theorem mj_177_53 : mc_P 177 53 = some (.iinc 4 1, 3, 0, 0, 0) := by decide +kernel
theorem s_177_53 {x0 x1 x2 x3 : Option Value} {w : Int32} : mw d 177 Q 53 [x0, x1, x2, x3, some (.int w)] (st) h = mw d 177 Q 56 [x0, x1, x2, mk2 x3, some (.int (w + 1))] (st) h := (mw_at mj_177_53).trans (z_iinc rfl (Nat.le_of_ble_eq_true rfl) (by decide) (me_s1_mk (j := 3) (w := x3) rfl))
theorem mj_177_56 : mc_P 177 56 = some (.goto (-51), 3, 0, 0, 0) := by decide +kernel
theorem s_177_56 {x0 x1 x2 x3 x4 : Option Value} : mw d 177 Q 56 [x0, x1, x2, x3, x4] (st) h = mw d 177 Q 5 [x0, x1, x2, x3, x4] (st) h := (mw_at mj_177_56).trans (z_goto (by decide))
theorem mj_177_59 : mc_P 177 59 = some (.lload_n 2, 1, 0, 0, 0) := by decide +kernel
theorem s_177_59 {x0 x1 x3 x4 : Option Value} {w : Value} : mw d 177 Q 59 [x0, x1, some w, x3, x4] (st) h = mv_l w (mw d 177 Q 60 [x0, x1, some w, x3, x4] (w :: st) h) := (mw_at mj_177_59).trans (z_lload_n rfl)
theorem mj_177_60 : mc_P 177 60 = some (.lreturn, 1, 0, 0, 0) := by decide +kernel
theorem s_177_60 {x0 x1 x2 x3 x4 : Option Value} {x : Int64} : mw d 177 Q 60 [x0, x1, x2, x3, x4] ([.long x]) h = Q (some (.long x)) h := (mw_at mj_177_60).trans (z_lret)
theorem e_177 {a0 : Nat} {a1 : Int32} : mcall d 177 [.ref a0, .int a1] h Q = mw d 177 Q 0 [some (.ref a0), some (.int a1), none, none, none] [] h := by
  show mw d 177 Q 0 (me_en (mc_nl 177) _) [] h = _
  rw [nl_177]; rfl

/-! InvariantDesk$Tokens.kindAt(II)I -/
theorem mj_178_0 : mc_P 178 0 = some (.aload_n 0, 1, 0, 0, 0) := by decide +kernel
theorem s_178_0 {x1 x2 x3 : Option Value} {w : Value} : mw d 178 Q 0 [some w, x1, x2, x3] (st) h = mv_a w (mw d 178 Q 1 [some w, x1, x2, x3] (w :: st) h) := (mw_at mj_178_0).trans (z_aload_n rfl)
theorem mj_178_1 : mc_P 178 1 = some (.iload_n 1, 1, 0, 0, 0) := by decide +kernel
theorem s_178_1 {x0 x2 x3 : Option Value} {w : Value} : mw d 178 Q 1 [x0, some w, x2, x3] (st) h = mv_i w (mw d 178 Q 2 [x0, some w, x2, x3] (w :: st) h) := (mw_at mj_178_1).trans (z_iload_n rfl)
theorem mj_178_2 : mc_P 178 2 = some (.invokevirtual 50, 3, 170, 10, 2) := by decide +kernel
theorem s_178_2 {x0 x1 x2 x3 : Option Value} {o : Nat} {a1 : Value} : mw (d + 1) 178 Q 2 [x0, x1, x2, x3] (a1 :: .ref o :: st) h = (mg h o 10 ∧ mca st 8 ∧ mca [.ref o, a1] 2 ∧ mcall d 170 [.ref o, a1] h (mK (d + 1) 178 Q 5 [x0, x1, x2, x3] st)) := (mw_at mj_178_2).trans ((z_invv (As := [a1]) (by decide) rfl rfl).trans (congrArg (And _) (congrArg (And _) (mC_nl nl_170))))
theorem mj_178_5 : mc_P 178 5 = some (.istore_n 3, 1, 0, 0, 0) := by decide +kernel
theorem s_178_5 {x0 x1 x2 x3 : Option Value} {w : Int32} : mw d 178 Q 5 [x0, x1, x2, x3] (.int w :: st) h = mw d 178 Q 6 [x0, x1, mk2 x2, some (.int w)] (st) h := (mw_at mj_178_5).trans (z_istore_n (Nat.le_of_ble_eq_true rfl) (me_s1_mk (j := 2) (w := x2) rfl))
theorem mj_178_6 : mc_P 178 6 = some (.iload_n 3, 1, 0, 0, 0) := by decide +kernel
theorem s_178_6 {x0 x1 x2 : Option Value} {w : Value} : mw d 178 Q 6 [x0, x1, x2, some w] (st) h = mv_i w (mw d 178 Q 7 [x0, x1, x2, some w] (w :: st) h) := (mw_at mj_178_6).trans (z_iload_n rfl)
theorem mj_178_7 : mc_P 178 7 = some (.invokestatic 53, 3, 172, 0, 1) := by decide +kernel
theorem s_178_7 {x0 x1 x2 x3 : Option Value} {a0 : Value} : mw (d + 1) 178 Q 7 [x0, x1, x2, x3] (a0 :: st) h = (mca st 8 ∧ mca [a0] 1 ∧ mcall d 172 [a0] h (mK (d + 1) 178 Q 10 [x0, x1, x2, x3] st)) := (mw_at mj_178_7).trans ((z_invs (As := [a0]) rfl rfl).trans (congrArg (And _) (mC_nl nl_172)))
theorem mj_178_10 : mc_P 178 10 = some (.ifCond .eq 10, 3, 0, 0, 0) := by decide +kernel
theorem s_178_10 {x0 x1 x2 x3 : Option Value} {x : Int32} : mw d 178 Q 10 [x0, x1, x2, x3] (.int x :: st) h = mB (x = 0) (mw d 178 Q) 20 13 [x0, x1, x2, x3] st h := (mw_at mj_178_10).trans (z_if_eq (by decide) rfl)
theorem mj_178_13 : mc_P 178 13 = some (.aload_n 0, 1, 0, 0, 0) := by decide +kernel
theorem s_178_13 {x1 x2 x3 : Option Value} {w : Value} : mw d 178 Q 13 [some w, x1, x2, x3] (st) h = mv_a w (mw d 178 Q 14 [some w, x1, x2, x3] (w :: st) h) := (mw_at mj_178_13).trans (z_aload_n rfl)
theorem mj_178_14 : mc_P 178 14 = some (.iload_n 1, 1, 0, 0, 0) := by decide +kernel
theorem s_178_14 {x0 x2 x3 : Option Value} {w : Value} : mw d 178 Q 14 [x0, some w, x2, x3] (st) h = mv_i w (mw d 178 Q 15 [x0, some w, x2, x3] (w :: st) h) := (mw_at mj_178_14).trans (z_iload_n rfl)
theorem mj_178_15 : mc_P 178 15 = some (.iload_n 2, 1, 0, 0, 0) := by decide +kernel
theorem s_178_15 {x0 x1 x3 : Option Value} {w : Value} : mw d 178 Q 15 [x0, x1, some w, x3] (st) h = mv_i w (mw d 178 Q 16 [x0, x1, some w, x3] (w :: st) h) := (mw_at mj_178_15).trans (z_iload_n rfl)
theorem mj_178_16 : mc_P 178 16 = some (.invokevirtual 86, 3, 180, 10, 3) := by decide +kernel
theorem s_178_16 {x0 x1 x2 x3 : Option Value} {o : Nat} {a1 a2 : Value} : mw (d + 1) 178 Q 16 [x0, x1, x2, x3] (a2 :: a1 :: .ref o :: st) h = (mg h o 10 ∧ mca st 8 ∧ mca [.ref o, a1, a2] 3 ∧ mcall d 180 [.ref o, a1, a2] h (mK (d + 1) 178 Q 19 [x0, x1, x2, x3] st)) := (mw_at mj_178_16).trans ((z_invv (As := [a1, a2]) (by decide) rfl rfl).trans (congrArg (And _) (congrArg (And _) (mC_nl nl_180))))
theorem mj_178_19 : mc_P 178 19 = some (.ireturn, 1, 0, 0, 0) := by decide +kernel
theorem s_178_19 {x0 x1 x2 x3 : Option Value} {x : Int32} : mw d 178 Q 19 [x0, x1, x2, x3] ([.int x]) h = (Q (some (.int x)) h) := (mw_at mj_178_19).trans (z_iret)
theorem mj_178_20 : mc_P 178 20 = some (.iload_n 3, 1, 0, 0, 0) := by decide +kernel
theorem s_178_20 {x0 x1 x2 : Option Value} {w : Value} : mw d 178 Q 20 [x0, x1, x2, some w] (st) h = mv_i w (mw d 178 Q 21 [x0, x1, x2, some w] (w :: st) h) := (mw_at mj_178_20).trans (z_iload_n rfl)
theorem mj_178_21 : mc_P 178 21 = some (.invokestatic 60, 3, 173, 0, 1) := by decide +kernel
theorem s_178_21 {x0 x1 x2 x3 : Option Value} {a0 : Value} : mw (d + 1) 178 Q 21 [x0, x1, x2, x3] (a0 :: st) h = (mca st 8 ∧ mca [a0] 1 ∧ mcall d 173 [a0] h (mK (d + 1) 178 Q 24 [x0, x1, x2, x3] st)) := (mw_at mj_178_21).trans ((z_invs (As := [a0]) rfl rfl).trans (congrArg (And _) (mC_nl nl_173)))
theorem mj_178_24 : mc_P 178 24 = some (.ifCond .eq 5, 3, 0, 0, 0) := by decide +kernel
theorem s_178_24 {x0 x1 x2 x3 : Option Value} {x : Int32} : mw d 178 Q 24 [x0, x1, x2, x3] (.int x :: st) h = mB (x = 0) (mw d 178 Q) 29 27 [x0, x1, x2, x3] st h := (mw_at mj_178_24).trans (z_if_eq (by decide) rfl)
theorem mj_178_27 : mc_P 178 27 = some (.iconst 3, 1, 0, 0, 0) := by decide +kernel
theorem s_178_27 {x0 x1 x2 x3 : Option Value} : mw d 178 Q 27 [x0, x1, x2, x3] (st) h = mw d 178 Q 28 [x0, x1, x2, x3] (.int 3 :: st) h := (mw_at mj_178_27).trans (z_iconst (by decide))
theorem mj_178_28 : mc_P 178 28 = some (.ireturn, 1, 0, 0, 0) := by decide +kernel
theorem s_178_28 {x0 x1 x2 x3 : Option Value} {x : Int32} : mw d 178 Q 28 [x0, x1, x2, x3] ([.int x]) h = (Q (some (.int x)) h) := (mw_at mj_178_28).trans (z_iret)
theorem mj_178_29 : mc_P 178 29 = some (.iload_n 2, 1, 0, 0, 0) := by decide +kernel
theorem s_178_29 {x0 x1 x3 : Option Value} {w : Value} : mw d 178 Q 29 [x0, x1, some w, x3] (st) h = mv_i w (mw d 178 Q 30 [x0, x1, some w, x3] (w :: st) h) := (mw_at mj_178_29).trans (z_iload_n rfl)
theorem mj_178_30 : mc_P 178 30 = some (.iconst 2, 1, 0, 0, 0) := by decide +kernel
theorem s_178_30 {x0 x1 x2 x3 : Option Value} : mw d 178 Q 30 [x0, x1, x2, x3] (st) h = mw d 178 Q 31 [x0, x1, x2, x3] (.int 2 :: st) h := (mw_at mj_178_30).trans (z_iconst (by decide))
theorem mj_178_31 : mc_P 178 31 = some (.if_icmp .ne 17, 3, 0, 0, 0) := by decide +kernel
theorem s_178_31 {x0 x1 x2 x3 : Option Value} {x w : Int32} : mw d 178 Q 31 [x0, x1, x2, x3] (.int w :: .int x :: st) h = mB (¬ x = w) (mw d 178 Q) 48 34 [x0, x1, x2, x3] st h := (mw_at mj_178_31).trans (z_icmp_ne (by decide) rfl)
theorem mj_178_34 : mc_P 178 34 = some (.iload_n 3, 1, 0, 0, 0) := by decide +kernel
theorem s_178_34 {x0 x1 x2 : Option Value} {w : Value} : mw d 178 Q 34 [x0, x1, x2, some w] (st) h = mv_i w (mw d 178 Q 35 [x0, x1, x2, some w] (w :: st) h) := (mw_at mj_178_34).trans (z_iload_n rfl)
theorem mj_178_35 : mc_P 178 35 = some (.aload_n 0, 1, 0, 0, 0) := by decide +kernel
theorem s_178_35 {x1 x2 x3 : Option Value} {w : Value} : mw d 178 Q 35 [some w, x1, x2, x3] (st) h = mv_a w (mw d 178 Q 36 [some w, x1, x2, x3] (w :: st) h) := (mw_at mj_178_35).trans (z_aload_n rfl)
theorem mj_178_36 : mc_P 178 36 = some (.iload_n 1, 1, 0, 0, 0) := by decide +kernel
theorem s_178_36 {x0 x2 x3 : Option Value} {w : Value} : mw d 178 Q 36 [x0, some w, x2, x3] (st) h = mv_i w (mw d 178 Q 37 [x0, some w, x2, x3] (w :: st) h) := (mw_at mj_178_36).trans (z_iload_n rfl)
theorem mj_178_37 : mc_P 178 37 = some (.iconst 1, 1, 0, 0, 0) := by decide +kernel
theorem s_178_37 {x0 x1 x2 x3 : Option Value} : mw d 178 Q 37 [x0, x1, x2, x3] (st) h = mw d 178 Q 38 [x0, x1, x2, x3] (.int 1 :: st) h := (mw_at mj_178_37).trans (z_iconst (by decide))
theorem mj_178_38 : mc_P 178 38 = some (.iadd, 1, 0, 0, 0) := by decide +kernel
theorem s_178_38 {x0 x1 x2 x3 : Option Value} {x w : Int32} : mw d 178 Q 38 [x0, x1, x2, x3] (.int w :: .int x :: st) h = mw d 178 Q 39 [x0, x1, x2, x3] (.int (x + w) :: st) h := (mw_at mj_178_38).trans (z_iadd)
theorem mj_178_39 : mc_P 178 39 = some (.invokevirtual 50, 3, 170, 10, 2) := by decide +kernel
theorem s_178_39 {x0 x1 x2 x3 : Option Value} {o : Nat} {a1 : Value} : mw (d + 1) 178 Q 39 [x0, x1, x2, x3] (a1 :: .ref o :: st) h = (mg h o 10 ∧ mca st 8 ∧ mca [.ref o, a1] 2 ∧ mcall d 170 [.ref o, a1] h (mK (d + 1) 178 Q 42 [x0, x1, x2, x3] st)) := (mw_at mj_178_39).trans ((z_invv (As := [a1]) (by decide) rfl rfl).trans (congrArg (And _) (congrArg (And _) (mC_nl nl_170))))
theorem mj_178_42 : mc_P 178 42 = some (.invokestatic 66, 3, 179, 0, 2) := by decide +kernel
theorem s_178_42 {x0 x1 x2 x3 : Option Value} {a0 a1 : Value} : mw (d + 1) 178 Q 42 [x0, x1, x2, x3] (a1 :: a0 :: st) h = (mca st 8 ∧ mca [a0, a1] 2 ∧ mcall d 179 [a0, a1] h (mK (d + 1) 178 Q 45 [x0, x1, x2, x3] st)) := (mw_at mj_178_42).trans ((z_invs (As := [a0, a1]) rfl rfl).trans (congrArg (And _) (mC_nl nl_179)))
theorem mj_178_45 : mc_P 178 45 = some (.goto 4, 3, 0, 0, 0) := by decide +kernel
theorem s_178_45 {x0 x1 x2 x3 : Option Value} : mw d 178 Q 45 [x0, x1, x2, x3] (st) h = mw d 178 Q 49 [x0, x1, x2, x3] (st) h := (mw_at mj_178_45).trans (z_goto (by decide))
theorem mj_178_48 : mc_P 178 48 = some (.iload_n 3, 1, 0, 0, 0) := by decide +kernel
theorem s_178_48 {x0 x1 x2 : Option Value} {w : Value} : mw d 178 Q 48 [x0, x1, x2, some w] (st) h = mv_i w (mw d 178 Q 49 [x0, x1, x2, some w] (w :: st) h) := (mw_at mj_178_48).trans (z_iload_n rfl)
theorem mj_178_49 : mc_P 178 49 = some (.ireturn, 1, 0, 0, 0) := by decide +kernel
theorem s_178_49 {x0 x1 x2 x3 : Option Value} {x : Int32} : mw d 178 Q 49 [x0, x1, x2, x3] ([.int x]) h = (Q (some (.int x)) h) := (mw_at mj_178_49).trans (z_iret)
theorem e_178 {a0 : Nat} {a1 : Int32} {a2 : Int32} : mcall d 178 [.ref a0, .int a1, .int a2] h Q = mw d 178 Q 0 [some (.ref a0), some (.int a1), some (.int a2), none] [] h := by
  show mw d 178 Q 0 (me_en (mc_nl 178) _) [] h = _
  rw [nl_178]; rfl

/-! InvariantDesk$Tokens.signOfTwo(II)I -/
theorem mj_179_0 : mc_P 179 0 = some (.iload_n 1, 1, 0, 0, 0) := by decide +kernel
theorem s_179_0 {x0 : Option Value} {w : Value} : mw d 179 Q 0 [x0, some w] (st) h = mv_i w (mw d 179 Q 1 [x0, some w] (w :: st) h) := (mw_at mj_179_0).trans (z_iload_n rfl)
theorem mj_179_1 : mc_P 179 1 = some (.bipush 61, 2, 0, 0, 0) := by decide +kernel
theorem s_179_1 {x0 x1 : Option Value} : mw d 179 Q 1 [x0, x1] (st) h = mw d 179 Q 3 [x0, x1] (.int 61 :: st) h := (mw_at mj_179_1).trans (z_bipush (by decide))
theorem mj_179_3 : mc_P 179 3 = some (.if_icmp .ne 63, 3, 0, 0, 0) := by decide +kernel
theorem s_179_3 {x0 x1 : Option Value} {x w : Int32} : mw d 179 Q 3 [x0, x1] (.int w :: .int x :: st) h = mB (¬ x = w) (mw d 179 Q) 66 6 [x0, x1] st h := (mw_at mj_179_3).trans (z_icmp_ne (by decide) rfl)
theorem mj_179_6 : mc_P 179 6 = some (.iload_n 0, 1, 0, 0, 0) := by decide +kernel
theorem s_179_6 {x1 : Option Value} {w : Value} : mw d 179 Q 6 [some w, x1] (st) h = mv_i w (mw d 179 Q 7 [some w, x1] (w :: st) h) := (mw_at mj_179_6).trans (z_iload_n rfl)
theorem mj_179_7 : mc_P 179 7 = some (.lookupswitch 57 #[(33, 53), (60, 41), (61, 49), (62, 45)], 41, 0, 0, 0) := by decide +kernel
theorem s_179_7 {x0 x1 : Option Value} {x : Int32} : mw d 179 Q 7 [x0, x1] (.int x :: st) h = mS x (mw d 179 Q) 64 [x0, x1] st h [(33, 60), (60, 48), (61, 56), (62, 52)] := (mw_at mj_179_7).trans (z_look (by decide) (by decide) (by decide))
theorem mj_179_48 : mc_P 179 48 = some (.sipush 128, 3, 0, 0, 0) := by decide +kernel
theorem s_179_48 {x0 x1 : Option Value} : mw d 179 Q 48 [x0, x1] (st) h = mw d 179 Q 51 [x0, x1] (.int 128 :: st) h := (mw_at mj_179_48).trans (z_sipush (by decide))
theorem mj_179_51 : mc_P 179 51 = some (.ireturn, 1, 0, 0, 0) := by decide +kernel
theorem s_179_51 {x0 x1 : Option Value} {x : Int32} : mw d 179 Q 51 [x0, x1] ([.int x]) h = (Q (some (.int x)) h) := (mw_at mj_179_51).trans (z_iret)
theorem mj_179_52 : mc_P 179 52 = some (.sipush 129, 3, 0, 0, 0) := by decide +kernel
theorem s_179_52 {x0 x1 : Option Value} : mw d 179 Q 52 [x0, x1] (st) h = mw d 179 Q 55 [x0, x1] (.int 129 :: st) h := (mw_at mj_179_52).trans (z_sipush (by decide))
theorem mj_179_55 : mc_P 179 55 = some (.ireturn, 1, 0, 0, 0) := by decide +kernel
theorem s_179_55 {x0 x1 : Option Value} {x : Int32} : mw d 179 Q 55 [x0, x1] ([.int x]) h = (Q (some (.int x)) h) := (mw_at mj_179_55).trans (z_iret)
theorem mj_179_56 : mc_P 179 56 = some (.sipush 130, 3, 0, 0, 0) := by decide +kernel
theorem s_179_56 {x0 x1 : Option Value} : mw d 179 Q 56 [x0, x1] (st) h = mw d 179 Q 59 [x0, x1] (.int 130 :: st) h := (mw_at mj_179_56).trans (z_sipush (by decide))
theorem mj_179_59 : mc_P 179 59 = some (.ireturn, 1, 0, 0, 0) := by decide +kernel
theorem s_179_59 {x0 x1 : Option Value} {x : Int32} : mw d 179 Q 59 [x0, x1] ([.int x]) h = (Q (some (.int x)) h) := (mw_at mj_179_59).trans (z_iret)
theorem mj_179_60 : mc_P 179 60 = some (.sipush 131, 3, 0, 0, 0) := by decide +kernel
theorem s_179_60 {x0 x1 : Option Value} : mw d 179 Q 60 [x0, x1] (st) h = mw d 179 Q 63 [x0, x1] (.int 131 :: st) h := (mw_at mj_179_60).trans (z_sipush (by decide))
theorem mj_179_63 : mc_P 179 63 = some (.ireturn, 1, 0, 0, 0) := by decide +kernel
theorem s_179_63 {x0 x1 : Option Value} {x : Int32} : mw d 179 Q 63 [x0, x1] ([.int x]) h = (Q (some (.int x)) h) := (mw_at mj_179_63).trans (z_iret)
theorem mj_179_64 : mc_P 179 64 = some (.iconst 1, 1, 0, 0, 0) := by decide +kernel
theorem s_179_64 {x0 x1 : Option Value} : mw d 179 Q 64 [x0, x1] (st) h = mw d 179 Q 65 [x0, x1] (.int 1 :: st) h := (mw_at mj_179_64).trans (z_iconst (by decide))
theorem mj_179_65 : mc_P 179 65 = some (.ireturn, 1, 0, 0, 0) := by decide +kernel
theorem s_179_65 {x0 x1 : Option Value} {x : Int32} : mw d 179 Q 65 [x0, x1] ([.int x]) h = (Q (some (.int x)) h) := (mw_at mj_179_65).trans (z_iret)
theorem mj_179_66 : mc_P 179 66 = some (.iload_n 0, 1, 0, 0, 0) := by decide +kernel
theorem s_179_66 {x1 : Option Value} {w : Value} : mw d 179 Q 66 [some w, x1] (st) h = mv_i w (mw d 179 Q 67 [some w, x1] (w :: st) h) := (mw_at mj_179_66).trans (z_iload_n rfl)
theorem mj_179_67 : mc_P 179 67 = some (.bipush 38, 2, 0, 0, 0) := by decide +kernel
theorem s_179_67 {x0 x1 : Option Value} : mw d 179 Q 67 [x0, x1] (st) h = mw d 179 Q 69 [x0, x1] (.int 38 :: st) h := (mw_at mj_179_67).trans (z_bipush (by decide))
theorem mj_179_69 : mc_P 179 69 = some (.if_icmp .ne 13, 3, 0, 0, 0) := by decide +kernel
theorem s_179_69 {x0 x1 : Option Value} {x w : Int32} : mw d 179 Q 69 [x0, x1] (.int w :: .int x :: st) h = mB (¬ x = w) (mw d 179 Q) 82 72 [x0, x1] st h := (mw_at mj_179_69).trans (z_icmp_ne (by decide) rfl)
theorem mj_179_72 : mc_P 179 72 = some (.iload_n 1, 1, 0, 0, 0) := by decide +kernel
theorem s_179_72 {x0 : Option Value} {w : Value} : mw d 179 Q 72 [x0, some w] (st) h = mv_i w (mw d 179 Q 73 [x0, some w] (w :: st) h) := (mw_at mj_179_72).trans (z_iload_n rfl)
theorem mj_179_73 : mc_P 179 73 = some (.bipush 38, 2, 0, 0, 0) := by decide +kernel
theorem s_179_73 {x0 x1 : Option Value} : mw d 179 Q 73 [x0, x1] (st) h = mw d 179 Q 75 [x0, x1] (.int 38 :: st) h := (mw_at mj_179_73).trans (z_bipush (by decide))
theorem mj_179_75 : mc_P 179 75 = some (.if_icmp .ne 7, 3, 0, 0, 0) := by decide +kernel
theorem s_179_75 {x0 x1 : Option Value} {x w : Int32} : mw d 179 Q 75 [x0, x1] (.int w :: .int x :: st) h = mB (¬ x = w) (mw d 179 Q) 82 78 [x0, x1] st h := (mw_at mj_179_75).trans (z_icmp_ne (by decide) rfl)
theorem mj_179_78 : mc_P 179 78 = some (.sipush 132, 3, 0, 0, 0) := by decide +kernel
theorem s_179_78 {x0 x1 : Option Value} : mw d 179 Q 78 [x0, x1] (st) h = mw d 179 Q 81 [x0, x1] (.int 132 :: st) h := (mw_at mj_179_78).trans (z_sipush (by decide))
theorem mj_179_81 : mc_P 179 81 = some (.ireturn, 1, 0, 0, 0) := by decide +kernel
theorem s_179_81 {x0 x1 : Option Value} {x : Int32} : mw d 179 Q 81 [x0, x1] ([.int x]) h = (Q (some (.int x)) h) := (mw_at mj_179_81).trans (z_iret)
theorem mj_179_82 : mc_P 179 82 = some (.iload_n 0, 1, 0, 0, 0) := by decide +kernel
theorem s_179_82 {x1 : Option Value} {w : Value} : mw d 179 Q 82 [some w, x1] (st) h = mv_i w (mw d 179 Q 83 [some w, x1] (w :: st) h) := (mw_at mj_179_82).trans (z_iload_n rfl)
theorem mj_179_83 : mc_P 179 83 = some (.bipush 124, 2, 0, 0, 0) := by decide +kernel
theorem s_179_83 {x0 x1 : Option Value} : mw d 179 Q 83 [x0, x1] (st) h = mw d 179 Q 85 [x0, x1] (.int 124 :: st) h := (mw_at mj_179_83).trans (z_bipush (by decide))
theorem mj_179_85 : mc_P 179 85 = some (.if_icmp .ne 15, 3, 0, 0, 0) := by decide +kernel
theorem s_179_85 {x0 x1 : Option Value} {x w : Int32} : mw d 179 Q 85 [x0, x1] (.int w :: .int x :: st) h = mB (¬ x = w) (mw d 179 Q) 100 88 [x0, x1] st h := (mw_at mj_179_85).trans (z_icmp_ne (by decide) rfl)
theorem mj_179_88 : mc_P 179 88 = some (.iload_n 1, 1, 0, 0, 0) := by decide +kernel
theorem s_179_88 {x0 : Option Value} {w : Value} : mw d 179 Q 88 [x0, some w] (st) h = mv_i w (mw d 179 Q 89 [x0, some w] (w :: st) h) := (mw_at mj_179_88).trans (z_iload_n rfl)
theorem mj_179_89 : mc_P 179 89 = some (.bipush 124, 2, 0, 0, 0) := by decide +kernel
theorem s_179_89 {x0 x1 : Option Value} : mw d 179 Q 89 [x0, x1] (st) h = mw d 179 Q 91 [x0, x1] (.int 124 :: st) h := (mw_at mj_179_89).trans (z_bipush (by decide))
theorem mj_179_91 : mc_P 179 91 = some (.if_icmp .ne 9, 3, 0, 0, 0) := by decide +kernel
theorem s_179_91 {x0 x1 : Option Value} {x w : Int32} : mw d 179 Q 91 [x0, x1] (.int w :: .int x :: st) h = mB (¬ x = w) (mw d 179 Q) 100 94 [x0, x1] st h := (mw_at mj_179_91).trans (z_icmp_ne (by decide) rfl)
theorem mj_179_94 : mc_P 179 94 = some (.sipush 133, 3, 0, 0, 0) := by decide +kernel
theorem s_179_94 {x0 x1 : Option Value} : mw d 179 Q 94 [x0, x1] (st) h = mw d 179 Q 97 [x0, x1] (.int 133 :: st) h := (mw_at mj_179_94).trans (z_sipush (by decide))
theorem mj_179_97 : mc_P 179 97 = some (.goto 4, 3, 0, 0, 0) := by decide +kernel
theorem s_179_97 {x0 x1 : Option Value} : mw d 179 Q 97 [x0, x1] (st) h = mw d 179 Q 101 [x0, x1] (st) h := (mw_at mj_179_97).trans (z_goto (by decide))
theorem mj_179_100 : mc_P 179 100 = some (.iconst 1, 1, 0, 0, 0) := by decide +kernel
theorem s_179_100 {x0 x1 : Option Value} : mw d 179 Q 100 [x0, x1] (st) h = mw d 179 Q 101 [x0, x1] (.int 1 :: st) h := (mw_at mj_179_100).trans (z_iconst (by decide))
theorem mj_179_101 : mc_P 179 101 = some (.ireturn, 1, 0, 0, 0) := by decide +kernel
theorem s_179_101 {x0 x1 : Option Value} {x : Int32} : mw d 179 Q 101 [x0, x1] ([.int x]) h = (Q (some (.int x)) h) := (mw_at mj_179_101).trans (z_iret)
theorem e_179 {a0 : Int32} {a1 : Int32} : mcall d 179 [.int a0, .int a1] h Q = mw d 179 Q 0 [some (.int a0), some (.int a1)] [] h := by
  show mw d 179 Q 0 (me_en (mc_nl 179) _) [] h = _
  rw [nl_179]; rfl

/-! InvariantDesk$Tokens.wordAt(II)I -/
theorem mj_180_0 : mc_P 180 0 = some (.aload_n 0, 1, 0, 0, 0) := by decide +kernel
theorem s_180_0 {x1 x2 : Option Value} {w : Value} : mw d 180 Q 0 [some w, x1, x2] (st) h = mv_a w (mw d 180 Q 1 [some w, x1, x2] (w :: st) h) := (mw_at mj_180_0).trans (z_aload_n rfl)
theorem mj_180_1 : mc_P 180 1 = some (.iload_n 1, 1, 0, 0, 0) := by decide +kernel
theorem s_180_1 {x0 x2 : Option Value} {w : Value} : mw d 180 Q 1 [x0, some w, x2] (st) h = mv_i w (mw d 180 Q 2 [x0, some w, x2] (w :: st) h) := (mw_at mj_180_1).trans (z_iload_n rfl)
theorem mj_180_2 : mc_P 180 2 = some (.iload_n 2, 1, 0, 0, 0) := by decide +kernel
theorem s_180_2 {x0 x1 : Option Value} {w : Value} : mw d 180 Q 2 [x0, x1, some w] (st) h = mv_i w (mw d 180 Q 3 [x0, x1, some w] (w :: st) h) := (mw_at mj_180_2).trans (z_iload_n rfl)
theorem mj_180_3 : mc_P 180 3 = some (.ldc 89, 2, 33, 1, 0) := by decide +kernel
theorem s_180_3 {x0 x1 x2 : Option Value} : mw d 180 Q 3 [x0, x1, x2] (st) h = mw d 180 Q 5 [x0, x1, x2] (.retAddr 33 :: st) h := (mw_at mj_180_3).trans (z_ldcS)
theorem mj_180_5 : mc_P 180 5 = some (.invokevirtual 91, 3, 181, 10, 4) := by decide +kernel
theorem s_180_5 {x0 x1 x2 : Option Value} {o : Nat} {a1 a2 a3 : Value} : mw (d + 1) 180 Q 5 [x0, x1, x2] (a3 :: a2 :: a1 :: .ref o :: st) h = (mg h o 10 ∧ mca st 8 ∧ mca [.ref o, a1, a2, a3] 5 ∧ mcall d 181 [.ref o, a1, a2, a3] h (mK (d + 1) 180 Q 8 [x0, x1, x2] st)) := (mw_at mj_180_5).trans ((z_invv (As := [a1, a2, a3]) (by decide) rfl rfl).trans (congrArg (And _) (congrArg (And _) (mC_nl nl_181))))
theorem mj_180_8 : mc_P 180 8 = some (.ifCond .eq 5, 3, 0, 0, 0) := by decide +kernel
theorem s_180_8 {x0 x1 x2 : Option Value} {x : Int32} : mw d 180 Q 8 [x0, x1, x2] (.int x :: st) h = mB (x = 0) (mw d 180 Q) 13 11 [x0, x1, x2] st h := (mw_at mj_180_8).trans (z_if_eq (by decide) rfl)
theorem mj_180_11 : mc_P 180 11 = some (.iconst 4, 1, 0, 0, 0) := by decide +kernel
theorem s_180_11 {x0 x1 x2 : Option Value} : mw d 180 Q 11 [x0, x1, x2] (st) h = mw d 180 Q 12 [x0, x1, x2] (.int 4 :: st) h := (mw_at mj_180_11).trans (z_iconst (by decide))
theorem mj_180_12 : mc_P 180 12 = some (.ireturn, 1, 0, 0, 0) := by decide +kernel
theorem s_180_12 {x0 x1 x2 : Option Value} {x : Int32} : mw d 180 Q 12 [x0, x1, x2] ([.int x]) h = (Q (some (.int x)) h) := (mw_at mj_180_12).trans (z_iret)
theorem mj_180_13 : mc_P 180 13 = some (.aload_n 0, 1, 0, 0, 0) := by decide +kernel
theorem s_180_13 {x1 x2 : Option Value} {w : Value} : mw d 180 Q 13 [some w, x1, x2] (st) h = mv_a w (mw d 180 Q 14 [some w, x1, x2] (w :: st) h) := (mw_at mj_180_13).trans (z_aload_n rfl)
theorem mj_180_14 : mc_P 180 14 = some (.iload_n 1, 1, 0, 0, 0) := by decide +kernel
theorem s_180_14 {x0 x2 : Option Value} {w : Value} : mw d 180 Q 14 [x0, some w, x2] (st) h = mv_i w (mw d 180 Q 15 [x0, some w, x2] (w :: st) h) := (mw_at mj_180_14).trans (z_iload_n rfl)
theorem mj_180_15 : mc_P 180 15 = some (.iload_n 2, 1, 0, 0, 0) := by decide +kernel
theorem s_180_15 {x0 x1 : Option Value} {w : Value} : mw d 180 Q 15 [x0, x1, some w] (st) h = mv_i w (mw d 180 Q 16 [x0, x1, some w] (w :: st) h) := (mw_at mj_180_15).trans (z_iload_n rfl)
theorem mj_180_16 : mc_P 180 16 = some (.ldc 95, 2, 36, 1, 0) := by decide +kernel
theorem s_180_16 {x0 x1 x2 : Option Value} : mw d 180 Q 16 [x0, x1, x2] (st) h = mw d 180 Q 18 [x0, x1, x2] (.retAddr 36 :: st) h := (mw_at mj_180_16).trans (z_ldcS)
theorem mj_180_18 : mc_P 180 18 = some (.invokevirtual 91, 3, 181, 10, 4) := by decide +kernel
theorem s_180_18 {x0 x1 x2 : Option Value} {o : Nat} {a1 a2 a3 : Value} : mw (d + 1) 180 Q 18 [x0, x1, x2] (a3 :: a2 :: a1 :: .ref o :: st) h = (mg h o 10 ∧ mca st 8 ∧ mca [.ref o, a1, a2, a3] 5 ∧ mcall d 181 [.ref o, a1, a2, a3] h (mK (d + 1) 180 Q 21 [x0, x1, x2] st)) := (mw_at mj_180_18).trans ((z_invv (As := [a1, a2, a3]) (by decide) rfl rfl).trans (congrArg (And _) (congrArg (And _) (mC_nl nl_181))))
theorem mj_180_21 : mc_P 180 21 = some (.ifCond .eq 5, 3, 0, 0, 0) := by decide +kernel
theorem s_180_21 {x0 x1 x2 : Option Value} {x : Int32} : mw d 180 Q 21 [x0, x1, x2] (.int x :: st) h = mB (x = 0) (mw d 180 Q) 26 24 [x0, x1, x2] st h := (mw_at mj_180_21).trans (z_if_eq (by decide) rfl)
theorem mj_180_24 : mc_P 180 24 = some (.iconst 5, 1, 0, 0, 0) := by decide +kernel
theorem s_180_24 {x0 x1 x2 : Option Value} : mw d 180 Q 24 [x0, x1, x2] (st) h = mw d 180 Q 25 [x0, x1, x2] (.int 5 :: st) h := (mw_at mj_180_24).trans (z_iconst (by decide))
theorem mj_180_25 : mc_P 180 25 = some (.ireturn, 1, 0, 0, 0) := by decide +kernel
theorem s_180_25 {x0 x1 x2 : Option Value} {x : Int32} : mw d 180 Q 25 [x0, x1, x2] ([.int x]) h = (Q (some (.int x)) h) := (mw_at mj_180_25).trans (z_iret)
theorem mj_180_26 : mc_P 180 26 = some (.aload_n 0, 1, 0, 0, 0) := by decide +kernel
theorem s_180_26 {x1 x2 : Option Value} {w : Value} : mw d 180 Q 26 [some w, x1, x2] (st) h = mv_a w (mw d 180 Q 27 [some w, x1, x2] (w :: st) h) := (mw_at mj_180_26).trans (z_aload_n rfl)
theorem mj_180_27 : mc_P 180 27 = some (.iload_n 1, 1, 0, 0, 0) := by decide +kernel
theorem s_180_27 {x0 x2 : Option Value} {w : Value} : mw d 180 Q 27 [x0, some w, x2] (st) h = mv_i w (mw d 180 Q 28 [x0, some w, x2] (w :: st) h) := (mw_at mj_180_27).trans (z_iload_n rfl)
theorem mj_180_28 : mc_P 180 28 = some (.iload_n 2, 1, 0, 0, 0) := by decide +kernel
theorem s_180_28 {x0 x1 : Option Value} {w : Value} : mw d 180 Q 28 [x0, x1, some w] (st) h = mv_i w (mw d 180 Q 29 [x0, x1, some w] (w :: st) h) := (mw_at mj_180_28).trans (z_iload_n rfl)
theorem mj_180_29 : mc_P 180 29 = some (.ldc 97, 2, 39, 1, 0) := by decide +kernel
theorem s_180_29 {x0 x1 x2 : Option Value} : mw d 180 Q 29 [x0, x1, x2] (st) h = mw d 180 Q 31 [x0, x1, x2] (.retAddr 39 :: st) h := (mw_at mj_180_29).trans (z_ldcS)
theorem mj_180_31 : mc_P 180 31 = some (.invokevirtual 91, 3, 181, 10, 4) := by decide +kernel
theorem s_180_31 {x0 x1 x2 : Option Value} {o : Nat} {a1 a2 a3 : Value} : mw (d + 1) 180 Q 31 [x0, x1, x2] (a3 :: a2 :: a1 :: .ref o :: st) h = (mg h o 10 ∧ mca st 8 ∧ mca [.ref o, a1, a2, a3] 5 ∧ mcall d 181 [.ref o, a1, a2, a3] h (mK (d + 1) 180 Q 34 [x0, x1, x2] st)) := (mw_at mj_180_31).trans ((z_invv (As := [a1, a2, a3]) (by decide) rfl rfl).trans (congrArg (And _) (congrArg (And _) (mC_nl nl_181))))
theorem mj_180_34 : mc_P 180 34 = some (.ifCond .eq 6, 3, 0, 0, 0) := by decide +kernel
theorem s_180_34 {x0 x1 x2 : Option Value} {x : Int32} : mw d 180 Q 34 [x0, x1, x2] (.int x :: st) h = mB (x = 0) (mw d 180 Q) 40 37 [x0, x1, x2] st h := (mw_at mj_180_34).trans (z_if_eq (by decide) rfl)
theorem mj_180_37 : mc_P 180 37 = some (.bipush 6, 2, 0, 0, 0) := by decide +kernel
theorem s_180_37 {x0 x1 x2 : Option Value} : mw d 180 Q 37 [x0, x1, x2] (st) h = mw d 180 Q 39 [x0, x1, x2] (.int 6 :: st) h := (mw_at mj_180_37).trans (z_bipush (by decide))
theorem mj_180_39 : mc_P 180 39 = some (.ireturn, 1, 0, 0, 0) := by decide +kernel
theorem s_180_39 {x0 x1 x2 : Option Value} {x : Int32} : mw d 180 Q 39 [x0, x1, x2] ([.int x]) h = (Q (some (.int x)) h) := (mw_at mj_180_39).trans (z_iret)
theorem mj_180_40 : mc_P 180 40 = some (.aload_n 0, 1, 0, 0, 0) := by decide +kernel
theorem s_180_40 {x1 x2 : Option Value} {w : Value} : mw d 180 Q 40 [some w, x1, x2] (st) h = mv_a w (mw d 180 Q 41 [some w, x1, x2] (w :: st) h) := (mw_at mj_180_40).trans (z_aload_n rfl)
theorem mj_180_41 : mc_P 180 41 = some (.iload_n 1, 1, 0, 0, 0) := by decide +kernel
theorem s_180_41 {x0 x2 : Option Value} {w : Value} : mw d 180 Q 41 [x0, some w, x2] (st) h = mv_i w (mw d 180 Q 42 [x0, some w, x2] (w :: st) h) := (mw_at mj_180_41).trans (z_iload_n rfl)
theorem mj_180_42 : mc_P 180 42 = some (.iload_n 2, 1, 0, 0, 0) := by decide +kernel
theorem s_180_42 {x0 x1 : Option Value} {w : Value} : mw d 180 Q 42 [x0, x1, some w] (st) h = mv_i w (mw d 180 Q 43 [x0, x1, some w] (w :: st) h) := (mw_at mj_180_42).trans (z_iload_n rfl)
theorem mj_180_43 : mc_P 180 43 = some (.ldc 99, 2, 42, 1, 0) := by decide +kernel
theorem s_180_43 {x0 x1 x2 : Option Value} : mw d 180 Q 43 [x0, x1, x2] (st) h = mw d 180 Q 45 [x0, x1, x2] (.retAddr 42 :: st) h := (mw_at mj_180_43).trans (z_ldcS)
theorem mj_180_45 : mc_P 180 45 = some (.invokevirtual 91, 3, 181, 10, 4) := by decide +kernel
theorem s_180_45 {x0 x1 x2 : Option Value} {o : Nat} {a1 a2 a3 : Value} : mw (d + 1) 180 Q 45 [x0, x1, x2] (a3 :: a2 :: a1 :: .ref o :: st) h = (mg h o 10 ∧ mca st 8 ∧ mca [.ref o, a1, a2, a3] 5 ∧ mcall d 181 [.ref o, a1, a2, a3] h (mK (d + 1) 180 Q 48 [x0, x1, x2] st)) := (mw_at mj_180_45).trans ((z_invv (As := [a1, a2, a3]) (by decide) rfl rfl).trans (congrArg (And _) (congrArg (And _) (mC_nl nl_181))))
theorem mj_180_48 : mc_P 180 48 = some (.ifCond .eq 6, 3, 0, 0, 0) := by decide +kernel
theorem s_180_48 {x0 x1 x2 : Option Value} {x : Int32} : mw d 180 Q 48 [x0, x1, x2] (.int x :: st) h = mB (x = 0) (mw d 180 Q) 54 51 [x0, x1, x2] st h := (mw_at mj_180_48).trans (z_if_eq (by decide) rfl)
theorem mj_180_51 : mc_P 180 51 = some (.bipush 7, 2, 0, 0, 0) := by decide +kernel
theorem s_180_51 {x0 x1 x2 : Option Value} : mw d 180 Q 51 [x0, x1, x2] (st) h = mw d 180 Q 53 [x0, x1, x2] (.int 7 :: st) h := (mw_at mj_180_51).trans (z_bipush (by decide))
theorem mj_180_53 : mc_P 180 53 = some (.ireturn, 1, 0, 0, 0) := by decide +kernel
theorem s_180_53 {x0 x1 x2 : Option Value} {x : Int32} : mw d 180 Q 53 [x0, x1, x2] ([.int x]) h = (Q (some (.int x)) h) := (mw_at mj_180_53).trans (z_iret)
theorem mj_180_54 : mc_P 180 54 = some (.aload_n 0, 1, 0, 0, 0) := by decide +kernel
theorem s_180_54 {x1 x2 : Option Value} {w : Value} : mw d 180 Q 54 [some w, x1, x2] (st) h = mv_a w (mw d 180 Q 55 [some w, x1, x2] (w :: st) h) := (mw_at mj_180_54).trans (z_aload_n rfl)
theorem mj_180_55 : mc_P 180 55 = some (.iload_n 1, 1, 0, 0, 0) := by decide +kernel
theorem s_180_55 {x0 x2 : Option Value} {w : Value} : mw d 180 Q 55 [x0, some w, x2] (st) h = mv_i w (mw d 180 Q 56 [x0, some w, x2] (w :: st) h) := (mw_at mj_180_55).trans (z_iload_n rfl)
theorem mj_180_56 : mc_P 180 56 = some (.iload_n 2, 1, 0, 0, 0) := by decide +kernel
theorem s_180_56 {x0 x1 : Option Value} {w : Value} : mw d 180 Q 56 [x0, x1, some w] (st) h = mv_i w (mw d 180 Q 57 [x0, x1, some w] (w :: st) h) := (mw_at mj_180_56).trans (z_iload_n rfl)
theorem mj_180_57 : mc_P 180 57 = some (.ldc 101, 2, 45, 1, 0) := by decide +kernel
theorem s_180_57 {x0 x1 x2 : Option Value} : mw d 180 Q 57 [x0, x1, x2] (st) h = mw d 180 Q 59 [x0, x1, x2] (.retAddr 45 :: st) h := (mw_at mj_180_57).trans (z_ldcS)
theorem mj_180_59 : mc_P 180 59 = some (.invokevirtual 91, 3, 181, 10, 4) := by decide +kernel
theorem s_180_59 {x0 x1 x2 : Option Value} {o : Nat} {a1 a2 a3 : Value} : mw (d + 1) 180 Q 59 [x0, x1, x2] (a3 :: a2 :: a1 :: .ref o :: st) h = (mg h o 10 ∧ mca st 8 ∧ mca [.ref o, a1, a2, a3] 5 ∧ mcall d 181 [.ref o, a1, a2, a3] h (mK (d + 1) 180 Q 62 [x0, x1, x2] st)) := (mw_at mj_180_59).trans ((z_invv (As := [a1, a2, a3]) (by decide) rfl rfl).trans (congrArg (And _) (congrArg (And _) (mC_nl nl_181))))
theorem mj_180_62 : mc_P 180 62 = some (.ifCond .eq 6, 3, 0, 0, 0) := by decide +kernel
theorem s_180_62 {x0 x1 x2 : Option Value} {x : Int32} : mw d 180 Q 62 [x0, x1, x2] (.int x :: st) h = mB (x = 0) (mw d 180 Q) 68 65 [x0, x1, x2] st h := (mw_at mj_180_62).trans (z_if_eq (by decide) rfl)
theorem mj_180_65 : mc_P 180 65 = some (.bipush 8, 2, 0, 0, 0) := by decide +kernel
theorem s_180_65 {x0 x1 x2 : Option Value} : mw d 180 Q 65 [x0, x1, x2] (st) h = mw d 180 Q 67 [x0, x1, x2] (.int 8 :: st) h := (mw_at mj_180_65).trans (z_bipush (by decide))
theorem mj_180_67 : mc_P 180 67 = some (.ireturn, 1, 0, 0, 0) := by decide +kernel
theorem s_180_67 {x0 x1 x2 : Option Value} {x : Int32} : mw d 180 Q 67 [x0, x1, x2] ([.int x]) h = (Q (some (.int x)) h) := (mw_at mj_180_67).trans (z_iret)
theorem mj_180_68 : mc_P 180 68 = some (.aload_n 0, 1, 0, 0, 0) := by decide +kernel
theorem s_180_68 {x1 x2 : Option Value} {w : Value} : mw d 180 Q 68 [some w, x1, x2] (st) h = mv_a w (mw d 180 Q 69 [some w, x1, x2] (w :: st) h) := (mw_at mj_180_68).trans (z_aload_n rfl)
theorem mj_180_69 : mc_P 180 69 = some (.iload_n 1, 1, 0, 0, 0) := by decide +kernel
theorem s_180_69 {x0 x2 : Option Value} {w : Value} : mw d 180 Q 69 [x0, some w, x2] (st) h = mv_i w (mw d 180 Q 70 [x0, some w, x2] (w :: st) h) := (mw_at mj_180_69).trans (z_iload_n rfl)
theorem mj_180_70 : mc_P 180 70 = some (.iload_n 2, 1, 0, 0, 0) := by decide +kernel
theorem s_180_70 {x0 x1 : Option Value} {w : Value} : mw d 180 Q 70 [x0, x1, some w] (st) h = mv_i w (mw d 180 Q 71 [x0, x1, some w] (w :: st) h) := (mw_at mj_180_70).trans (z_iload_n rfl)
theorem mj_180_71 : mc_P 180 71 = some (.ldc 103, 2, 48, 1, 0) := by decide +kernel
theorem s_180_71 {x0 x1 x2 : Option Value} : mw d 180 Q 71 [x0, x1, x2] (st) h = mw d 180 Q 73 [x0, x1, x2] (.retAddr 48 :: st) h := (mw_at mj_180_71).trans (z_ldcS)
theorem mj_180_73 : mc_P 180 73 = some (.invokevirtual 91, 3, 181, 10, 4) := by decide +kernel
theorem s_180_73 {x0 x1 x2 : Option Value} {o : Nat} {a1 a2 a3 : Value} : mw (d + 1) 180 Q 73 [x0, x1, x2] (a3 :: a2 :: a1 :: .ref o :: st) h = (mg h o 10 ∧ mca st 8 ∧ mca [.ref o, a1, a2, a3] 5 ∧ mcall d 181 [.ref o, a1, a2, a3] h (mK (d + 1) 180 Q 76 [x0, x1, x2] st)) := (mw_at mj_180_73).trans ((z_invv (As := [a1, a2, a3]) (by decide) rfl rfl).trans (congrArg (And _) (congrArg (And _) (mC_nl nl_181))))
theorem mj_180_76 : mc_P 180 76 = some (.ifCond .eq 6, 3, 0, 0, 0) := by decide +kernel
theorem s_180_76 {x0 x1 x2 : Option Value} {x : Int32} : mw d 180 Q 76 [x0, x1, x2] (.int x :: st) h = mB (x = 0) (mw d 180 Q) 82 79 [x0, x1, x2] st h := (mw_at mj_180_76).trans (z_if_eq (by decide) rfl)
theorem mj_180_79 : mc_P 180 79 = some (.bipush 9, 2, 0, 0, 0) := by decide +kernel
theorem s_180_79 {x0 x1 x2 : Option Value} : mw d 180 Q 79 [x0, x1, x2] (st) h = mw d 180 Q 81 [x0, x1, x2] (.int 9 :: st) h := (mw_at mj_180_79).trans (z_bipush (by decide))
theorem mj_180_81 : mc_P 180 81 = some (.ireturn, 1, 0, 0, 0) := by decide +kernel
theorem s_180_81 {x0 x1 x2 : Option Value} {x : Int32} : mw d 180 Q 81 [x0, x1, x2] ([.int x]) h = (Q (some (.int x)) h) := (mw_at mj_180_81).trans (z_iret)
theorem mj_180_82 : mc_P 180 82 = some (.aload_n 0, 1, 0, 0, 0) := by decide +kernel
theorem s_180_82 {x1 x2 : Option Value} {w : Value} : mw d 180 Q 82 [some w, x1, x2] (st) h = mv_a w (mw d 180 Q 83 [some w, x1, x2] (w :: st) h) := (mw_at mj_180_82).trans (z_aload_n rfl)
theorem mj_180_83 : mc_P 180 83 = some (.iload_n 1, 1, 0, 0, 0) := by decide +kernel
theorem s_180_83 {x0 x2 : Option Value} {w : Value} : mw d 180 Q 83 [x0, some w, x2] (st) h = mv_i w (mw d 180 Q 84 [x0, some w, x2] (w :: st) h) := (mw_at mj_180_83).trans (z_iload_n rfl)
theorem mj_180_84 : mc_P 180 84 = some (.iload_n 2, 1, 0, 0, 0) := by decide +kernel
theorem s_180_84 {x0 x1 : Option Value} {w : Value} : mw d 180 Q 84 [x0, x1, some w] (st) h = mv_i w (mw d 180 Q 85 [x0, x1, some w] (w :: st) h) := (mw_at mj_180_84).trans (z_iload_n rfl)
theorem mj_180_85 : mc_P 180 85 = some (.ldc 105, 2, 51, 1, 0) := by decide +kernel
theorem s_180_85 {x0 x1 x2 : Option Value} : mw d 180 Q 85 [x0, x1, x2] (st) h = mw d 180 Q 87 [x0, x1, x2] (.retAddr 51 :: st) h := (mw_at mj_180_85).trans (z_ldcS)
theorem mj_180_87 : mc_P 180 87 = some (.invokevirtual 91, 3, 181, 10, 4) := by decide +kernel
theorem s_180_87 {x0 x1 x2 : Option Value} {o : Nat} {a1 a2 a3 : Value} : mw (d + 1) 180 Q 87 [x0, x1, x2] (a3 :: a2 :: a1 :: .ref o :: st) h = (mg h o 10 ∧ mca st 8 ∧ mca [.ref o, a1, a2, a3] 5 ∧ mcall d 181 [.ref o, a1, a2, a3] h (mK (d + 1) 180 Q 90 [x0, x1, x2] st)) := (mw_at mj_180_87).trans ((z_invv (As := [a1, a2, a3]) (by decide) rfl rfl).trans (congrArg (And _) (congrArg (And _) (mC_nl nl_181))))
theorem mj_180_90 : mc_P 180 90 = some (.ifCond .eq 6, 3, 0, 0, 0) := by decide +kernel
theorem s_180_90 {x0 x1 x2 : Option Value} {x : Int32} : mw d 180 Q 90 [x0, x1, x2] (.int x :: st) h = mB (x = 0) (mw d 180 Q) 96 93 [x0, x1, x2] st h := (mw_at mj_180_90).trans (z_if_eq (by decide) rfl)
theorem mj_180_93 : mc_P 180 93 = some (.bipush 10, 2, 0, 0, 0) := by decide +kernel
theorem s_180_93 {x0 x1 x2 : Option Value} : mw d 180 Q 93 [x0, x1, x2] (st) h = mw d 180 Q 95 [x0, x1, x2] (.int 10 :: st) h := (mw_at mj_180_93).trans (z_bipush (by decide))
theorem mj_180_95 : mc_P 180 95 = some (.ireturn, 1, 0, 0, 0) := by decide +kernel
theorem s_180_95 {x0 x1 x2 : Option Value} {x : Int32} : mw d 180 Q 95 [x0, x1, x2] ([.int x]) h = (Q (some (.int x)) h) := (mw_at mj_180_95).trans (z_iret)
theorem mj_180_96 : mc_P 180 96 = some (.aload_n 0, 1, 0, 0, 0) := by decide +kernel
theorem s_180_96 {x1 x2 : Option Value} {w : Value} : mw d 180 Q 96 [some w, x1, x2] (st) h = mv_a w (mw d 180 Q 97 [some w, x1, x2] (w :: st) h) := (mw_at mj_180_96).trans (z_aload_n rfl)
theorem mj_180_97 : mc_P 180 97 = some (.iload_n 1, 1, 0, 0, 0) := by decide +kernel
theorem s_180_97 {x0 x2 : Option Value} {w : Value} : mw d 180 Q 97 [x0, some w, x2] (st) h = mv_i w (mw d 180 Q 98 [x0, some w, x2] (w :: st) h) := (mw_at mj_180_97).trans (z_iload_n rfl)
theorem mj_180_98 : mc_P 180 98 = some (.iload_n 2, 1, 0, 0, 0) := by decide +kernel
theorem s_180_98 {x0 x1 : Option Value} {w : Value} : mw d 180 Q 98 [x0, x1, some w] (st) h = mv_i w (mw d 180 Q 99 [x0, x1, some w] (w :: st) h) := (mw_at mj_180_98).trans (z_iload_n rfl)
theorem mj_180_99 : mc_P 180 99 = some (.ldc 107, 2, 54, 1, 0) := by decide +kernel
theorem s_180_99 {x0 x1 x2 : Option Value} : mw d 180 Q 99 [x0, x1, x2] (st) h = mw d 180 Q 101 [x0, x1, x2] (.retAddr 54 :: st) h := (mw_at mj_180_99).trans (z_ldcS)
theorem mj_180_101 : mc_P 180 101 = some (.invokevirtual 91, 3, 181, 10, 4) := by decide +kernel
theorem s_180_101 {x0 x1 x2 : Option Value} {o : Nat} {a1 a2 a3 : Value} : mw (d + 1) 180 Q 101 [x0, x1, x2] (a3 :: a2 :: a1 :: .ref o :: st) h = (mg h o 10 ∧ mca st 8 ∧ mca [.ref o, a1, a2, a3] 5 ∧ mcall d 181 [.ref o, a1, a2, a3] h (mK (d + 1) 180 Q 104 [x0, x1, x2] st)) := (mw_at mj_180_101).trans ((z_invv (As := [a1, a2, a3]) (by decide) rfl rfl).trans (congrArg (And _) (congrArg (And _) (mC_nl nl_181))))
theorem mj_180_104 : mc_P 180 104 = some (.ifCond .eq 8, 3, 0, 0, 0) := by decide +kernel
theorem s_180_104 {x0 x1 x2 : Option Value} {x : Int32} : mw d 180 Q 104 [x0, x1, x2] (.int x :: st) h = mB (x = 0) (mw d 180 Q) 112 107 [x0, x1, x2] st h := (mw_at mj_180_104).trans (z_if_eq (by decide) rfl)
theorem mj_180_107 : mc_P 180 107 = some (.bipush 11, 2, 0, 0, 0) := by decide +kernel
theorem s_180_107 {x0 x1 x2 : Option Value} : mw d 180 Q 107 [x0, x1, x2] (st) h = mw d 180 Q 109 [x0, x1, x2] (.int 11 :: st) h := (mw_at mj_180_107).trans (z_bipush (by decide))
theorem mj_180_109 : mc_P 180 109 = some (.goto 4, 3, 0, 0, 0) := by decide +kernel
theorem s_180_109 {x0 x1 x2 : Option Value} : mw d 180 Q 109 [x0, x1, x2] (st) h = mw d 180 Q 113 [x0, x1, x2] (st) h := (mw_at mj_180_109).trans (z_goto (by decide))
theorem mj_180_112 : mc_P 180 112 = some (.iconst 2, 1, 0, 0, 0) := by decide +kernel
theorem s_180_112 {x0 x1 x2 : Option Value} : mw d 180 Q 112 [x0, x1, x2] (st) h = mw d 180 Q 113 [x0, x1, x2] (.int 2 :: st) h := (mw_at mj_180_112).trans (z_iconst (by decide))
theorem mj_180_113 : mc_P 180 113 = some (.ireturn, 1, 0, 0, 0) := by decide +kernel
theorem s_180_113 {x0 x1 x2 : Option Value} {x : Int32} : mw d 180 Q 113 [x0, x1, x2] ([.int x]) h = (Q (some (.int x)) h) := (mw_at mj_180_113).trans (z_iret)
theorem e_180 {a0 : Nat} {a1 : Int32} {a2 : Int32} : mcall d 180 [.ref a0, .int a1, .int a2] h Q = mw d 180 Q 0 [some (.ref a0), some (.int a1), some (.int a2)] [] h := by
  show mw d 180 Q 0 (me_en (mc_nl 180) _) [] h = _
  rw [nl_180]; rfl

/-! InvariantDesk$Tokens.spells(IILjava/lang/String;)Z -/
theorem mj_181_0 : mc_P 181 0 = some (.iload_n 2, 1, 0, 0, 0) := by decide +kernel
theorem s_181_0 {x0 x1 x3 x4 : Option Value} {w : Value} : mw d 181 Q 0 [x0, x1, some w, x3, x4] (st) h = mv_i w (mw d 181 Q 1 [x0, x1, some w, x3, x4] (w :: st) h) := (mw_at mj_181_0).trans (z_iload_n rfl)
theorem mj_181_1 : mc_P 181 1 = some (.aload_n 3, 1, 0, 0, 0) := by decide +kernel
theorem s_181_1 {x0 x1 x2 x4 : Option Value} {w : Value} : mw d 181 Q 1 [x0, x1, x2, some w, x4] (st) h = mv_a w (mw d 181 Q 2 [x0, x1, x2, some w, x4] (w :: st) h) := (mw_at mj_181_1).trans (z_aload_n rfl)
theorem mj_181_2 : mc_P 181 2 = some (.invokevirtual 109, 3, 394, 90, 1) := by decide +kernel
theorem s_181_2 {x0 x1 x2 x3 x4 : Option Value} {o : Nat} : mw (d + 1) 181 Q 2 [x0, x1, x2, x3, x4] (.retAddr o :: st) h = (me_xs o = true ∧ mca st 8 ∧ mca [.retAddr o] 1 ∧ mcall d 394 [.retAddr o] h (mK (d + 1) 181 Q 5 [x0, x1, x2, x3, x4] st)) := (mw_at mj_181_2).trans ((z_invx (As := []) rfl rfl).trans (congrArg (And _) (congrArg (And _) (mC_nl nl_394))))
theorem mj_181_5 : mc_P 181 5 = some (.if_icmp .eq 5, 3, 0, 0, 0) := by decide +kernel
theorem s_181_5 {x0 x1 x2 x3 x4 : Option Value} {x w : Int32} : mw d 181 Q 5 [x0, x1, x2, x3, x4] (.int w :: .int x :: st) h = mB (x = w) (mw d 181 Q) 10 8 [x0, x1, x2, x3, x4] st h := (mw_at mj_181_5).trans (z_icmp_eq (by decide) rfl)
theorem mj_181_8 : mc_P 181 8 = some (.iconst 0, 1, 0, 0, 0) := by decide +kernel
theorem s_181_8 {x0 x1 x2 x3 x4 : Option Value} : mw d 181 Q 8 [x0, x1, x2, x3, x4] (st) h = mw d 181 Q 9 [x0, x1, x2, x3, x4] (.int 0 :: st) h := (mw_at mj_181_8).trans (z_iconst (by decide))
theorem mj_181_9 : mc_P 181 9 = some (.ireturn, 1, 0, 3, 0) := by decide +kernel
theorem s_181_9 {x0 x1 x2 x3 x4 : Option Value} {x : Int32} : mw d 181 Q 9 [x0, x1, x2, x3, x4] ([.int x]) h = ((x = 0 ∨ x = 1) ∧ Q (some (.int x)) h) := (mw_at mj_181_9).trans (z_zret)
theorem mj_181_10 : mc_P 181 10 = some (.iconst 0, 1, 0, 0, 0) := by decide +kernel
theorem s_181_10 {x0 x1 x2 x3 x4 : Option Value} : mw d 181 Q 10 [x0, x1, x2, x3, x4] (st) h = mw d 181 Q 11 [x0, x1, x2, x3, x4] (.int 0 :: st) h := (mw_at mj_181_10).trans (z_iconst (by decide))
theorem mj_181_11 : mc_P 181 11 = some (.istore 4, 2, 0, 0, 0) := by decide +kernel
theorem s_181_11 {x0 x1 x2 x3 x4 : Option Value} {w : Int32} : mw d 181 Q 11 [x0, x1, x2, x3, x4] (.int w :: st) h = mw d 181 Q 13 [x0, x1, x2, mk2 x3, some (.int w)] (st) h := (mw_at mj_181_11).trans (z_istore (Nat.le_of_ble_eq_true rfl) (me_s1_mk (j := 3) (w := x3) rfl))
theorem mj_181_13 : mc_P 181 13 = some (.iload 4, 2, 0, 0, 0) := by decide +kernel
theorem s_181_13 {x0 x1 x2 x3 : Option Value} {w : Value} : mw d 181 Q 13 [x0, x1, x2, x3, some w] (st) h = mv_i w (mw d 181 Q 15 [x0, x1, x2, x3, some w] (w :: st) h) := (mw_at mj_181_13).trans (z_iload rfl)
theorem mj_181_15 : mc_P 181 15 = some (.iload_n 2, 1, 0, 0, 0) := by decide +kernel
theorem s_181_15 {x0 x1 x3 x4 : Option Value} {w : Value} : mw d 181 Q 15 [x0, x1, some w, x3, x4] (st) h = mv_i w (mw d 181 Q 16 [x0, x1, some w, x3, x4] (w :: st) h) := (mw_at mj_181_15).trans (z_iload_n rfl)
theorem mj_181_16 : mc_P 181 16 = some (.if_icmp .ge 28, 3, 0, 0, 0) := by decide +kernel
theorem s_181_16 {x0 x1 x2 x3 x4 : Option Value} {x w : Int32} : mw d 181 Q 16 [x0, x1, x2, x3, x4] (.int w :: .int x :: st) h = mB (w ≤ x) (mw d 181 Q) 44 19 [x0, x1, x2, x3, x4] st h := (mw_at mj_181_16).trans (z_icmp_ge (by decide) rfl)
theorem mj_181_19 : mc_P 181 19 = some (.aload_n 0, 1, 0, 0, 0) := by decide +kernel
theorem s_181_19 {x1 x2 x3 x4 : Option Value} {w : Value} : mw d 181 Q 19 [some w, x1, x2, x3, x4] (st) h = mv_a w (mw d 181 Q 20 [some w, x1, x2, x3, x4] (w :: st) h) := (mw_at mj_181_19).trans (z_aload_n rfl)
theorem mj_181_20 : mc_P 181 20 = some (.iload_n 1, 1, 0, 0, 0) := by decide +kernel
theorem s_181_20 {x0 x2 x3 x4 : Option Value} {w : Value} : mw d 181 Q 20 [x0, some w, x2, x3, x4] (st) h = mv_i w (mw d 181 Q 21 [x0, some w, x2, x3, x4] (w :: st) h) := (mw_at mj_181_20).trans (z_iload_n rfl)
theorem mj_181_21 : mc_P 181 21 = some (.iload 4, 2, 0, 0, 0) := by decide +kernel
theorem s_181_21 {x0 x1 x2 x3 : Option Value} {w : Value} : mw d 181 Q 21 [x0, x1, x2, x3, some w] (st) h = mv_i w (mw d 181 Q 23 [x0, x1, x2, x3, some w] (w :: st) h) := (mw_at mj_181_21).trans (z_iload rfl)
theorem mj_181_23 : mc_P 181 23 = some (.iadd, 1, 0, 0, 0) := by decide +kernel
theorem s_181_23 {x0 x1 x2 x3 x4 : Option Value} {x w : Int32} : mw d 181 Q 23 [x0, x1, x2, x3, x4] (.int w :: .int x :: st) h = mw d 181 Q 24 [x0, x1, x2, x3, x4] (.int (x + w) :: st) h := (mw_at mj_181_23).trans (z_iadd)
theorem mj_181_24 : mc_P 181 24 = some (.invokevirtual 50, 3, 170, 10, 2) := by decide +kernel
theorem s_181_24 {x0 x1 x2 x3 x4 : Option Value} {o : Nat} {a1 : Value} : mw (d + 1) 181 Q 24 [x0, x1, x2, x3, x4] (a1 :: .ref o :: st) h = (mg h o 10 ∧ mca st 8 ∧ mca [.ref o, a1] 2 ∧ mcall d 170 [.ref o, a1] h (mK (d + 1) 181 Q 27 [x0, x1, x2, x3, x4] st)) := (mw_at mj_181_24).trans ((z_invv (As := [a1]) (by decide) rfl rfl).trans (congrArg (And _) (congrArg (And _) (mC_nl nl_170))))
theorem mj_181_27 : mc_P 181 27 = some (.aload_n 3, 1, 0, 0, 0) := by decide +kernel
theorem s_181_27 {x0 x1 x2 x4 : Option Value} {w : Value} : mw d 181 Q 27 [x0, x1, x2, some w, x4] (st) h = mv_a w (mw d 181 Q 28 [x0, x1, x2, some w, x4] (w :: st) h) := (mw_at mj_181_27).trans (z_aload_n rfl)
theorem mj_181_28 : mc_P 181 28 = some (.iload 4, 2, 0, 0, 0) := by decide +kernel
theorem s_181_28 {x0 x1 x2 x3 : Option Value} {w : Value} : mw d 181 Q 28 [x0, x1, x2, x3, some w] (st) h = mv_i w (mw d 181 Q 30 [x0, x1, x2, x3, some w] (w :: st) h) := (mw_at mj_181_28).trans (z_iload rfl)
theorem mj_181_30 : mc_P 181 30 = some (.invokevirtual 113, 3, 397, 90, 2) := by decide +kernel
theorem s_181_30 {x0 x1 x2 x3 x4 : Option Value} {o : Nat} {a1 : Value} : mw (d + 1) 181 Q 30 [x0, x1, x2, x3, x4] (a1 :: .retAddr o :: st) h = (me_xs o = true ∧ mca st 8 ∧ mca [.retAddr o, a1] 2 ∧ mcall d 397 [.retAddr o, a1] h (mK (d + 1) 181 Q 33 [x0, x1, x2, x3, x4] st)) := (mw_at mj_181_30).trans ((z_invx (As := [a1]) rfl rfl).trans (congrArg (And _) (congrArg (And _) (mC_nl nl_397))))
theorem mj_181_33 : mc_P 181 33 = some (.if_icmp .eq 5, 3, 0, 0, 0) := by decide +kernel
theorem s_181_33 {x0 x1 x2 x3 x4 : Option Value} {x w : Int32} : mw d 181 Q 33 [x0, x1, x2, x3, x4] (.int w :: .int x :: st) h = mB (x = w) (mw d 181 Q) 38 36 [x0, x1, x2, x3, x4] st h := (mw_at mj_181_33).trans (z_icmp_eq (by decide) rfl)
theorem mj_181_36 : mc_P 181 36 = some (.iconst 0, 1, 0, 0, 0) := by decide +kernel
theorem s_181_36 {x0 x1 x2 x3 x4 : Option Value} : mw d 181 Q 36 [x0, x1, x2, x3, x4] (st) h = mw d 181 Q 37 [x0, x1, x2, x3, x4] (.int 0 :: st) h := (mw_at mj_181_36).trans (z_iconst (by decide))
theorem mj_181_37 : mc_P 181 37 = some (.ireturn, 1, 0, 3, 0) := by decide +kernel
theorem s_181_37 {x0 x1 x2 x3 x4 : Option Value} {x : Int32} : mw d 181 Q 37 [x0, x1, x2, x3, x4] ([.int x]) h = ((x = 0 ∨ x = 1) ∧ Q (some (.int x)) h) := (mw_at mj_181_37).trans (z_zret)
theorem mj_181_38 : mc_P 181 38 = some (.iinc 4 1, 3, 0, 0, 0) := by decide +kernel
theorem s_181_38 {x0 x1 x2 x3 : Option Value} {w : Int32} : mw d 181 Q 38 [x0, x1, x2, x3, some (.int w)] (st) h = mw d 181 Q 41 [x0, x1, x2, mk2 x3, some (.int (w + 1))] (st) h := (mw_at mj_181_38).trans (z_iinc rfl (Nat.le_of_ble_eq_true rfl) (by decide) (me_s1_mk (j := 3) (w := x3) rfl))
theorem mj_181_41 : mc_P 181 41 = some (.goto (-28), 3, 0, 0, 0) := by decide +kernel
theorem s_181_41 {x0 x1 x2 x3 x4 : Option Value} : mw d 181 Q 41 [x0, x1, x2, x3, x4] (st) h = mw d 181 Q 13 [x0, x1, x2, x3, x4] (st) h := (mw_at mj_181_41).trans (z_goto (by decide))
theorem mj_181_44 : mc_P 181 44 = some (.iconst 1, 1, 0, 0, 0) := by decide +kernel
theorem s_181_44 {x0 x1 x2 x3 x4 : Option Value} : mw d 181 Q 44 [x0, x1, x2, x3, x4] (st) h = mw d 181 Q 45 [x0, x1, x2, x3, x4] (.int 1 :: st) h := (mw_at mj_181_44).trans (z_iconst (by decide))
theorem mj_181_45 : mc_P 181 45 = some (.ireturn, 1, 0, 3, 0) := by decide +kernel
theorem s_181_45 {x0 x1 x2 x3 x4 : Option Value} {x : Int32} : mw d 181 Q 45 [x0, x1, x2, x3, x4] ([.int x]) h = ((x = 0 ∨ x = 1) ∧ Q (some (.int x)) h) := (mw_at mj_181_45).trans (z_zret)
theorem e_181 {a0 : Nat} {a1 : Int32} {a2 : Int32} {a3 : Nat} : mcall d 181 [.ref a0, .int a1, .int a2, .retAddr a3] h Q = mw d 181 Q 0 [some (.ref a0), some (.int a1), some (.int a2), some (.retAddr a3), none] [] h := by
  show mw d 181 Q 0 (me_en (mc_nl 181) _) [] h = _
  rw [nl_181]; rfl

/-! InvariantDesk$Tokens.sameNames(II)Z -/
theorem mj_182_0 : mc_P 182 0 = some (.aload_n 0, 1, 0, 0, 0) := by decide +kernel
theorem s_182_0 {x1 x2 x3 : Option Value} {w : Value} : mw d 182 Q 0 [some w, x1, x2, x3] (st) h = mv_a w (mw d 182 Q 1 [some w, x1, x2, x3] (w :: st) h) := (mw_at mj_182_0).trans (z_aload_n rfl)
theorem mj_182_1 : mc_P 182 1 = some (.getfield 28, 3, 10, 3, 0) := by decide +kernel
theorem s_182_1 {x0 x1 x2 x3 : Option Value} {o : Nat} : mw d 182 Q 1 [x0, x1, x2, x3] (.ref o :: st) h = (mg h o 10 ∧ mw d 182 Q 4 [x0, x1, x2, x3] (va_rf (mh_r h o 3) :: st) h) := (mw_at mj_182_1).trans (z_getr (by decide) (by decide) rfl)
theorem mj_182_4 : mc_P 182 4 = some (.iload_n 1, 1, 0, 0, 0) := by decide +kernel
theorem s_182_4 {x0 x2 x3 : Option Value} {w : Value} : mw d 182 Q 4 [x0, some w, x2, x3] (st) h = mv_i w (mw d 182 Q 5 [x0, some w, x2, x3] (w :: st) h) := (mw_at mj_182_4).trans (z_iload_n rfl)
theorem mj_182_5 : mc_P 182 5 = some (.iaload, 1, 0, 0, 0) := by decide +kernel
theorem s_182_5 {x0 x1 x2 x3 : Option Value} {o : Nat} {i : Int32} : mw d 182 Q 5 [x0, x1, x2, x3] (.int i :: .ref o :: st) h = (mg h o 100 ∧ mx i (mh_l h o) ∧ mw d 182 Q 6 [x0, x1, x2, x3] (.int (mh_i h o i.toNatClampNeg) :: st) h) := (mw_at mj_182_5).trans (z_iald)
theorem mj_182_6 : mc_P 182 6 = some (.aload_n 0, 1, 0, 0, 0) := by decide +kernel
theorem s_182_6 {x1 x2 x3 : Option Value} {w : Value} : mw d 182 Q 6 [some w, x1, x2, x3] (st) h = mv_a w (mw d 182 Q 7 [some w, x1, x2, x3] (w :: st) h) := (mw_at mj_182_6).trans (z_aload_n rfl)
theorem mj_182_7 : mc_P 182 7 = some (.getfield 28, 3, 10, 3, 0) := by decide +kernel
theorem s_182_7 {x0 x1 x2 x3 : Option Value} {o : Nat} : mw d 182 Q 7 [x0, x1, x2, x3] (.ref o :: st) h = (mg h o 10 ∧ mw d 182 Q 10 [x0, x1, x2, x3] (va_rf (mh_r h o 3) :: st) h) := (mw_at mj_182_7).trans (z_getr (by decide) (by decide) rfl)
theorem mj_182_10 : mc_P 182 10 = some (.iload_n 2, 1, 0, 0, 0) := by decide +kernel
theorem s_182_10 {x0 x1 x3 : Option Value} {w : Value} : mw d 182 Q 10 [x0, x1, some w, x3] (st) h = mv_i w (mw d 182 Q 11 [x0, x1, some w, x3] (w :: st) h) := (mw_at mj_182_10).trans (z_iload_n rfl)
theorem mj_182_11 : mc_P 182 11 = some (.iaload, 1, 0, 0, 0) := by decide +kernel
theorem s_182_11 {x0 x1 x2 x3 : Option Value} {o : Nat} {i : Int32} : mw d 182 Q 11 [x0, x1, x2, x3] (.int i :: .ref o :: st) h = (mg h o 100 ∧ mx i (mh_l h o) ∧ mw d 182 Q 12 [x0, x1, x2, x3] (.int (mh_i h o i.toNatClampNeg) :: st) h) := (mw_at mj_182_11).trans (z_iald)
theorem mj_182_12 : mc_P 182 12 = some (.if_icmp .eq 5, 3, 0, 0, 0) := by decide +kernel
theorem s_182_12 {x0 x1 x2 x3 : Option Value} {x w : Int32} : mw d 182 Q 12 [x0, x1, x2, x3] (.int w :: .int x :: st) h = mB (x = w) (mw d 182 Q) 17 15 [x0, x1, x2, x3] st h := (mw_at mj_182_12).trans (z_icmp_eq (by decide) rfl)
theorem mj_182_15 : mc_P 182 15 = some (.iconst 0, 1, 0, 0, 0) := by decide +kernel
theorem s_182_15 {x0 x1 x2 x3 : Option Value} : mw d 182 Q 15 [x0, x1, x2, x3] (st) h = mw d 182 Q 16 [x0, x1, x2, x3] (.int 0 :: st) h := (mw_at mj_182_15).trans (z_iconst (by decide))
theorem mj_182_16 : mc_P 182 16 = some (.ireturn, 1, 0, 3, 0) := by decide +kernel
theorem s_182_16 {x0 x1 x2 x3 : Option Value} {x : Int32} : mw d 182 Q 16 [x0, x1, x2, x3] ([.int x]) h = ((x = 0 ∨ x = 1) ∧ Q (some (.int x)) h) := (mw_at mj_182_16).trans (z_zret)
theorem mj_182_17 : mc_P 182 17 = some (.iconst 0, 1, 0, 0, 0) := by decide +kernel
theorem s_182_17 {x0 x1 x2 x3 : Option Value} : mw d 182 Q 17 [x0, x1, x2, x3] (st) h = mw d 182 Q 18 [x0, x1, x2, x3] (.int 0 :: st) h := (mw_at mj_182_17).trans (z_iconst (by decide))
theorem mj_182_18 : mc_P 182 18 = some (.istore_n 3, 1, 0, 0, 0) := by decide +kernel
theorem s_182_18 {x0 x1 x2 x3 : Option Value} {w : Int32} : mw d 182 Q 18 [x0, x1, x2, x3] (.int w :: st) h = mw d 182 Q 19 [x0, x1, mk2 x2, some (.int w)] (st) h := (mw_at mj_182_18).trans (z_istore_n (Nat.le_of_ble_eq_true rfl) (me_s1_mk (j := 2) (w := x2) rfl))
theorem mj_182_19 : mc_P 182 19 = some (.iload_n 3, 1, 0, 0, 0) := by decide +kernel
theorem s_182_19 {x0 x1 x2 : Option Value} {w : Value} : mw d 182 Q 19 [x0, x1, x2, some w] (st) h = mv_i w (mw d 182 Q 20 [x0, x1, x2, some w] (w :: st) h) := (mw_at mj_182_19).trans (z_iload_n rfl)
theorem mj_182_20 : mc_P 182 20 = some (.aload_n 0, 1, 0, 0, 0) := by decide +kernel
theorem s_182_20 {x1 x2 x3 : Option Value} {w : Value} : mw d 182 Q 20 [some w, x1, x2, x3] (st) h = mv_a w (mw d 182 Q 21 [some w, x1, x2, x3] (w :: st) h) := (mw_at mj_182_20).trans (z_aload_n rfl)
theorem mj_182_21 : mc_P 182 21 = some (.getfield 28, 3, 10, 3, 0) := by decide +kernel
theorem s_182_21 {x0 x1 x2 x3 : Option Value} {o : Nat} : mw d 182 Q 21 [x0, x1, x2, x3] (.ref o :: st) h = (mg h o 10 ∧ mw d 182 Q 24 [x0, x1, x2, x3] (va_rf (mh_r h o 3) :: st) h) := (mw_at mj_182_21).trans (z_getr (by decide) (by decide) rfl)
theorem mj_182_24 : mc_P 182 24 = some (.iload_n 1, 1, 0, 0, 0) := by decide +kernel
theorem s_182_24 {x0 x2 x3 : Option Value} {w : Value} : mw d 182 Q 24 [x0, some w, x2, x3] (st) h = mv_i w (mw d 182 Q 25 [x0, some w, x2, x3] (w :: st) h) := (mw_at mj_182_24).trans (z_iload_n rfl)
theorem mj_182_25 : mc_P 182 25 = some (.iaload, 1, 0, 0, 0) := by decide +kernel
theorem s_182_25 {x0 x1 x2 x3 : Option Value} {o : Nat} {i : Int32} : mw d 182 Q 25 [x0, x1, x2, x3] (.int i :: .ref o :: st) h = (mg h o 100 ∧ mx i (mh_l h o) ∧ mw d 182 Q 26 [x0, x1, x2, x3] (.int (mh_i h o i.toNatClampNeg) :: st) h) := (mw_at mj_182_25).trans (z_iald)
theorem mj_182_26 : mc_P 182 26 = some (.if_icmp .ge 38, 3, 0, 0, 0) := by decide +kernel
theorem s_182_26 {x0 x1 x2 x3 : Option Value} {x w : Int32} : mw d 182 Q 26 [x0, x1, x2, x3] (.int w :: .int x :: st) h = mB (w ≤ x) (mw d 182 Q) 64 29 [x0, x1, x2, x3] st h := (mw_at mj_182_26).trans (z_icmp_ge (by decide) rfl)
theorem mj_182_29 : mc_P 182 29 = some (.aload_n 0, 1, 0, 0, 0) := by decide +kernel
theorem s_182_29 {x1 x2 x3 : Option Value} {w : Value} : mw d 182 Q 29 [some w, x1, x2, x3] (st) h = mv_a w (mw d 182 Q 30 [some w, x1, x2, x3] (w :: st) h) := (mw_at mj_182_29).trans (z_aload_n rfl)
theorem mj_182_30 : mc_P 182 30 = some (.aload_n 0, 1, 0, 0, 0) := by decide +kernel
theorem s_182_30 {x1 x2 x3 : Option Value} {w : Value} : mw d 182 Q 30 [some w, x1, x2, x3] (st) h = mv_a w (mw d 182 Q 31 [some w, x1, x2, x3] (w :: st) h) := (mw_at mj_182_30).trans (z_aload_n rfl)
theorem mj_182_31 : mc_P 182 31 = some (.getfield 25, 3, 10, 2, 0) := by decide +kernel
theorem s_182_31 {x0 x1 x2 x3 : Option Value} {o : Nat} : mw d 182 Q 31 [x0, x1, x2, x3] (.ref o :: st) h = (mg h o 10 ∧ mw d 182 Q 34 [x0, x1, x2, x3] (va_rf (mh_r h o 2) :: st) h) := (mw_at mj_182_31).trans (z_getr (by decide) (by decide) rfl)
theorem mj_182_34 : mc_P 182 34 = some (.iload_n 1, 1, 0, 0, 0) := by decide +kernel
theorem s_182_34 {x0 x2 x3 : Option Value} {w : Value} : mw d 182 Q 34 [x0, some w, x2, x3] (st) h = mv_i w (mw d 182 Q 35 [x0, some w, x2, x3] (w :: st) h) := (mw_at mj_182_34).trans (z_iload_n rfl)
theorem mj_182_35 : mc_P 182 35 = some (.iaload, 1, 0, 0, 0) := by decide +kernel
theorem s_182_35 {x0 x1 x2 x3 : Option Value} {o : Nat} {i : Int32} : mw d 182 Q 35 [x0, x1, x2, x3] (.int i :: .ref o :: st) h = (mg h o 100 ∧ mx i (mh_l h o) ∧ mw d 182 Q 36 [x0, x1, x2, x3] (.int (mh_i h o i.toNatClampNeg) :: st) h) := (mw_at mj_182_35).trans (z_iald)
theorem mj_182_36 : mc_P 182 36 = some (.iload_n 3, 1, 0, 0, 0) := by decide +kernel
theorem s_182_36 {x0 x1 x2 : Option Value} {w : Value} : mw d 182 Q 36 [x0, x1, x2, some w] (st) h = mv_i w (mw d 182 Q 37 [x0, x1, x2, some w] (w :: st) h) := (mw_at mj_182_36).trans (z_iload_n rfl)
theorem mj_182_37 : mc_P 182 37 = some (.iadd, 1, 0, 0, 0) := by decide +kernel
theorem s_182_37 {x0 x1 x2 x3 : Option Value} {x w : Int32} : mw d 182 Q 37 [x0, x1, x2, x3] (.int w :: .int x :: st) h = mw d 182 Q 38 [x0, x1, x2, x3] (.int (x + w) :: st) h := (mw_at mj_182_37).trans (z_iadd)
theorem mj_182_38 : mc_P 182 38 = some (.invokevirtual 50, 3, 170, 10, 2) := by decide +kernel
theorem s_182_38 {x0 x1 x2 x3 : Option Value} {o : Nat} {a1 : Value} : mw (d + 1) 182 Q 38 [x0, x1, x2, x3] (a1 :: .ref o :: st) h = (mg h o 10 ∧ mca st 8 ∧ mca [.ref o, a1] 2 ∧ mcall d 170 [.ref o, a1] h (mK (d + 1) 182 Q 41 [x0, x1, x2, x3] st)) := (mw_at mj_182_38).trans ((z_invv (As := [a1]) (by decide) rfl rfl).trans (congrArg (And _) (congrArg (And _) (mC_nl nl_170))))
theorem mj_182_41 : mc_P 182 41 = some (.aload_n 0, 1, 0, 0, 0) := by decide +kernel
theorem s_182_41 {x1 x2 x3 : Option Value} {w : Value} : mw d 182 Q 41 [some w, x1, x2, x3] (st) h = mv_a w (mw d 182 Q 42 [some w, x1, x2, x3] (w :: st) h) := (mw_at mj_182_41).trans (z_aload_n rfl)
theorem mj_182_42 : mc_P 182 42 = some (.aload_n 0, 1, 0, 0, 0) := by decide +kernel
theorem s_182_42 {x1 x2 x3 : Option Value} {w : Value} : mw d 182 Q 42 [some w, x1, x2, x3] (st) h = mv_a w (mw d 182 Q 43 [some w, x1, x2, x3] (w :: st) h) := (mw_at mj_182_42).trans (z_aload_n rfl)
theorem mj_182_43 : mc_P 182 43 = some (.getfield 25, 3, 10, 2, 0) := by decide +kernel
theorem s_182_43 {x0 x1 x2 x3 : Option Value} {o : Nat} : mw d 182 Q 43 [x0, x1, x2, x3] (.ref o :: st) h = (mg h o 10 ∧ mw d 182 Q 46 [x0, x1, x2, x3] (va_rf (mh_r h o 2) :: st) h) := (mw_at mj_182_43).trans (z_getr (by decide) (by decide) rfl)
theorem mj_182_46 : mc_P 182 46 = some (.iload_n 2, 1, 0, 0, 0) := by decide +kernel
theorem s_182_46 {x0 x1 x3 : Option Value} {w : Value} : mw d 182 Q 46 [x0, x1, some w, x3] (st) h = mv_i w (mw d 182 Q 47 [x0, x1, some w, x3] (w :: st) h) := (mw_at mj_182_46).trans (z_iload_n rfl)
theorem mj_182_47 : mc_P 182 47 = some (.iaload, 1, 0, 0, 0) := by decide +kernel
theorem s_182_47 {x0 x1 x2 x3 : Option Value} {o : Nat} {i : Int32} : mw d 182 Q 47 [x0, x1, x2, x3] (.int i :: .ref o :: st) h = (mg h o 100 ∧ mx i (mh_l h o) ∧ mw d 182 Q 48 [x0, x1, x2, x3] (.int (mh_i h o i.toNatClampNeg) :: st) h) := (mw_at mj_182_47).trans (z_iald)
theorem mj_182_48 : mc_P 182 48 = some (.iload_n 3, 1, 0, 0, 0) := by decide +kernel
theorem s_182_48 {x0 x1 x2 : Option Value} {w : Value} : mw d 182 Q 48 [x0, x1, x2, some w] (st) h = mv_i w (mw d 182 Q 49 [x0, x1, x2, some w] (w :: st) h) := (mw_at mj_182_48).trans (z_iload_n rfl)
theorem mj_182_49 : mc_P 182 49 = some (.iadd, 1, 0, 0, 0) := by decide +kernel
theorem s_182_49 {x0 x1 x2 x3 : Option Value} {x w : Int32} : mw d 182 Q 49 [x0, x1, x2, x3] (.int w :: .int x :: st) h = mw d 182 Q 50 [x0, x1, x2, x3] (.int (x + w) :: st) h := (mw_at mj_182_49).trans (z_iadd)
theorem mj_182_50 : mc_P 182 50 = some (.invokevirtual 50, 3, 170, 10, 2) := by decide +kernel
theorem s_182_50 {x0 x1 x2 x3 : Option Value} {o : Nat} {a1 : Value} : mw (d + 1) 182 Q 50 [x0, x1, x2, x3] (a1 :: .ref o :: st) h = (mg h o 10 ∧ mca st 8 ∧ mca [.ref o, a1] 2 ∧ mcall d 170 [.ref o, a1] h (mK (d + 1) 182 Q 53 [x0, x1, x2, x3] st)) := (mw_at mj_182_50).trans ((z_invv (As := [a1]) (by decide) rfl rfl).trans (congrArg (And _) (congrArg (And _) (mC_nl nl_170))))
theorem mj_182_53 : mc_P 182 53 = some (.if_icmp .eq 5, 3, 0, 0, 0) := by decide +kernel
theorem s_182_53 {x0 x1 x2 x3 : Option Value} {x w : Int32} : mw d 182 Q 53 [x0, x1, x2, x3] (.int w :: .int x :: st) h = mB (x = w) (mw d 182 Q) 58 56 [x0, x1, x2, x3] st h := (mw_at mj_182_53).trans (z_icmp_eq (by decide) rfl)
theorem mj_182_56 : mc_P 182 56 = some (.iconst 0, 1, 0, 0, 0) := by decide +kernel
theorem s_182_56 {x0 x1 x2 x3 : Option Value} : mw d 182 Q 56 [x0, x1, x2, x3] (st) h = mw d 182 Q 57 [x0, x1, x2, x3] (.int 0 :: st) h := (mw_at mj_182_56).trans (z_iconst (by decide))
theorem mj_182_57 : mc_P 182 57 = some (.ireturn, 1, 0, 3, 0) := by decide +kernel
theorem s_182_57 {x0 x1 x2 x3 : Option Value} {x : Int32} : mw d 182 Q 57 [x0, x1, x2, x3] ([.int x]) h = ((x = 0 ∨ x = 1) ∧ Q (some (.int x)) h) := (mw_at mj_182_57).trans (z_zret)
theorem mj_182_58 : mc_P 182 58 = some (.iinc 3 1, 3, 0, 0, 0) := by decide +kernel
theorem s_182_58 {x0 x1 x2 : Option Value} {w : Int32} : mw d 182 Q 58 [x0, x1, x2, some (.int w)] (st) h = mw d 182 Q 61 [x0, x1, mk2 x2, some (.int (w + 1))] (st) h := (mw_at mj_182_58).trans (z_iinc rfl (Nat.le_of_ble_eq_true rfl) (by decide) (me_s1_mk (j := 2) (w := x2) rfl))
theorem mj_182_61 : mc_P 182 61 = some (.goto (-42), 3, 0, 0, 0) := by decide +kernel
theorem s_182_61 {x0 x1 x2 x3 : Option Value} : mw d 182 Q 61 [x0, x1, x2, x3] (st) h = mw d 182 Q 19 [x0, x1, x2, x3] (st) h := (mw_at mj_182_61).trans (z_goto (by decide))
theorem mj_182_64 : mc_P 182 64 = some (.iconst 1, 1, 0, 0, 0) := by decide +kernel
theorem s_182_64 {x0 x1 x2 x3 : Option Value} : mw d 182 Q 64 [x0, x1, x2, x3] (st) h = mw d 182 Q 65 [x0, x1, x2, x3] (.int 1 :: st) h := (mw_at mj_182_64).trans (z_iconst (by decide))
theorem mj_182_65 : mc_P 182 65 = some (.ireturn, 1, 0, 3, 0) := by decide +kernel
theorem s_182_65 {x0 x1 x2 x3 : Option Value} {x : Int32} : mw d 182 Q 65 [x0, x1, x2, x3] ([.int x]) h = ((x = 0 ∨ x = 1) ∧ Q (some (.int x)) h) := (mw_at mj_182_65).trans (z_zret)
theorem e_182 {a0 : Nat} {a1 : Int32} {a2 : Int32} : mcall d 182 [.ref a0, .int a1, .int a2] h Q = mw d 182 Q 0 [some (.ref a0), some (.int a1), some (.int a2), none] [] h := by
  show mw d 182 Q 0 (me_en (mc_nl 182) _) [] h = _
  rw [nl_182]; rfl

/-! InvariantDeskModel.isAt(III)Z -/
theorem mj_302_0 : mc_P 302 0 = some (.iload_n 1, 1, 0, 0, 0) := by decide +kernel
theorem s_302_0 {x0 x2 x3 : Option Value} {w : Value} : mw d 302 Q 0 [x0, some w, x2, x3] (st) h = mv_i w (mw d 302 Q 1 [x0, some w, x2, x3] (w :: st) h) := (mw_at mj_302_0).trans (z_iload_n rfl)
theorem mj_302_1 : mc_P 302 1 = some (.iconst 1, 1, 0, 0, 0) := by decide +kernel
theorem s_302_1 {x0 x1 x2 x3 : Option Value} : mw d 302 Q 1 [x0, x1, x2, x3] (st) h = mw d 302 Q 2 [x0, x1, x2, x3] (.int 1 :: st) h := (mw_at mj_302_1).trans (z_iconst (by decide))
theorem mj_302_2 : mc_P 302 2 = some (.iadd, 1, 0, 0, 0) := by decide +kernel
theorem s_302_2 {x0 x1 x2 x3 : Option Value} {x w : Int32} : mw d 302 Q 2 [x0, x1, x2, x3] (.int w :: .int x :: st) h = mw d 302 Q 3 [x0, x1, x2, x3] (.int (x + w) :: st) h := (mw_at mj_302_2).trans (z_iadd)
theorem mj_302_3 : mc_P 302 3 = some (.aload_n 0, 1, 0, 0, 0) := by decide +kernel
theorem s_302_3 {x1 x2 x3 : Option Value} {w : Value} : mw d 302 Q 3 [some w, x1, x2, x3] (st) h = mv_a w (mw d 302 Q 4 [some w, x1, x2, x3] (w :: st) h) := (mw_at mj_302_3).trans (z_aload_n rfl)
theorem mj_302_4 : mc_P 302 4 = some (.getfield 197, 3, 14, 3, 0) := by decide +kernel
theorem s_302_4 {x0 x1 x2 x3 : Option Value} {o : Nat} : mw d 302 Q 4 [x0, x1, x2, x3] (.ref o :: st) h = (mg h o 14 ∧ mw d 302 Q 7 [x0, x1, x2, x3] (.int (mh_i h o 3) :: st) h) := (mw_at mj_302_4).trans (z_geti (by decide) (by decide) (Or.inl rfl))
theorem mj_302_7 : mc_P 302 7 = some (.if_icmp .ge 29, 3, 0, 0, 0) := by decide +kernel
theorem s_302_7 {x0 x1 x2 x3 : Option Value} {x w : Int32} : mw d 302 Q 7 [x0, x1, x2, x3] (.int w :: .int x :: st) h = mB (w ≤ x) (mw d 302 Q) 36 10 [x0, x1, x2, x3] st h := (mw_at mj_302_7).trans (z_icmp_ge (by decide) rfl)
theorem mj_302_10 : mc_P 302 10 = some (.aload_n 0, 1, 0, 0, 0) := by decide +kernel
theorem s_302_10 {x1 x2 x3 : Option Value} {w : Value} : mw d 302 Q 10 [some w, x1, x2, x3] (st) h = mv_a w (mw d 302 Q 11 [some w, x1, x2, x3] (w :: st) h) := (mw_at mj_302_10).trans (z_aload_n rfl)
theorem mj_302_11 : mc_P 302 11 = some (.getfield 9, 3, 14, 1, 0) := by decide +kernel
theorem s_302_11 {x0 x1 x2 x3 : Option Value} {o : Nat} : mw d 302 Q 11 [x0, x1, x2, x3] (.ref o :: st) h = (mg h o 14 ∧ mw d 302 Q 14 [x0, x1, x2, x3] (va_rf (mh_r h o 1) :: st) h) := (mw_at mj_302_11).trans (z_getr (by decide) (by decide) rfl)
theorem mj_302_14 : mc_P 302 14 = some (.iload_n 1, 1, 0, 0, 0) := by decide +kernel
theorem s_302_14 {x0 x2 x3 : Option Value} {w : Value} : mw d 302 Q 14 [x0, some w, x2, x3] (st) h = mv_i w (mw d 302 Q 15 [x0, some w, x2, x3] (w :: st) h) := (mw_at mj_302_14).trans (z_iload_n rfl)
theorem mj_302_15 : mc_P 302 15 = some (.iaload, 1, 0, 0, 0) := by decide +kernel
theorem s_302_15 {x0 x1 x2 x3 : Option Value} {o : Nat} {i : Int32} : mw d 302 Q 15 [x0, x1, x2, x3] (.int i :: .ref o :: st) h = (mg h o 100 ∧ mx i (mh_l h o) ∧ mw d 302 Q 16 [x0, x1, x2, x3] (.int (mh_i h o i.toNatClampNeg) :: st) h) := (mw_at mj_302_15).trans (z_iald)
theorem mj_302_16 : mc_P 302 16 = some (.iload_n 2, 1, 0, 0, 0) := by decide +kernel
theorem s_302_16 {x0 x1 x3 : Option Value} {w : Value} : mw d 302 Q 16 [x0, x1, some w, x3] (st) h = mv_i w (mw d 302 Q 17 [x0, x1, some w, x3] (w :: st) h) := (mw_at mj_302_16).trans (z_iload_n rfl)
theorem mj_302_17 : mc_P 302 17 = some (.if_icmp .ne 19, 3, 0, 0, 0) := by decide +kernel
theorem s_302_17 {x0 x1 x2 x3 : Option Value} {x w : Int32} : mw d 302 Q 17 [x0, x1, x2, x3] (.int w :: .int x :: st) h = mB (¬ x = w) (mw d 302 Q) 36 20 [x0, x1, x2, x3] st h := (mw_at mj_302_17).trans (z_icmp_ne (by decide) rfl)
theorem mj_302_20 : mc_P 302 20 = some (.aload_n 0, 1, 0, 0, 0) := by decide +kernel
theorem s_302_20 {x1 x2 x3 : Option Value} {w : Value} : mw d 302 Q 20 [some w, x1, x2, x3] (st) h = mv_a w (mw d 302 Q 21 [some w, x1, x2, x3] (w :: st) h) := (mw_at mj_302_20).trans (z_aload_n rfl)
theorem mj_302_21 : mc_P 302 21 = some (.getfield 9, 3, 14, 1, 0) := by decide +kernel
theorem s_302_21 {x0 x1 x2 x3 : Option Value} {o : Nat} : mw d 302 Q 21 [x0, x1, x2, x3] (.ref o :: st) h = (mg h o 14 ∧ mw d 302 Q 24 [x0, x1, x2, x3] (va_rf (mh_r h o 1) :: st) h) := (mw_at mj_302_21).trans (z_getr (by decide) (by decide) rfl)
theorem mj_302_24 : mc_P 302 24 = some (.iload_n 1, 1, 0, 0, 0) := by decide +kernel
theorem s_302_24 {x0 x2 x3 : Option Value} {w : Value} : mw d 302 Q 24 [x0, some w, x2, x3] (st) h = mv_i w (mw d 302 Q 25 [x0, some w, x2, x3] (w :: st) h) := (mw_at mj_302_24).trans (z_iload_n rfl)
theorem mj_302_25 : mc_P 302 25 = some (.iconst 1, 1, 0, 0, 0) := by decide +kernel
theorem s_302_25 {x0 x1 x2 x3 : Option Value} : mw d 302 Q 25 [x0, x1, x2, x3] (st) h = mw d 302 Q 26 [x0, x1, x2, x3] (.int 1 :: st) h := (mw_at mj_302_25).trans (z_iconst (by decide))
theorem mj_302_26 : mc_P 302 26 = some (.iadd, 1, 0, 0, 0) := by decide +kernel
theorem s_302_26 {x0 x1 x2 x3 : Option Value} {x w : Int32} : mw d 302 Q 26 [x0, x1, x2, x3] (.int w :: .int x :: st) h = mw d 302 Q 27 [x0, x1, x2, x3] (.int (x + w) :: st) h := (mw_at mj_302_26).trans (z_iadd)
theorem mj_302_27 : mc_P 302 27 = some (.iaload, 1, 0, 0, 0) := by decide +kernel
theorem s_302_27 {x0 x1 x2 x3 : Option Value} {o : Nat} {i : Int32} : mw d 302 Q 27 [x0, x1, x2, x3] (.int i :: .ref o :: st) h = (mg h o 100 ∧ mx i (mh_l h o) ∧ mw d 302 Q 28 [x0, x1, x2, x3] (.int (mh_i h o i.toNatClampNeg) :: st) h) := (mw_at mj_302_27).trans (z_iald)
theorem mj_302_28 : mc_P 302 28 = some (.iload_n 3, 1, 0, 0, 0) := by decide +kernel
theorem s_302_28 {x0 x1 x2 : Option Value} {w : Value} : mw d 302 Q 28 [x0, x1, x2, some w] (st) h = mv_i w (mw d 302 Q 29 [x0, x1, x2, some w] (w :: st) h) := (mw_at mj_302_28).trans (z_iload_n rfl)
theorem mj_302_29 : mc_P 302 29 = some (.if_icmp .ne 7, 3, 0, 0, 0) := by decide +kernel
theorem s_302_29 {x0 x1 x2 x3 : Option Value} {x w : Int32} : mw d 302 Q 29 [x0, x1, x2, x3] (.int w :: .int x :: st) h = mB (¬ x = w) (mw d 302 Q) 36 32 [x0, x1, x2, x3] st h := (mw_at mj_302_29).trans (z_icmp_ne (by decide) rfl)
theorem mj_302_32 : mc_P 302 32 = some (.iconst 1, 1, 0, 0, 0) := by decide +kernel
theorem s_302_32 {x0 x1 x2 x3 : Option Value} : mw d 302 Q 32 [x0, x1, x2, x3] (st) h = mw d 302 Q 33 [x0, x1, x2, x3] (.int 1 :: st) h := (mw_at mj_302_32).trans (z_iconst (by decide))
theorem mj_302_33 : mc_P 302 33 = some (.goto 4, 3, 0, 0, 0) := by decide +kernel
theorem s_302_33 {x0 x1 x2 x3 : Option Value} : mw d 302 Q 33 [x0, x1, x2, x3] (st) h = mw d 302 Q 37 [x0, x1, x2, x3] (st) h := (mw_at mj_302_33).trans (z_goto (by decide))
theorem mj_302_36 : mc_P 302 36 = some (.iconst 0, 1, 0, 0, 0) := by decide +kernel
theorem s_302_36 {x0 x1 x2 x3 : Option Value} : mw d 302 Q 36 [x0, x1, x2, x3] (st) h = mw d 302 Q 37 [x0, x1, x2, x3] (.int 0 :: st) h := (mw_at mj_302_36).trans (z_iconst (by decide))
theorem mj_302_37 : mc_P 302 37 = some (.ireturn, 1, 0, 3, 0) := by decide +kernel
theorem s_302_37 {x0 x1 x2 x3 : Option Value} {x : Int32} : mw d 302 Q 37 [x0, x1, x2, x3] ([.int x]) h = ((x = 0 ∨ x = 1) ∧ Q (some (.int x)) h) := (mw_at mj_302_37).trans (z_zret)
theorem e_302 {a0 : Nat} {a1 : Int32} {a2 : Int32} {a3 : Int32} : mcall d 302 [.ref a0, .int a1, .int a2, .int a3] h Q = mw d 302 Q 0 [some (.ref a0), some (.int a1), some (.int a2), some (.int a3)] [] h := by
  show mw d 302 Q 0 (me_en (mc_nl 302) _) [] h = _
  rw [nl_302]; rfl

/-! InvariantDeskModel.isLetter(I)Z -/
theorem mj_303_0 : mc_P 303 0 = some (.iload_n 0, 1, 0, 0, 0) := by decide +kernel
theorem s_303_0 {w : Value} : mw d 303 Q 0 [some w] (st) h = mv_i w (mw d 303 Q 1 [some w] (w :: st) h) := (mw_at mj_303_0).trans (z_iload_n rfl)
theorem mj_303_1 : mc_P 303 1 = some (.bipush 97, 2, 0, 0, 0) := by decide +kernel
theorem s_303_1 {x0 : Option Value} : mw d 303 Q 1 [x0] (st) h = mw d 303 Q 3 [x0] (.int 97 :: st) h := (mw_at mj_303_1).trans (z_bipush (by decide))
theorem mj_303_3 : mc_P 303 3 = some (.if_icmp .lt 9, 3, 0, 0, 0) := by decide +kernel
theorem s_303_3 {x0 : Option Value} {x w : Int32} : mw d 303 Q 3 [x0] (.int w :: .int x :: st) h = mB (x < w) (mw d 303 Q) 12 6 [x0] st h := (mw_at mj_303_3).trans (z_icmp_lt (by decide) rfl)
theorem mj_303_6 : mc_P 303 6 = some (.iload_n 0, 1, 0, 0, 0) := by decide +kernel
theorem s_303_6 {w : Value} : mw d 303 Q 6 [some w] (st) h = mv_i w (mw d 303 Q 7 [some w] (w :: st) h) := (mw_at mj_303_6).trans (z_iload_n rfl)
theorem mj_303_7 : mc_P 303 7 = some (.bipush 122, 2, 0, 0, 0) := by decide +kernel
theorem s_303_7 {x0 : Option Value} : mw d 303 Q 7 [x0] (st) h = mw d 303 Q 9 [x0] (.int 122 :: st) h := (mw_at mj_303_7).trans (z_bipush (by decide))
theorem mj_303_9 : mc_P 303 9 = some (.if_icmp .le 21, 3, 0, 0, 0) := by decide +kernel
theorem s_303_9 {x0 : Option Value} {x w : Int32} : mw d 303 Q 9 [x0] (.int w :: .int x :: st) h = mB (x ≤ w) (mw d 303 Q) 30 12 [x0] st h := (mw_at mj_303_9).trans (z_icmp_le (by decide) rfl)
theorem mj_303_12 : mc_P 303 12 = some (.iload_n 0, 1, 0, 0, 0) := by decide +kernel
theorem s_303_12 {w : Value} : mw d 303 Q 12 [some w] (st) h = mv_i w (mw d 303 Q 13 [some w] (w :: st) h) := (mw_at mj_303_12).trans (z_iload_n rfl)
theorem mj_303_13 : mc_P 303 13 = some (.bipush 65, 2, 0, 0, 0) := by decide +kernel
theorem s_303_13 {x0 : Option Value} : mw d 303 Q 13 [x0] (st) h = mw d 303 Q 15 [x0] (.int 65 :: st) h := (mw_at mj_303_13).trans (z_bipush (by decide))
theorem mj_303_15 : mc_P 303 15 = some (.if_icmp .lt 9, 3, 0, 0, 0) := by decide +kernel
theorem s_303_15 {x0 : Option Value} {x w : Int32} : mw d 303 Q 15 [x0] (.int w :: .int x :: st) h = mB (x < w) (mw d 303 Q) 24 18 [x0] st h := (mw_at mj_303_15).trans (z_icmp_lt (by decide) rfl)
theorem mj_303_18 : mc_P 303 18 = some (.iload_n 0, 1, 0, 0, 0) := by decide +kernel
theorem s_303_18 {w : Value} : mw d 303 Q 18 [some w] (st) h = mv_i w (mw d 303 Q 19 [some w] (w :: st) h) := (mw_at mj_303_18).trans (z_iload_n rfl)
theorem mj_303_19 : mc_P 303 19 = some (.bipush 90, 2, 0, 0, 0) := by decide +kernel
theorem s_303_19 {x0 : Option Value} : mw d 303 Q 19 [x0] (st) h = mw d 303 Q 21 [x0] (.int 90 :: st) h := (mw_at mj_303_19).trans (z_bipush (by decide))
theorem mj_303_21 : mc_P 303 21 = some (.if_icmp .le 9, 3, 0, 0, 0) := by decide +kernel
theorem s_303_21 {x0 : Option Value} {x w : Int32} : mw d 303 Q 21 [x0] (.int w :: .int x :: st) h = mB (x ≤ w) (mw d 303 Q) 30 24 [x0] st h := (mw_at mj_303_21).trans (z_icmp_le (by decide) rfl)
theorem mj_303_24 : mc_P 303 24 = some (.iload_n 0, 1, 0, 0, 0) := by decide +kernel
theorem s_303_24 {w : Value} : mw d 303 Q 24 [some w] (st) h = mv_i w (mw d 303 Q 25 [some w] (w :: st) h) := (mw_at mj_303_24).trans (z_iload_n rfl)
theorem mj_303_25 : mc_P 303 25 = some (.bipush 95, 2, 0, 0, 0) := by decide +kernel
theorem s_303_25 {x0 : Option Value} : mw d 303 Q 25 [x0] (st) h = mw d 303 Q 27 [x0] (.int 95 :: st) h := (mw_at mj_303_25).trans (z_bipush (by decide))
theorem mj_303_27 : mc_P 303 27 = some (.if_icmp .ne 7, 3, 0, 0, 0) := by decide +kernel
theorem s_303_27 {x0 : Option Value} {x w : Int32} : mw d 303 Q 27 [x0] (.int w :: .int x :: st) h = mB (¬ x = w) (mw d 303 Q) 34 30 [x0] st h := (mw_at mj_303_27).trans (z_icmp_ne (by decide) rfl)
theorem mj_303_30 : mc_P 303 30 = some (.iconst 1, 1, 0, 0, 0) := by decide +kernel
theorem s_303_30 {x0 : Option Value} : mw d 303 Q 30 [x0] (st) h = mw d 303 Q 31 [x0] (.int 1 :: st) h := (mw_at mj_303_30).trans (z_iconst (by decide))
theorem mj_303_31 : mc_P 303 31 = some (.goto 4, 3, 0, 0, 0) := by decide +kernel
theorem s_303_31 {x0 : Option Value} : mw d 303 Q 31 [x0] (st) h = mw d 303 Q 35 [x0] (st) h := (mw_at mj_303_31).trans (z_goto (by decide))
theorem mj_303_34 : mc_P 303 34 = some (.iconst 0, 1, 0, 0, 0) := by decide +kernel
theorem s_303_34 {x0 : Option Value} : mw d 303 Q 34 [x0] (st) h = mw d 303 Q 35 [x0] (.int 0 :: st) h := (mw_at mj_303_34).trans (z_iconst (by decide))
theorem mj_303_35 : mc_P 303 35 = some (.ireturn, 1, 0, 3, 0) := by decide +kernel
theorem s_303_35 {x0 : Option Value} {x : Int32} : mw d 303 Q 35 [x0] ([.int x]) h = ((x = 0 ∨ x = 1) ∧ Q (some (.int x)) h) := (mw_at mj_303_35).trans (z_zret)
theorem e_303 {a0 : Int32} : mcall d 303 [.int a0] h Q = mw d 303 Q 0 [some (.int a0)] [] h := by
  show mw d 303 Q 0 (me_en (mc_nl 303) _) [] h = _
  rw [nl_303]; rfl

/-! InvariantDeskModel.isDigit(I)Z -/
theorem mj_304_0 : mc_P 304 0 = some (.iload_n 0, 1, 0, 0, 0) := by decide +kernel
theorem s_304_0 {w : Value} : mw d 304 Q 0 [some w] (st) h = mv_i w (mw d 304 Q 1 [some w] (w :: st) h) := (mw_at mj_304_0).trans (z_iload_n rfl)
theorem mj_304_1 : mc_P 304 1 = some (.bipush 48, 2, 0, 0, 0) := by decide +kernel
theorem s_304_1 {x0 : Option Value} : mw d 304 Q 1 [x0] (st) h = mw d 304 Q 3 [x0] (.int 48 :: st) h := (mw_at mj_304_1).trans (z_bipush (by decide))
theorem mj_304_3 : mc_P 304 3 = some (.if_icmp .lt 13, 3, 0, 0, 0) := by decide +kernel
theorem s_304_3 {x0 : Option Value} {x w : Int32} : mw d 304 Q 3 [x0] (.int w :: .int x :: st) h = mB (x < w) (mw d 304 Q) 16 6 [x0] st h := (mw_at mj_304_3).trans (z_icmp_lt (by decide) rfl)
theorem mj_304_6 : mc_P 304 6 = some (.iload_n 0, 1, 0, 0, 0) := by decide +kernel
theorem s_304_6 {w : Value} : mw d 304 Q 6 [some w] (st) h = mv_i w (mw d 304 Q 7 [some w] (w :: st) h) := (mw_at mj_304_6).trans (z_iload_n rfl)
theorem mj_304_7 : mc_P 304 7 = some (.bipush 57, 2, 0, 0, 0) := by decide +kernel
theorem s_304_7 {x0 : Option Value} : mw d 304 Q 7 [x0] (st) h = mw d 304 Q 9 [x0] (.int 57 :: st) h := (mw_at mj_304_7).trans (z_bipush (by decide))
theorem mj_304_9 : mc_P 304 9 = some (.if_icmp .gt 7, 3, 0, 0, 0) := by decide +kernel
theorem s_304_9 {x0 : Option Value} {x w : Int32} : mw d 304 Q 9 [x0] (.int w :: .int x :: st) h = mB (w < x) (mw d 304 Q) 16 12 [x0] st h := (mw_at mj_304_9).trans (z_icmp_gt (by decide) rfl)
theorem mj_304_12 : mc_P 304 12 = some (.iconst 1, 1, 0, 0, 0) := by decide +kernel
theorem s_304_12 {x0 : Option Value} : mw d 304 Q 12 [x0] (st) h = mw d 304 Q 13 [x0] (.int 1 :: st) h := (mw_at mj_304_12).trans (z_iconst (by decide))
theorem mj_304_13 : mc_P 304 13 = some (.goto 4, 3, 0, 0, 0) := by decide +kernel
theorem s_304_13 {x0 : Option Value} : mw d 304 Q 13 [x0] (st) h = mw d 304 Q 17 [x0] (st) h := (mw_at mj_304_13).trans (z_goto (by decide))
theorem mj_304_16 : mc_P 304 16 = some (.iconst 0, 1, 0, 0, 0) := by decide +kernel
theorem s_304_16 {x0 : Option Value} : mw d 304 Q 16 [x0] (st) h = mw d 304 Q 17 [x0] (.int 0 :: st) h := (mw_at mj_304_16).trans (z_iconst (by decide))
theorem mj_304_17 : mc_P 304 17 = some (.ireturn, 1, 0, 3, 0) := by decide +kernel
theorem s_304_17 {x0 : Option Value} {x : Int32} : mw d 304 Q 17 [x0] ([.int x]) h = ((x = 0 ∨ x = 1) ∧ Q (some (.int x)) h) := (mw_at mj_304_17).trans (z_zret)
theorem e_304 {a0 : Int32} : mcall d 304 [.int a0] h Q = mw d 304 Q 0 [some (.int a0)] [] h := by
  show mw d 304 Q 0 (me_en (mc_nl 304) _) [] h = _
  rw [nl_304]; rfl

/-! InvariantDeskModel.isWord(I)Z -/
theorem mj_305_0 : mc_P 305 0 = some (.iload_n 1, 1, 0, 0, 0) := by decide +kernel
theorem s_305_0 {x0 : Option Value} {w : Value} : mw d 305 Q 0 [x0, some w] (st) h = mv_i w (mw d 305 Q 1 [x0, some w] (w :: st) h) := (mw_at mj_305_0).trans (z_iload_n rfl)
theorem mj_305_1 : mc_P 305 1 = some (.aload_n 0, 1, 0, 0, 0) := by decide +kernel
theorem s_305_1 {x1 : Option Value} {w : Value} : mw d 305 Q 1 [some w, x1] (st) h = mv_a w (mw d 305 Q 2 [some w, x1] (w :: st) h) := (mw_at mj_305_1).trans (z_aload_n rfl)
theorem mj_305_2 : mc_P 305 2 = some (.getfield 197, 3, 14, 3, 0) := by decide +kernel
theorem s_305_2 {x0 x1 : Option Value} {o : Nat} : mw d 305 Q 2 [x0, x1] (.ref o :: st) h = (mg h o 14 ∧ mw d 305 Q 5 [x0, x1] (.int (mh_i h o 3) :: st) h) := (mw_at mj_305_2).trans (z_geti (by decide) (by decide) (Or.inl rfl))
theorem mj_305_5 : mc_P 305 5 = some (.if_icmp .ge 31, 3, 0, 0, 0) := by decide +kernel
theorem s_305_5 {x0 x1 : Option Value} {x w : Int32} : mw d 305 Q 5 [x0, x1] (.int w :: .int x :: st) h = mB (w ≤ x) (mw d 305 Q) 36 8 [x0, x1] st h := (mw_at mj_305_5).trans (z_icmp_ge (by decide) rfl)
theorem mj_305_8 : mc_P 305 8 = some (.aload_n 0, 1, 0, 0, 0) := by decide +kernel
theorem s_305_8 {x1 : Option Value} {w : Value} : mw d 305 Q 8 [some w, x1] (st) h = mv_a w (mw d 305 Q 9 [some w, x1] (w :: st) h) := (mw_at mj_305_8).trans (z_aload_n rfl)
theorem mj_305_9 : mc_P 305 9 = some (.getfield 9, 3, 14, 1, 0) := by decide +kernel
theorem s_305_9 {x0 x1 : Option Value} {o : Nat} : mw d 305 Q 9 [x0, x1] (.ref o :: st) h = (mg h o 14 ∧ mw d 305 Q 12 [x0, x1] (va_rf (mh_r h o 1) :: st) h) := (mw_at mj_305_9).trans (z_getr (by decide) (by decide) rfl)
theorem mj_305_12 : mc_P 305 12 = some (.iload_n 1, 1, 0, 0, 0) := by decide +kernel
theorem s_305_12 {x0 : Option Value} {w : Value} : mw d 305 Q 12 [x0, some w] (st) h = mv_i w (mw d 305 Q 13 [x0, some w] (w :: st) h) := (mw_at mj_305_12).trans (z_iload_n rfl)
theorem mj_305_13 : mc_P 305 13 = some (.iaload, 1, 0, 0, 0) := by decide +kernel
theorem s_305_13 {x0 x1 : Option Value} {o : Nat} {i : Int32} : mw d 305 Q 13 [x0, x1] (.int i :: .ref o :: st) h = (mg h o 100 ∧ mx i (mh_l h o) ∧ mw d 305 Q 14 [x0, x1] (.int (mh_i h o i.toNatClampNeg) :: st) h) := (mw_at mj_305_13).trans (z_iald)
theorem mj_305_14 : mc_P 305 14 = some (.invokestatic 200, 3, 303, 0, 1) := by decide +kernel
theorem s_305_14 {x0 x1 : Option Value} {a0 : Value} : mw (d + 1) 305 Q 14 [x0, x1] (a0 :: st) h = (mca st 8 ∧ mca [a0] 1 ∧ mcall d 303 [a0] h (mK (d + 1) 305 Q 17 [x0, x1] st)) := (mw_at mj_305_14).trans ((z_invs (As := [a0]) rfl rfl).trans (congrArg (And _) (mC_nl nl_303)))
theorem mj_305_17 : mc_P 305 17 = some (.ifCond .ne 15, 3, 0, 0, 0) := by decide +kernel
theorem s_305_17 {x0 x1 : Option Value} {x : Int32} : mw d 305 Q 17 [x0, x1] (.int x :: st) h = mB (¬ x = 0) (mw d 305 Q) 32 20 [x0, x1] st h := (mw_at mj_305_17).trans (z_if_ne (by decide) rfl)
theorem mj_305_20 : mc_P 305 20 = some (.aload_n 0, 1, 0, 0, 0) := by decide +kernel
theorem s_305_20 {x1 : Option Value} {w : Value} : mw d 305 Q 20 [some w, x1] (st) h = mv_a w (mw d 305 Q 21 [some w, x1] (w :: st) h) := (mw_at mj_305_20).trans (z_aload_n rfl)
theorem mj_305_21 : mc_P 305 21 = some (.getfield 9, 3, 14, 1, 0) := by decide +kernel
theorem s_305_21 {x0 x1 : Option Value} {o : Nat} : mw d 305 Q 21 [x0, x1] (.ref o :: st) h = (mg h o 14 ∧ mw d 305 Q 24 [x0, x1] (va_rf (mh_r h o 1) :: st) h) := (mw_at mj_305_21).trans (z_getr (by decide) (by decide) rfl)
theorem mj_305_24 : mc_P 305 24 = some (.iload_n 1, 1, 0, 0, 0) := by decide +kernel
theorem s_305_24 {x0 : Option Value} {w : Value} : mw d 305 Q 24 [x0, some w] (st) h = mv_i w (mw d 305 Q 25 [x0, some w] (w :: st) h) := (mw_at mj_305_24).trans (z_iload_n rfl)
theorem mj_305_25 : mc_P 305 25 = some (.iaload, 1, 0, 0, 0) := by decide +kernel
theorem s_305_25 {x0 x1 : Option Value} {o : Nat} {i : Int32} : mw d 305 Q 25 [x0, x1] (.int i :: .ref o :: st) h = (mg h o 100 ∧ mx i (mh_l h o) ∧ mw d 305 Q 26 [x0, x1] (.int (mh_i h o i.toNatClampNeg) :: st) h) := (mw_at mj_305_25).trans (z_iald)
theorem mj_305_26 : mc_P 305 26 = some (.invokestatic 204, 3, 304, 0, 1) := by decide +kernel
theorem s_305_26 {x0 x1 : Option Value} {a0 : Value} : mw (d + 1) 305 Q 26 [x0, x1] (a0 :: st) h = (mca st 8 ∧ mca [a0] 1 ∧ mcall d 304 [a0] h (mK (d + 1) 305 Q 29 [x0, x1] st)) := (mw_at mj_305_26).trans ((z_invs (As := [a0]) rfl rfl).trans (congrArg (And _) (mC_nl nl_304)))
theorem mj_305_29 : mc_P 305 29 = some (.ifCond .eq 7, 3, 0, 0, 0) := by decide +kernel
theorem s_305_29 {x0 x1 : Option Value} {x : Int32} : mw d 305 Q 29 [x0, x1] (.int x :: st) h = mB (x = 0) (mw d 305 Q) 36 32 [x0, x1] st h := (mw_at mj_305_29).trans (z_if_eq (by decide) rfl)
theorem mj_305_32 : mc_P 305 32 = some (.iconst 1, 1, 0, 0, 0) := by decide +kernel
theorem s_305_32 {x0 x1 : Option Value} : mw d 305 Q 32 [x0, x1] (st) h = mw d 305 Q 33 [x0, x1] (.int 1 :: st) h := (mw_at mj_305_32).trans (z_iconst (by decide))
theorem mj_305_33 : mc_P 305 33 = some (.goto 4, 3, 0, 0, 0) := by decide +kernel
theorem s_305_33 {x0 x1 : Option Value} : mw d 305 Q 33 [x0, x1] (st) h = mw d 305 Q 37 [x0, x1] (st) h := (mw_at mj_305_33).trans (z_goto (by decide))
theorem mj_305_36 : mc_P 305 36 = some (.iconst 0, 1, 0, 0, 0) := by decide +kernel
theorem s_305_36 {x0 x1 : Option Value} : mw d 305 Q 36 [x0, x1] (st) h = mw d 305 Q 37 [x0, x1] (.int 0 :: st) h := (mw_at mj_305_36).trans (z_iconst (by decide))
theorem mj_305_37 : mc_P 305 37 = some (.ireturn, 1, 0, 3, 0) := by decide +kernel
theorem s_305_37 {x0 x1 : Option Value} {x : Int32} : mw d 305 Q 37 [x0, x1] ([.int x]) h = ((x = 0 ∨ x = 1) ∧ Q (some (.int x)) h) := (mw_at mj_305_37).trans (z_zret)
theorem e_305 {a0 : Nat} {a1 : Int32} : mcall d 305 [.ref a0, .int a1] h Q = mw d 305 Q 0 [some (.ref a0), some (.int a1)] [] h := by
  show mw d 305 Q 0 (me_en (mc_nl 305) _) [] h = _
  rw [nl_305]; rfl

/-! InvariantDeskModel.wordOf(II)I -/
theorem mj_307_0 : mc_P 307 0 = some (.iconst 0, 1, 0, 0, 0) := by decide +kernel
theorem s_307_0 {x0 x1 x2 x3 x4 x5 : Option Value} : mw d 307 Q 0 [x0, x1, x2, x3, x4, x5] (st) h = mw d 307 Q 1 [x0, x1, x2, x3, x4, x5] (.int 0 :: st) h := (mw_at mj_307_0).trans (z_iconst (by decide))
theorem mj_307_1 : mc_P 307 1 = some (.istore_n 3, 1, 0, 0, 0) := by decide +kernel
theorem s_307_1 {x0 x1 x2 x3 x4 x5 : Option Value} {w : Int32} : mw d 307 Q 1 [x0, x1, x2, x3, x4, x5] (.int w :: st) h = mw d 307 Q 2 [x0, x1, mk2 x2, some (.int w), x4, x5] (st) h := (mw_at mj_307_1).trans (z_istore_n (Nat.le_of_ble_eq_true rfl) (me_s1_mk (j := 2) (w := x2) rfl))
theorem mj_307_2 : mc_P 307 2 = some (.iload_n 3, 1, 0, 0, 0) := by decide +kernel
theorem s_307_2 {x0 x1 x2 x4 x5 : Option Value} {w : Value} : mw d 307 Q 2 [x0, x1, x2, some w, x4, x5] (st) h = mv_i w (mw d 307 Q 3 [x0, x1, x2, some w, x4, x5] (w :: st) h) := (mw_at mj_307_2).trans (z_iload_n rfl)
theorem mj_307_3 : mc_P 307 3 = some (.aload_n 0, 1, 0, 0, 0) := by decide +kernel
theorem s_307_3 {x1 x2 x3 x4 x5 : Option Value} {w : Value} : mw d 307 Q 3 [some w, x1, x2, x3, x4, x5] (st) h = mv_a w (mw d 307 Q 4 [some w, x1, x2, x3, x4, x5] (w :: st) h) := (mw_at mj_307_3).trans (z_aload_n rfl)
theorem mj_307_4 : mc_P 307 4 = some (.getfield 169, 3, 14, 0, 0) := by decide +kernel
theorem s_307_4 {x0 x1 x2 x3 x4 x5 : Option Value} {o : Nat} : mw d 307 Q 4 [x0, x1, x2, x3, x4, x5] (.ref o :: st) h = (mg h o 14 ∧ mw d 307 Q 7 [x0, x1, x2, x3, x4, x5] (va_rf (mh_r h o 0) :: st) h) := (mw_at mj_307_4).trans (z_getr (by decide) (by decide) rfl)
theorem mj_307_7 : mc_P 307 7 = some (.arraylength, 1, 0, 0, 0) := by decide +kernel
theorem s_307_7 {x0 x1 x2 x3 x4 x5 : Option Value} {o : Nat} : mw d 307 Q 7 [x0, x1, x2, x3, x4, x5] (.ref o :: st) h = (mga h o ∧ mw d 307 Q 8 [x0, x1, x2, x3, x4, x5] (.int (Int32.ofNat (mh_l h o)) :: st) h) := (mw_at mj_307_7).trans (z_alen)
theorem mj_307_8 : mc_P 307 8 = some (.if_icmp .ge 90, 3, 0, 0, 0) := by decide +kernel
theorem s_307_8 {x0 x1 x2 x3 x4 x5 : Option Value} {x w : Int32} : mw d 307 Q 8 [x0, x1, x2, x3, x4, x5] (.int w :: .int x :: st) h = mB (w ≤ x) (mw d 307 Q) 98 11 [x0, x1, x2, x3, x4, x5] st h := (mw_at mj_307_8).trans (z_icmp_ge (by decide) rfl)
theorem mj_307_11 : mc_P 307 11 = some (.iload_n 2, 1, 0, 0, 0) := by decide +kernel
theorem s_307_11 {x0 x1 x3 x4 x5 : Option Value} {w : Value} : mw d 307 Q 11 [x0, x1, some w, x3, x4, x5] (st) h = mv_i w (mw d 307 Q 12 [x0, x1, some w, x3, x4, x5] (w :: st) h) := (mw_at mj_307_11).trans (z_iload_n rfl)
theorem mj_307_12 : mc_P 307 12 = some (.aload_n 0, 1, 0, 0, 0) := by decide +kernel
theorem s_307_12 {x1 x2 x3 x4 x5 : Option Value} {w : Value} : mw d 307 Q 12 [some w, x1, x2, x3, x4, x5] (st) h = mv_a w (mw d 307 Q 13 [some w, x1, x2, x3, x4, x5] (w :: st) h) := (mw_at mj_307_12).trans (z_aload_n rfl)
theorem mj_307_13 : mc_P 307 13 = some (.getfield 169, 3, 14, 0, 0) := by decide +kernel
theorem s_307_13 {x0 x1 x2 x3 x4 x5 : Option Value} {o : Nat} : mw d 307 Q 13 [x0, x1, x2, x3, x4, x5] (.ref o :: st) h = (mg h o 14 ∧ mw d 307 Q 16 [x0, x1, x2, x3, x4, x5] (va_rf (mh_r h o 0) :: st) h) := (mw_at mj_307_13).trans (z_getr (by decide) (by decide) rfl)
theorem mj_307_16 : mc_P 307 16 = some (.iload_n 3, 1, 0, 0, 0) := by decide +kernel
theorem s_307_16 {x0 x1 x2 x4 x5 : Option Value} {w : Value} : mw d 307 Q 16 [x0, x1, x2, some w, x4, x5] (st) h = mv_i w (mw d 307 Q 17 [x0, x1, x2, some w, x4, x5] (w :: st) h) := (mw_at mj_307_16).trans (z_iload_n rfl)
theorem mj_307_17 : mc_P 307 17 = some (.aaload, 1, 0, 0, 0) := by decide +kernel
theorem s_307_17 {x0 x1 x2 x3 x4 x5 : Option Value} {o : Nat} {i : Int32} : mw d 307 Q 17 [x0, x1, x2, x3, x4, x5] (.int i :: .ref o :: st) h = (mgr h o ∧ mx i (mh_l h o) ∧ mw d 307 Q 18 [x0, x1, x2, x3, x4, x5] (mrd (mh_k h o) h o i.toNatClampNeg :: st) h) := (mw_at mj_307_17).trans (z_aald)
theorem mj_307_18 : mc_P 307 18 = some (.invokevirtual 211, 3, 394, 90, 1) := by decide +kernel
theorem s_307_18 {x0 x1 x2 x3 x4 x5 : Option Value} {o : Nat} : mw (d + 1) 307 Q 18 [x0, x1, x2, x3, x4, x5] (.retAddr o :: st) h = (me_xs o = true ∧ mca st 8 ∧ mca [.retAddr o] 1 ∧ mcall d 394 [.retAddr o] h (mK (d + 1) 307 Q 21 [x0, x1, x2, x3, x4, x5] st)) := (mw_at mj_307_18).trans ((z_invx (As := []) rfl rfl).trans (congrArg (And _) (congrArg (And _) (mC_nl nl_394))))
theorem mj_307_21 : mc_P 307 21 = some (.if_icmp .ne 7, 3, 0, 0, 0) := by decide +kernel
theorem s_307_21 {x0 x1 x2 x3 x4 x5 : Option Value} {x w : Int32} : mw d 307 Q 21 [x0, x1, x2, x3, x4, x5] (.int w :: .int x :: st) h = mB (¬ x = w) (mw d 307 Q) 28 24 [x0, x1, x2, x3, x4, x5] st h := (mw_at mj_307_21).trans (z_icmp_ne (by decide) rfl)
theorem mj_307_24 : mc_P 307 24 = some (.iconst 1, 1, 0, 0, 0) := by decide +kernel
theorem s_307_24 {x0 x1 x2 x3 x4 x5 : Option Value} : mw d 307 Q 24 [x0, x1, x2, x3, x4, x5] (st) h = mw d 307 Q 25 [x0, x1, x2, x3, x4, x5] (.int 1 :: st) h := (mw_at mj_307_24).trans (z_iconst (by decide))
theorem mj_307_25 : mc_P 307 25 = some (.goto 4, 3, 0, 0, 0) := by decide +kernel
theorem s_307_25 {x0 x1 x2 x3 x4 x5 : Option Value} : mw d 307 Q 25 [x0, x1, x2, x3, x4, x5] (st) h = mw d 307 Q 29 [x0, x1, x2, x3, x4, x5] (st) h := (mw_at mj_307_25).trans (z_goto (by decide))
theorem mj_307_28 : mc_P 307 28 = some (.iconst 0, 1, 0, 0, 0) := by decide +kernel
theorem s_307_28 {x0 x1 x2 x3 x4 x5 : Option Value} : mw d 307 Q 28 [x0, x1, x2, x3, x4, x5] (st) h = mw d 307 Q 29 [x0, x1, x2, x3, x4, x5] (.int 0 :: st) h := (mw_at mj_307_28).trans (z_iconst (by decide))
theorem mj_307_29 : mc_P 307 29 = some (.istore 4, 2, 0, 0, 0) := by decide +kernel
theorem s_307_29 {x0 x1 x2 x3 x4 x5 : Option Value} {w : Int32} : mw d 307 Q 29 [x0, x1, x2, x3, x4, x5] (.int w :: st) h = mw d 307 Q 31 [x0, x1, x2, mk2 x3, some (.int w), x5] (st) h := (mw_at mj_307_29).trans (z_istore (Nat.le_of_ble_eq_true rfl) (me_s1_mk (j := 3) (w := x3) rfl))
theorem mj_307_31 : mc_P 307 31 = some (.iconst 0, 1, 0, 0, 0) := by decide +kernel
theorem s_307_31 {x0 x1 x2 x3 x4 x5 : Option Value} : mw d 307 Q 31 [x0, x1, x2, x3, x4, x5] (st) h = mw d 307 Q 32 [x0, x1, x2, x3, x4, x5] (.int 0 :: st) h := (mw_at mj_307_31).trans (z_iconst (by decide))
theorem mj_307_32 : mc_P 307 32 = some (.istore 5, 2, 0, 0, 0) := by decide +kernel
theorem s_307_32 {x0 x1 x2 x3 x4 x5 : Option Value} {w : Int32} : mw d 307 Q 32 [x0, x1, x2, x3, x4, x5] (.int w :: st) h = mw d 307 Q 34 [x0, x1, x2, x3, mk2 x4, some (.int w)] (st) h := (mw_at mj_307_32).trans (z_istore (Nat.le_of_ble_eq_true rfl) (me_s1_mk (j := 4) (w := x4) rfl))
theorem mj_307_34 : mc_P 307 34 = some (.iload 5, 2, 0, 0, 0) := by decide +kernel
theorem s_307_34 {x0 x1 x2 x3 x4 : Option Value} {w : Value} : mw d 307 Q 34 [x0, x1, x2, x3, x4, some w] (st) h = mv_i w (mw d 307 Q 36 [x0, x1, x2, x3, x4, some w] (w :: st) h) := (mw_at mj_307_34).trans (z_iload rfl)
theorem mj_307_36 : mc_P 307 36 = some (.iload_n 2, 1, 0, 0, 0) := by decide +kernel
theorem s_307_36 {x0 x1 x3 x4 x5 : Option Value} {w : Value} : mw d 307 Q 36 [x0, x1, some w, x3, x4, x5] (st) h = mv_i w (mw d 307 Q 37 [x0, x1, some w, x3, x4, x5] (w :: st) h) := (mw_at mj_307_36).trans (z_iload_n rfl)
theorem mj_307_37 : mc_P 307 37 = some (.if_icmp .ge 44, 3, 0, 0, 0) := by decide +kernel
theorem s_307_37 {x0 x1 x2 x3 x4 x5 : Option Value} {x w : Int32} : mw d 307 Q 37 [x0, x1, x2, x3, x4, x5] (.int w :: .int x :: st) h = mB (w ≤ x) (mw d 307 Q) 81 40 [x0, x1, x2, x3, x4, x5] st h := (mw_at mj_307_37).trans (z_icmp_ge (by decide) rfl)
theorem mj_307_40 : mc_P 307 40 = some (.iload 4, 2, 0, 0, 0) := by decide +kernel
theorem s_307_40 {x0 x1 x2 x3 x5 : Option Value} {w : Value} : mw d 307 Q 40 [x0, x1, x2, x3, some w, x5] (st) h = mv_i w (mw d 307 Q 42 [x0, x1, x2, x3, some w, x5] (w :: st) h) := (mw_at mj_307_40).trans (z_iload rfl)
theorem mj_307_42 : mc_P 307 42 = some (.ifCond .eq 39, 3, 0, 0, 0) := by decide +kernel
theorem s_307_42 {x0 x1 x2 x3 x4 x5 : Option Value} {x : Int32} : mw d 307 Q 42 [x0, x1, x2, x3, x4, x5] (.int x :: st) h = mB (x = 0) (mw d 307 Q) 81 45 [x0, x1, x2, x3, x4, x5] st h := (mw_at mj_307_42).trans (z_if_eq (by decide) rfl)
theorem mj_307_45 : mc_P 307 45 = some (.aload_n 0, 1, 0, 0, 0) := by decide +kernel
theorem s_307_45 {x1 x2 x3 x4 x5 : Option Value} {w : Value} : mw d 307 Q 45 [some w, x1, x2, x3, x4, x5] (st) h = mv_a w (mw d 307 Q 46 [some w, x1, x2, x3, x4, x5] (w :: st) h) := (mw_at mj_307_45).trans (z_aload_n rfl)
theorem mj_307_46 : mc_P 307 46 = some (.getfield 9, 3, 14, 1, 0) := by decide +kernel
theorem s_307_46 {x0 x1 x2 x3 x4 x5 : Option Value} {o : Nat} : mw d 307 Q 46 [x0, x1, x2, x3, x4, x5] (.ref o :: st) h = (mg h o 14 ∧ mw d 307 Q 49 [x0, x1, x2, x3, x4, x5] (va_rf (mh_r h o 1) :: st) h) := (mw_at mj_307_46).trans (z_getr (by decide) (by decide) rfl)
theorem mj_307_49 : mc_P 307 49 = some (.iload_n 1, 1, 0, 0, 0) := by decide +kernel
theorem s_307_49 {x0 x2 x3 x4 x5 : Option Value} {w : Value} : mw d 307 Q 49 [x0, some w, x2, x3, x4, x5] (st) h = mv_i w (mw d 307 Q 50 [x0, some w, x2, x3, x4, x5] (w :: st) h) := (mw_at mj_307_49).trans (z_iload_n rfl)
theorem mj_307_50 : mc_P 307 50 = some (.iload 5, 2, 0, 0, 0) := by decide +kernel
theorem s_307_50 {x0 x1 x2 x3 x4 : Option Value} {w : Value} : mw d 307 Q 50 [x0, x1, x2, x3, x4, some w] (st) h = mv_i w (mw d 307 Q 52 [x0, x1, x2, x3, x4, some w] (w :: st) h) := (mw_at mj_307_50).trans (z_iload rfl)
theorem mj_307_52 : mc_P 307 52 = some (.iadd, 1, 0, 0, 0) := by decide +kernel
theorem s_307_52 {x0 x1 x2 x3 x4 x5 : Option Value} {x w : Int32} : mw d 307 Q 52 [x0, x1, x2, x3, x4, x5] (.int w :: .int x :: st) h = mw d 307 Q 53 [x0, x1, x2, x3, x4, x5] (.int (x + w) :: st) h := (mw_at mj_307_52).trans (z_iadd)
theorem mj_307_53 : mc_P 307 53 = some (.iaload, 1, 0, 0, 0) := by decide +kernel
theorem s_307_53 {x0 x1 x2 x3 x4 x5 : Option Value} {o : Nat} {i : Int32} : mw d 307 Q 53 [x0, x1, x2, x3, x4, x5] (.int i :: .ref o :: st) h = (mg h o 100 ∧ mx i (mh_l h o) ∧ mw d 307 Q 54 [x0, x1, x2, x3, x4, x5] (.int (mh_i h o i.toNatClampNeg) :: st) h) := (mw_at mj_307_53).trans (z_iald)
theorem s_307_53x {x0 x1 x2 x3 x4 x5 : Option Value} {i : Int32} : mw d 307 Q 53 [x0, x1, x2, x3, x4, x5] (.int i :: .retAddr 2 :: st) h = (mx i 24 ∧ mw d 307 Q 54 [x0, x1, x2, x3, x4, x5] (.int (mx_row.getD i.toNatClampNeg 0) :: st) h) := (mw_at mj_307_53).trans (z_iaX)
theorem mj_307_54 : mc_P 307 54 = some (.aload_n 0, 1, 0, 0, 0) := by decide +kernel
theorem s_307_54 {x1 x2 x3 x4 x5 : Option Value} {w : Value} : mw d 307 Q 54 [some w, x1, x2, x3, x4, x5] (st) h = mv_a w (mw d 307 Q 55 [some w, x1, x2, x3, x4, x5] (w :: st) h) := (mw_at mj_307_54).trans (z_aload_n rfl)
theorem mj_307_55 : mc_P 307 55 = some (.getfield 169, 3, 14, 0, 0) := by decide +kernel
theorem s_307_55 {x0 x1 x2 x3 x4 x5 : Option Value} {o : Nat} : mw d 307 Q 55 [x0, x1, x2, x3, x4, x5] (.ref o :: st) h = (mg h o 14 ∧ mw d 307 Q 58 [x0, x1, x2, x3, x4, x5] (va_rf (mh_r h o 0) :: st) h) := (mw_at mj_307_55).trans (z_getr (by decide) (by decide) rfl)
theorem mj_307_58 : mc_P 307 58 = some (.iload_n 3, 1, 0, 0, 0) := by decide +kernel
theorem s_307_58 {x0 x1 x2 x4 x5 : Option Value} {w : Value} : mw d 307 Q 58 [x0, x1, x2, some w, x4, x5] (st) h = mv_i w (mw d 307 Q 59 [x0, x1, x2, some w, x4, x5] (w :: st) h) := (mw_at mj_307_58).trans (z_iload_n rfl)
theorem mj_307_59 : mc_P 307 59 = some (.aaload, 1, 0, 0, 0) := by decide +kernel
theorem s_307_59 {x0 x1 x2 x3 x4 x5 : Option Value} {o : Nat} {i : Int32} : mw d 307 Q 59 [x0, x1, x2, x3, x4, x5] (.int i :: .ref o :: st) h = (mgr h o ∧ mx i (mh_l h o) ∧ mw d 307 Q 60 [x0, x1, x2, x3, x4, x5] (mrd (mh_k h o) h o i.toNatClampNeg :: st) h) := (mw_at mj_307_59).trans (z_aald)
theorem mj_307_60 : mc_P 307 60 = some (.iload 5, 2, 0, 0, 0) := by decide +kernel
theorem s_307_60 {x0 x1 x2 x3 x4 : Option Value} {w : Value} : mw d 307 Q 60 [x0, x1, x2, x3, x4, some w] (st) h = mv_i w (mw d 307 Q 62 [x0, x1, x2, x3, x4, some w] (w :: st) h) := (mw_at mj_307_60).trans (z_iload rfl)
theorem mj_307_62 : mc_P 307 62 = some (.invokevirtual 214, 3, 397, 90, 2) := by decide +kernel
theorem s_307_62 {x0 x1 x2 x3 x4 x5 : Option Value} {o : Nat} {a1 : Value} : mw (d + 1) 307 Q 62 [x0, x1, x2, x3, x4, x5] (a1 :: .retAddr o :: st) h = (me_xs o = true ∧ mca st 8 ∧ mca [.retAddr o, a1] 2 ∧ mcall d 397 [.retAddr o, a1] h (mK (d + 1) 307 Q 65 [x0, x1, x2, x3, x4, x5] st)) := (mw_at mj_307_62).trans ((z_invx (As := [a1]) rfl rfl).trans (congrArg (And _) (congrArg (And _) (mC_nl nl_397))))
theorem mj_307_65 : mc_P 307 65 = some (.if_icmp .ne 7, 3, 0, 0, 0) := by decide +kernel
theorem s_307_65 {x0 x1 x2 x3 x4 x5 : Option Value} {x w : Int32} : mw d 307 Q 65 [x0, x1, x2, x3, x4, x5] (.int w :: .int x :: st) h = mB (¬ x = w) (mw d 307 Q) 72 68 [x0, x1, x2, x3, x4, x5] st h := (mw_at mj_307_65).trans (z_icmp_ne (by decide) rfl)
theorem mj_307_68 : mc_P 307 68 = some (.iconst 1, 1, 0, 0, 0) := by decide +kernel
theorem s_307_68 {x0 x1 x2 x3 x4 x5 : Option Value} : mw d 307 Q 68 [x0, x1, x2, x3, x4, x5] (st) h = mw d 307 Q 69 [x0, x1, x2, x3, x4, x5] (.int 1 :: st) h := (mw_at mj_307_68).trans (z_iconst (by decide))
theorem mj_307_69 : mc_P 307 69 = some (.goto 4, 3, 0, 0, 0) := by decide +kernel
theorem s_307_69 {x0 x1 x2 x3 x4 x5 : Option Value} : mw d 307 Q 69 [x0, x1, x2, x3, x4, x5] (st) h = mw d 307 Q 73 [x0, x1, x2, x3, x4, x5] (st) h := (mw_at mj_307_69).trans (z_goto (by decide))
theorem mj_307_72 : mc_P 307 72 = some (.iconst 0, 1, 0, 0, 0) := by decide +kernel
theorem s_307_72 {x0 x1 x2 x3 x4 x5 : Option Value} : mw d 307 Q 72 [x0, x1, x2, x3, x4, x5] (st) h = mw d 307 Q 73 [x0, x1, x2, x3, x4, x5] (.int 0 :: st) h := (mw_at mj_307_72).trans (z_iconst (by decide))
theorem mj_307_73 : mc_P 307 73 = some (.istore 4, 2, 0, 0, 0) := by decide +kernel
theorem s_307_73 {x0 x1 x2 x3 x4 x5 : Option Value} {w : Int32} : mw d 307 Q 73 [x0, x1, x2, x3, x4, x5] (.int w :: st) h = mw d 307 Q 75 [x0, x1, x2, mk2 x3, some (.int w), x5] (st) h := (mw_at mj_307_73).trans (z_istore (Nat.le_of_ble_eq_true rfl) (me_s1_mk (j := 3) (w := x3) rfl))
theorem mj_307_75 : mc_P 307 75 = some (.iinc 5 1, 3, 0, 0, 0) := by decide +kernel
theorem s_307_75 {x0 x1 x2 x3 x4 : Option Value} {w : Int32} : mw d 307 Q 75 [x0, x1, x2, x3, x4, some (.int w)] (st) h = mw d 307 Q 78 [x0, x1, x2, x3, mk2 x4, some (.int (w + 1))] (st) h := (mw_at mj_307_75).trans (z_iinc rfl (Nat.le_of_ble_eq_true rfl) (by decide) (me_s1_mk (j := 4) (w := x4) rfl))
theorem mj_307_78 : mc_P 307 78 = some (.goto (-44), 3, 0, 0, 0) := by decide +kernel
theorem s_307_78 {x0 x1 x2 x3 x4 x5 : Option Value} : mw d 307 Q 78 [x0, x1, x2, x3, x4, x5] (st) h = mw d 307 Q 34 [x0, x1, x2, x3, x4, x5] (st) h := (mw_at mj_307_78).trans (z_goto (by decide))
theorem mj_307_81 : mc_P 307 81 = some (.iload 4, 2, 0, 0, 0) := by decide +kernel
theorem s_307_81 {x0 x1 x2 x3 x5 : Option Value} {w : Value} : mw d 307 Q 81 [x0, x1, x2, x3, some w, x5] (st) h = mv_i w (mw d 307 Q 83 [x0, x1, x2, x3, some w, x5] (w :: st) h) := (mw_at mj_307_81).trans (z_iload rfl)
theorem mj_307_83 : mc_P 307 83 = some (.ifCond .eq 9, 3, 0, 0, 0) := by decide +kernel
theorem s_307_83 {x0 x1 x2 x3 x4 x5 : Option Value} {x : Int32} : mw d 307 Q 83 [x0, x1, x2, x3, x4, x5] (.int x :: st) h = mB (x = 0) (mw d 307 Q) 92 86 [x0, x1, x2, x3, x4, x5] st h := (mw_at mj_307_83).trans (z_if_eq (by decide) rfl)
theorem mj_307_86 : mc_P 307 86 = some (.sipush 300, 3, 0, 0, 0) := by decide +kernel
theorem s_307_86 {x0 x1 x2 x3 x4 x5 : Option Value} : mw d 307 Q 86 [x0, x1, x2, x3, x4, x5] (st) h = mw d 307 Q 89 [x0, x1, x2, x3, x4, x5] (.int 300 :: st) h := (mw_at mj_307_86).trans (z_sipush (by decide))
theorem mj_307_89 : mc_P 307 89 = some (.iload_n 3, 1, 0, 0, 0) := by decide +kernel
theorem s_307_89 {x0 x1 x2 x4 x5 : Option Value} {w : Value} : mw d 307 Q 89 [x0, x1, x2, some w, x4, x5] (st) h = mv_i w (mw d 307 Q 90 [x0, x1, x2, some w, x4, x5] (w :: st) h) := (mw_at mj_307_89).trans (z_iload_n rfl)
theorem mj_307_90 : mc_P 307 90 = some (.iadd, 1, 0, 0, 0) := by decide +kernel
theorem s_307_90 {x0 x1 x2 x3 x4 x5 : Option Value} {x w : Int32} : mw d 307 Q 90 [x0, x1, x2, x3, x4, x5] (.int w :: .int x :: st) h = mw d 307 Q 91 [x0, x1, x2, x3, x4, x5] (.int (x + w) :: st) h := (mw_at mj_307_90).trans (z_iadd)
theorem mj_307_91 : mc_P 307 91 = some (.ireturn, 1, 0, 0, 0) := by decide +kernel
theorem s_307_91 {x0 x1 x2 x3 x4 x5 : Option Value} {x : Int32} : mw d 307 Q 91 [x0, x1, x2, x3, x4, x5] ([.int x]) h = (Q (some (.int x)) h) := (mw_at mj_307_91).trans (z_iret)
theorem mj_307_92 : mc_P 307 92 = some (.iinc 3 1, 3, 0, 0, 0) := by decide +kernel
theorem s_307_92 {x0 x1 x2 x4 x5 : Option Value} {w : Int32} : mw d 307 Q 92 [x0, x1, x2, some (.int w), x4, x5] (st) h = mw d 307 Q 95 [x0, x1, mk2 x2, some (.int (w + 1)), x4, x5] (st) h := (mw_at mj_307_92).trans (z_iinc rfl (Nat.le_of_ble_eq_true rfl) (by decide) (me_s1_mk (j := 2) (w := x2) rfl))
theorem mj_307_95 : mc_P 307 95 = some (.goto (-93), 3, 0, 0, 0) := by decide +kernel
theorem s_307_95 {x0 x1 x2 x3 x4 x5 : Option Value} : mw d 307 Q 95 [x0, x1, x2, x3, x4, x5] (st) h = mw d 307 Q 2 [x0, x1, x2, x3, x4, x5] (st) h := (mw_at mj_307_95).trans (z_goto (by decide))
theorem mj_307_98 : mc_P 307 98 = some (.iload_n 2, 1, 0, 0, 0) := by decide +kernel
theorem s_307_98 {x0 x1 x3 x4 x5 : Option Value} {w : Value} : mw d 307 Q 98 [x0, x1, some w, x3, x4, x5] (st) h = mv_i w (mw d 307 Q 99 [x0, x1, some w, x3, x4, x5] (w :: st) h) := (mw_at mj_307_98).trans (z_iload_n rfl)
theorem mj_307_99 : mc_P 307 99 = some (.bipush 30, 2, 0, 0, 0) := by decide +kernel
theorem s_307_99 {x0 x1 x2 x3 x4 x5 : Option Value} : mw d 307 Q 99 [x0, x1, x2, x3, x4, x5] (st) h = mw d 307 Q 101 [x0, x1, x2, x3, x4, x5] (.int 30 :: st) h := (mw_at mj_307_99).trans (z_bipush (by decide))
theorem mj_307_101 : mc_P 307 101 = some (.if_icmp .le 7, 3, 0, 0, 0) := by decide +kernel
theorem s_307_101 {x0 x1 x2 x3 x4 x5 : Option Value} {x w : Int32} : mw d 307 Q 101 [x0, x1, x2, x3, x4, x5] (.int w :: .int x :: st) h = mB (x ≤ w) (mw d 307 Q) 108 104 [x0, x1, x2, x3, x4, x5] st h := (mw_at mj_307_101).trans (z_icmp_le (by decide) rfl)
theorem mj_307_104 : mc_P 307 104 = some (.iconst 1, 1, 0, 0, 0) := by decide +kernel
theorem s_307_104 {x0 x1 x2 x3 x4 x5 : Option Value} : mw d 307 Q 104 [x0, x1, x2, x3, x4, x5] (st) h = mw d 307 Q 105 [x0, x1, x2, x3, x4, x5] (.int 1 :: st) h := (mw_at mj_307_104).trans (z_iconst (by decide))
theorem mj_307_105 : mc_P 307 105 = some (.goto 4, 3, 0, 0, 0) := by decide +kernel
theorem s_307_105 {x0 x1 x2 x3 x4 x5 : Option Value} : mw d 307 Q 105 [x0, x1, x2, x3, x4, x5] (st) h = mw d 307 Q 109 [x0, x1, x2, x3, x4, x5] (st) h := (mw_at mj_307_105).trans (z_goto (by decide))
theorem mj_307_108 : mc_P 307 108 = some (.iconst 2, 1, 0, 0, 0) := by decide +kernel
theorem s_307_108 {x0 x1 x2 x3 x4 x5 : Option Value} : mw d 307 Q 108 [x0, x1, x2, x3, x4, x5] (st) h = mw d 307 Q 109 [x0, x1, x2, x3, x4, x5] (.int 2 :: st) h := (mw_at mj_307_108).trans (z_iconst (by decide))
theorem mj_307_109 : mc_P 307 109 = some (.ireturn, 1, 0, 0, 0) := by decide +kernel
theorem s_307_109 {x0 x1 x2 x3 x4 x5 : Option Value} {x : Int32} : mw d 307 Q 109 [x0, x1, x2, x3, x4, x5] ([.int x]) h = (Q (some (.int x)) h) := (mw_at mj_307_109).trans (z_iret)
theorem e_307 {a0 : Nat} {a1 : Int32} {a2 : Int32} : mcall d 307 [.ref a0, .int a1, .int a2] h Q = mw d 307 Q 0 [some (.ref a0), some (.int a1), some (.int a2), none, none, none] [] h := by
  show mw d 307 Q 0 (me_en (mc_nl 307) _) [] h = _
  rw [nl_307]; rfl

/-! InvariantDeskModel.isNumber(II)Z -/
theorem mj_308_0 : mc_P 308 0 = some (.lconst 0, 1, 0, 0, 0) := by decide +kernel
theorem s_308_0 {x0 x1 x2 x3 x4 x5 : Option Value} : mw d 308 Q 0 [x0, x1, x2, x3, x4, x5] (st) h = mw d 308 Q 1 [x0, x1, x2, x3, x4, x5] (.long 0 :: st) h := (mw_at mj_308_0).trans (z_lconst (by decide))
theorem mj_308_1 : mc_P 308 1 = some (.lstore_n 3, 1, 0, 0, 0) := by decide +kernel
theorem s_308_1 {x0 x1 x2 x3 x4 x5 : Option Value} {w : Int64} : mw d 308 Q 1 [x0, x1, x2, x3, x4, x5] (.long w :: st) h = mw d 308 Q 2 [x0, x1, mk2 x2, some (.long w), none, x5] (st) h := (mw_at mj_308_1).trans (z_lstore_n (Nat.le_of_ble_eq_true rfl) (me_s2_mk (j := 2) (w := x2) rfl))
theorem mj_308_2 : mc_P 308 2 = some (.iconst 0, 1, 0, 0, 0) := by decide +kernel
theorem s_308_2 {x0 x1 x2 x3 x4 x5 : Option Value} : mw d 308 Q 2 [x0, x1, x2, x3, x4, x5] (st) h = mw d 308 Q 3 [x0, x1, x2, x3, x4, x5] (.int 0 :: st) h := (mw_at mj_308_2).trans (z_iconst (by decide))
theorem mj_308_3 : mc_P 308 3 = some (.istore 5, 2, 0, 0, 0) := by decide +kernel
theorem s_308_3 {x0 x1 x2 x3 x4 x5 : Option Value} {w : Int32} : mw d 308 Q 3 [x0, x1, x2, x3, x4, x5] (.int w :: st) h = mw d 308 Q 5 [x0, x1, x2, x3, mk2 x4, some (.int w)] (st) h := (mw_at mj_308_3).trans (z_istore (Nat.le_of_ble_eq_true rfl) (me_s1_mk (j := 4) (w := x4) rfl))
theorem mj_308_5 : mc_P 308 5 = some (.iload 5, 2, 0, 0, 0) := by decide +kernel
theorem s_308_5 {x0 x1 x2 x3 x4 : Option Value} {w : Value} : mw d 308 Q 5 [x0, x1, x2, x3, x4, some w] (st) h = mv_i w (mw d 308 Q 7 [x0, x1, x2, x3, x4, some w] (w :: st) h) := (mw_at mj_308_5).trans (z_iload rfl)
theorem mj_308_7 : mc_P 308 7 = some (.iload_n 2, 1, 0, 0, 0) := by decide +kernel
theorem s_308_7 {x0 x1 x3 x4 x5 : Option Value} {w : Value} : mw d 308 Q 7 [x0, x1, some w, x3, x4, x5] (st) h = mv_i w (mw d 308 Q 8 [x0, x1, some w, x3, x4, x5] (w :: st) h) := (mw_at mj_308_7).trans (z_iload_n rfl)
theorem mj_308_8 : mc_P 308 8 = some (.if_icmp .ge 38, 3, 0, 0, 0) := by decide +kernel
theorem s_308_8 {x0 x1 x2 x3 x4 x5 : Option Value} {x w : Int32} : mw d 308 Q 8 [x0, x1, x2, x3, x4, x5] (.int w :: .int x :: st) h = mB (w ≤ x) (mw d 308 Q) 46 11 [x0, x1, x2, x3, x4, x5] st h := (mw_at mj_308_8).trans (z_icmp_ge (by decide) rfl)
theorem mj_308_11 : mc_P 308 11 = some (.lload_n 3, 1, 0, 0, 0) := by decide +kernel
theorem s_308_11 {x0 x1 x2 x4 x5 : Option Value} {w : Value} : mw d 308 Q 11 [x0, x1, x2, some w, x4, x5] (st) h = mv_l w (mw d 308 Q 12 [x0, x1, x2, some w, x4, x5] (w :: st) h) := (mw_at mj_308_11).trans (z_lload_n rfl)
theorem mj_308_12 : mc_P 308 12 = some (.ldc2_w 218, 3, 0, 0, 2147483647) := by decide +kernel
theorem s_308_12 {x0 x1 x2 x3 x4 x5 : Option Value} : mw d 308 Q 12 [x0, x1, x2, x3, x4, x5] (st) h = mw d 308 Q 15 [x0, x1, x2, x3, x4, x5] (.long 2147483647 :: st) h := (mw_at mj_308_12).trans (z_ldc2 (by decide))
theorem mj_308_15 : mc_P 308 15 = some (.lcmp, 1, 0, 0, 0) := by decide +kernel
theorem s_308_15 {x0 x1 x2 x3 x4 x5 : Option Value} {x w : Int64} : mw d 308 Q 15 [x0, x1, x2, x3, x4, x5] (.long w :: .long x :: st) h = mw d 308 Q 16 [x0, x1, x2, x3, x4, x5] (.int (lg_cmp x w) :: st) h := (mw_at mj_308_15).trans (z_lcmp)
theorem mj_308_16 : mc_P 308 16 = some (.ifCond .gt 30, 3, 0, 0, 0) := by decide +kernel
theorem s_308_16 {x0 x1 x2 x3 x4 x5 : Option Value} {x : Int32} : mw d 308 Q 16 [x0, x1, x2, x3, x4, x5] (.int x :: st) h = mB (0 < x) (mw d 308 Q) 46 19 [x0, x1, x2, x3, x4, x5] st h := (mw_at mj_308_16).trans (z_if_gt (by decide) rfl)
theorem mj_308_19 : mc_P 308 19 = some (.ldc2_w 220, 3, 0, 0, 10) := by decide +kernel
theorem s_308_19 {x0 x1 x2 x3 x4 x5 : Option Value} : mw d 308 Q 19 [x0, x1, x2, x3, x4, x5] (st) h = mw d 308 Q 22 [x0, x1, x2, x3, x4, x5] (.long 10 :: st) h := (mw_at mj_308_19).trans (z_ldc2 (by decide))
theorem mj_308_22 : mc_P 308 22 = some (.lload_n 3, 1, 0, 0, 0) := by decide +kernel
theorem s_308_22 {x0 x1 x2 x4 x5 : Option Value} {w : Value} : mw d 308 Q 22 [x0, x1, x2, some w, x4, x5] (st) h = mv_l w (mw d 308 Q 23 [x0, x1, x2, some w, x4, x5] (w :: st) h) := (mw_at mj_308_22).trans (z_lload_n rfl)
theorem mj_308_23 : mc_P 308 23 = some (.lmul, 1, 0, 0, 0) := by decide +kernel
theorem s_308_23 {x0 x1 x2 x3 x4 x5 : Option Value} {x w : Int64} : mw d 308 Q 23 [x0, x1, x2, x3, x4, x5] (.long w :: .long x :: st) h = mw d 308 Q 24 [x0, x1, x2, x3, x4, x5] (.long (x * w) :: st) h := (mw_at mj_308_23).trans (z_lmul)
theorem mj_308_24 : mc_P 308 24 = some (.aload_n 0, 1, 0, 0, 0) := by decide +kernel
theorem s_308_24 {x1 x2 x3 x4 x5 : Option Value} {w : Value} : mw d 308 Q 24 [some w, x1, x2, x3, x4, x5] (st) h = mv_a w (mw d 308 Q 25 [some w, x1, x2, x3, x4, x5] (w :: st) h) := (mw_at mj_308_24).trans (z_aload_n rfl)
theorem mj_308_25 : mc_P 308 25 = some (.getfield 9, 3, 14, 1, 0) := by decide +kernel
theorem s_308_25 {x0 x1 x2 x3 x4 x5 : Option Value} {o : Nat} : mw d 308 Q 25 [x0, x1, x2, x3, x4, x5] (.ref o :: st) h = (mg h o 14 ∧ mw d 308 Q 28 [x0, x1, x2, x3, x4, x5] (va_rf (mh_r h o 1) :: st) h) := (mw_at mj_308_25).trans (z_getr (by decide) (by decide) rfl)
theorem mj_308_28 : mc_P 308 28 = some (.iload_n 1, 1, 0, 0, 0) := by decide +kernel
theorem s_308_28 {x0 x2 x3 x4 x5 : Option Value} {w : Value} : mw d 308 Q 28 [x0, some w, x2, x3, x4, x5] (st) h = mv_i w (mw d 308 Q 29 [x0, some w, x2, x3, x4, x5] (w :: st) h) := (mw_at mj_308_28).trans (z_iload_n rfl)
theorem mj_308_29 : mc_P 308 29 = some (.iload 5, 2, 0, 0, 0) := by decide +kernel
theorem s_308_29 {x0 x1 x2 x3 x4 : Option Value} {w : Value} : mw d 308 Q 29 [x0, x1, x2, x3, x4, some w] (st) h = mv_i w (mw d 308 Q 31 [x0, x1, x2, x3, x4, some w] (w :: st) h) := (mw_at mj_308_29).trans (z_iload rfl)
theorem mj_308_31 : mc_P 308 31 = some (.iadd, 1, 0, 0, 0) := by decide +kernel
theorem s_308_31 {x0 x1 x2 x3 x4 x5 : Option Value} {x w : Int32} : mw d 308 Q 31 [x0, x1, x2, x3, x4, x5] (.int w :: .int x :: st) h = mw d 308 Q 32 [x0, x1, x2, x3, x4, x5] (.int (x + w) :: st) h := (mw_at mj_308_31).trans (z_iadd)
theorem mj_308_32 : mc_P 308 32 = some (.iaload, 1, 0, 0, 0) := by decide +kernel
theorem s_308_32 {x0 x1 x2 x3 x4 x5 : Option Value} {o : Nat} {i : Int32} : mw d 308 Q 32 [x0, x1, x2, x3, x4, x5] (.int i :: .ref o :: st) h = (mg h o 100 ∧ mx i (mh_l h o) ∧ mw d 308 Q 33 [x0, x1, x2, x3, x4, x5] (.int (mh_i h o i.toNatClampNeg) :: st) h) := (mw_at mj_308_32).trans (z_iald)
theorem mj_308_33 : mc_P 308 33 = some (.i2l, 1, 0, 0, 0) := by decide +kernel
theorem s_308_33 {x0 x1 x2 x3 x4 x5 : Option Value} {x : Int32} : mw d 308 Q 33 [x0, x1, x2, x3, x4, x5] (.int x :: st) h = mw d 308 Q 34 [x0, x1, x2, x3, x4, x5] (.long x.toInt64 :: st) h := (mw_at mj_308_33).trans (z_i2l)
theorem mj_308_34 : mc_P 308 34 = some (.ladd, 1, 0, 0, 0) := by decide +kernel
theorem s_308_34 {x0 x1 x2 x3 x4 x5 : Option Value} {x w : Int64} : mw d 308 Q 34 [x0, x1, x2, x3, x4, x5] (.long w :: .long x :: st) h = mw d 308 Q 35 [x0, x1, x2, x3, x4, x5] (.long (x + w) :: st) h := (mw_at mj_308_34).trans (z_ladd)
theorem mj_308_35 : mc_P 308 35 = some (.ldc2_w 222, 3, 0, 0, 48) := by decide +kernel
theorem s_308_35 {x0 x1 x2 x3 x4 x5 : Option Value} : mw d 308 Q 35 [x0, x1, x2, x3, x4, x5] (st) h = mw d 308 Q 38 [x0, x1, x2, x3, x4, x5] (.long 48 :: st) h := (mw_at mj_308_35).trans (z_ldc2 (by decide))
theorem mj_308_38 : mc_P 308 38 = some (.lsub, 1, 0, 0, 0) := by decide +kernel
theorem s_308_38 {x0 x1 x2 x3 x4 x5 : Option Value} {x w : Int64} : mw d 308 Q 38 [x0, x1, x2, x3, x4, x5] (.long w :: .long x :: st) h = mw d 308 Q 39 [x0, x1, x2, x3, x4, x5] (.long (x - w) :: st) h := (mw_at mj_308_38).trans (z_lsub)
theorem mj_308_39 : mc_P 308 39 = some (.lstore_n 3, 1, 0, 0, 0) := by decide +kernel
theorem s_308_39 {x0 x1 x2 x3 x4 x5 : Option Value} {w : Int64} : mw d 308 Q 39 [x0, x1, x2, x3, x4, x5] (.long w :: st) h = mw d 308 Q 40 [x0, x1, mk2 x2, some (.long w), none, x5] (st) h := (mw_at mj_308_39).trans (z_lstore_n (Nat.le_of_ble_eq_true rfl) (me_s2_mk (j := 2) (w := x2) rfl))
theorem mj_308_40 : mc_P 308 40 = some (.iinc 5 1, 3, 0, 0, 0) := by decide +kernel
theorem s_308_40 {x0 x1 x2 x3 x4 : Option Value} {w : Int32} : mw d 308 Q 40 [x0, x1, x2, x3, x4, some (.int w)] (st) h = mw d 308 Q 43 [x0, x1, x2, x3, mk2 x4, some (.int (w + 1))] (st) h := (mw_at mj_308_40).trans (z_iinc rfl (Nat.le_of_ble_eq_true rfl) (by decide) (me_s1_mk (j := 4) (w := x4) rfl))
theorem mj_308_43 : mc_P 308 43 = some (.goto (-38), 3, 0, 0, 0) := by decide +kernel
theorem s_308_43 {x0 x1 x2 x3 x4 x5 : Option Value} : mw d 308 Q 43 [x0, x1, x2, x3, x4, x5] (st) h = mw d 308 Q 5 [x0, x1, x2, x3, x4, x5] (st) h := (mw_at mj_308_43).trans (z_goto (by decide))
theorem mj_308_46 : mc_P 308 46 = some (.lload_n 3, 1, 0, 0, 0) := by decide +kernel
theorem s_308_46 {x0 x1 x2 x4 x5 : Option Value} {w : Value} : mw d 308 Q 46 [x0, x1, x2, some w, x4, x5] (st) h = mv_l w (mw d 308 Q 47 [x0, x1, x2, some w, x4, x5] (w :: st) h) := (mw_at mj_308_46).trans (z_lload_n rfl)
theorem mj_308_47 : mc_P 308 47 = some (.ldc2_w 218, 3, 0, 0, 2147483647) := by decide +kernel
theorem s_308_47 {x0 x1 x2 x3 x4 x5 : Option Value} : mw d 308 Q 47 [x0, x1, x2, x3, x4, x5] (st) h = mw d 308 Q 50 [x0, x1, x2, x3, x4, x5] (.long 2147483647 :: st) h := (mw_at mj_308_47).trans (z_ldc2 (by decide))
theorem mj_308_50 : mc_P 308 50 = some (.lcmp, 1, 0, 0, 0) := by decide +kernel
theorem s_308_50 {x0 x1 x2 x3 x4 x5 : Option Value} {x w : Int64} : mw d 308 Q 50 [x0, x1, x2, x3, x4, x5] (.long w :: .long x :: st) h = mw d 308 Q 51 [x0, x1, x2, x3, x4, x5] (.int (lg_cmp x w) :: st) h := (mw_at mj_308_50).trans (z_lcmp)
theorem mj_308_51 : mc_P 308 51 = some (.ifCond .gt 33, 3, 0, 0, 0) := by decide +kernel
theorem s_308_51 {x0 x1 x2 x3 x4 x5 : Option Value} {x : Int32} : mw d 308 Q 51 [x0, x1, x2, x3, x4, x5] (.int x :: st) h = mB (0 < x) (mw d 308 Q) 84 54 [x0, x1, x2, x3, x4, x5] st h := (mw_at mj_308_51).trans (z_if_gt (by decide) rfl)
theorem mj_308_54 : mc_P 308 54 = some (.iload_n 2, 1, 0, 0, 0) := by decide +kernel
theorem s_308_54 {x0 x1 x3 x4 x5 : Option Value} {w : Value} : mw d 308 Q 54 [x0, x1, some w, x3, x4, x5] (st) h = mv_i w (mw d 308 Q 55 [x0, x1, some w, x3, x4, x5] (w :: st) h) := (mw_at mj_308_54).trans (z_iload_n rfl)
theorem mj_308_55 : mc_P 308 55 = some (.iconst 1, 1, 0, 0, 0) := by decide +kernel
theorem s_308_55 {x0 x1 x2 x3 x4 x5 : Option Value} : mw d 308 Q 55 [x0, x1, x2, x3, x4, x5] (st) h = mw d 308 Q 56 [x0, x1, x2, x3, x4, x5] (.int 1 :: st) h := (mw_at mj_308_55).trans (z_iconst (by decide))
theorem mj_308_56 : mc_P 308 56 = some (.if_icmp .eq 14, 3, 0, 0, 0) := by decide +kernel
theorem s_308_56 {x0 x1 x2 x3 x4 x5 : Option Value} {x w : Int32} : mw d 308 Q 56 [x0, x1, x2, x3, x4, x5] (.int w :: .int x :: st) h = mB (x = w) (mw d 308 Q) 70 59 [x0, x1, x2, x3, x4, x5] st h := (mw_at mj_308_56).trans (z_icmp_eq (by decide) rfl)
theorem mj_308_59 : mc_P 308 59 = some (.aload_n 0, 1, 0, 0, 0) := by decide +kernel
theorem s_308_59 {x1 x2 x3 x4 x5 : Option Value} {w : Value} : mw d 308 Q 59 [some w, x1, x2, x3, x4, x5] (st) h = mv_a w (mw d 308 Q 60 [some w, x1, x2, x3, x4, x5] (w :: st) h) := (mw_at mj_308_59).trans (z_aload_n rfl)
theorem mj_308_60 : mc_P 308 60 = some (.getfield 9, 3, 14, 1, 0) := by decide +kernel
theorem s_308_60 {x0 x1 x2 x3 x4 x5 : Option Value} {o : Nat} : mw d 308 Q 60 [x0, x1, x2, x3, x4, x5] (.ref o :: st) h = (mg h o 14 ∧ mw d 308 Q 63 [x0, x1, x2, x3, x4, x5] (va_rf (mh_r h o 1) :: st) h) := (mw_at mj_308_60).trans (z_getr (by decide) (by decide) rfl)
theorem mj_308_63 : mc_P 308 63 = some (.iload_n 1, 1, 0, 0, 0) := by decide +kernel
theorem s_308_63 {x0 x2 x3 x4 x5 : Option Value} {w : Value} : mw d 308 Q 63 [x0, some w, x2, x3, x4, x5] (st) h = mv_i w (mw d 308 Q 64 [x0, some w, x2, x3, x4, x5] (w :: st) h) := (mw_at mj_308_63).trans (z_iload_n rfl)
theorem mj_308_64 : mc_P 308 64 = some (.iaload, 1, 0, 0, 0) := by decide +kernel
theorem s_308_64 {x0 x1 x2 x3 x4 x5 : Option Value} {o : Nat} {i : Int32} : mw d 308 Q 64 [x0, x1, x2, x3, x4, x5] (.int i :: .ref o :: st) h = (mg h o 100 ∧ mx i (mh_l h o) ∧ mw d 308 Q 65 [x0, x1, x2, x3, x4, x5] (.int (mh_i h o i.toNatClampNeg) :: st) h) := (mw_at mj_308_64).trans (z_iald)
theorem mj_308_65 : mc_P 308 65 = some (.bipush 48, 2, 0, 0, 0) := by decide +kernel
theorem s_308_65 {x0 x1 x2 x3 x4 x5 : Option Value} : mw d 308 Q 65 [x0, x1, x2, x3, x4, x5] (st) h = mw d 308 Q 67 [x0, x1, x2, x3, x4, x5] (.int 48 :: st) h := (mw_at mj_308_65).trans (z_bipush (by decide))
theorem mj_308_67 : mc_P 308 67 = some (.if_icmp .eq 17, 3, 0, 0, 0) := by decide +kernel
theorem s_308_67 {x0 x1 x2 x3 x4 x5 : Option Value} {x w : Int32} : mw d 308 Q 67 [x0, x1, x2, x3, x4, x5] (.int w :: .int x :: st) h = mB (x = w) (mw d 308 Q) 84 70 [x0, x1, x2, x3, x4, x5] st h := (mw_at mj_308_67).trans (z_icmp_eq (by decide) rfl)
theorem mj_308_70 : mc_P 308 70 = some (.aload_n 0, 1, 0, 0, 0) := by decide +kernel
theorem s_308_70 {x1 x2 x3 x4 x5 : Option Value} {w : Value} : mw d 308 Q 70 [some w, x1, x2, x3, x4, x5] (st) h = mv_a w (mw d 308 Q 71 [some w, x1, x2, x3, x4, x5] (w :: st) h) := (mw_at mj_308_70).trans (z_aload_n rfl)
theorem mj_308_71 : mc_P 308 71 = some (.iload_n 1, 1, 0, 0, 0) := by decide +kernel
theorem s_308_71 {x0 x2 x3 x4 x5 : Option Value} {w : Value} : mw d 308 Q 71 [x0, some w, x2, x3, x4, x5] (st) h = mv_i w (mw d 308 Q 72 [x0, some w, x2, x3, x4, x5] (w :: st) h) := (mw_at mj_308_71).trans (z_iload_n rfl)
theorem mj_308_72 : mc_P 308 72 = some (.iload_n 2, 1, 0, 0, 0) := by decide +kernel
theorem s_308_72 {x0 x1 x3 x4 x5 : Option Value} {w : Value} : mw d 308 Q 72 [x0, x1, some w, x3, x4, x5] (st) h = mv_i w (mw d 308 Q 73 [x0, x1, some w, x3, x4, x5] (w :: st) h) := (mw_at mj_308_72).trans (z_iload_n rfl)
theorem mj_308_73 : mc_P 308 73 = some (.iadd, 1, 0, 0, 0) := by decide +kernel
theorem s_308_73 {x0 x1 x2 x3 x4 x5 : Option Value} {x w : Int32} : mw d 308 Q 73 [x0, x1, x2, x3, x4, x5] (.int w :: .int x :: st) h = mw d 308 Q 74 [x0, x1, x2, x3, x4, x5] (.int (x + w) :: st) h := (mw_at mj_308_73).trans (z_iadd)
theorem mj_308_74 : mc_P 308 74 = some (.invokevirtual 224, 3, 305, 14, 2) := by decide +kernel
theorem s_308_74 {x0 x1 x2 x3 x4 x5 : Option Value} {o : Nat} {a1 : Value} : mw (d + 1) 308 Q 74 [x0, x1, x2, x3, x4, x5] (a1 :: .ref o :: st) h = (mg h o 14 ∧ mca st 8 ∧ mca [.ref o, a1] 2 ∧ mcall d 305 [.ref o, a1] h (mK (d + 1) 308 Q 77 [x0, x1, x2, x3, x4, x5] st)) := (mw_at mj_308_74).trans ((z_invv (As := [a1]) (by decide) rfl rfl).trans (congrArg (And _) (congrArg (And _) (mC_nl nl_305))))
theorem mj_308_77 : mc_P 308 77 = some (.ifCond .ne 7, 3, 0, 0, 0) := by decide +kernel
theorem s_308_77 {x0 x1 x2 x3 x4 x5 : Option Value} {x : Int32} : mw d 308 Q 77 [x0, x1, x2, x3, x4, x5] (.int x :: st) h = mB (¬ x = 0) (mw d 308 Q) 84 80 [x0, x1, x2, x3, x4, x5] st h := (mw_at mj_308_77).trans (z_if_ne (by decide) rfl)
theorem mj_308_80 : mc_P 308 80 = some (.iconst 1, 1, 0, 0, 0) := by decide +kernel
theorem s_308_80 {x0 x1 x2 x3 x4 x5 : Option Value} : mw d 308 Q 80 [x0, x1, x2, x3, x4, x5] (st) h = mw d 308 Q 81 [x0, x1, x2, x3, x4, x5] (.int 1 :: st) h := (mw_at mj_308_80).trans (z_iconst (by decide))
theorem mj_308_81 : mc_P 308 81 = some (.goto 4, 3, 0, 0, 0) := by decide +kernel
theorem s_308_81 {x0 x1 x2 x3 x4 x5 : Option Value} : mw d 308 Q 81 [x0, x1, x2, x3, x4, x5] (st) h = mw d 308 Q 85 [x0, x1, x2, x3, x4, x5] (st) h := (mw_at mj_308_81).trans (z_goto (by decide))
theorem mj_308_84 : mc_P 308 84 = some (.iconst 0, 1, 0, 0, 0) := by decide +kernel
theorem s_308_84 {x0 x1 x2 x3 x4 x5 : Option Value} : mw d 308 Q 84 [x0, x1, x2, x3, x4, x5] (st) h = mw d 308 Q 85 [x0, x1, x2, x3, x4, x5] (.int 0 :: st) h := (mw_at mj_308_84).trans (z_iconst (by decide))
theorem mj_308_85 : mc_P 308 85 = some (.ireturn, 1, 0, 3, 0) := by decide +kernel
theorem s_308_85 {x0 x1 x2 x3 x4 x5 : Option Value} {x : Int32} : mw d 308 Q 85 [x0, x1, x2, x3, x4, x5] ([.int x]) h = ((x = 0 ∨ x = 1) ∧ Q (some (.int x)) h) := (mw_at mj_308_85).trans (z_zret)
theorem e_308 {a0 : Nat} {a1 : Int32} {a2 : Int32} : mcall d 308 [.ref a0, .int a1, .int a2] h Q = mw d 308 Q 0 [some (.ref a0), some (.int a1), some (.int a2), none, none, none] [] h := by
  show mw d 308 Q 0 (me_en (mc_nl 308) _) [] h = _
  rw [nl_308]; rfl

end SR
