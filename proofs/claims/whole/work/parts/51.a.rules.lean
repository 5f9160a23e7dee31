/-! rules of methods, by program (wip/whole/srule.py) -/
section SR
variable {d : Nat} {Q : Option Value → mh_H → Prop} {st : List Value} {h : mh_H}
/-! InvariantDesk$Parser.kindBehind(I)I -/
theorem mj_48_0 : mc_P 48 0 = some (.aload_n 0, 1, 0, 0, 0) := by decide +kernel
theorem s_48_0 {x1 : Option Value} {w : Value} : mw d 48 Q 0 [some w, x1] (st) h = mv_a w (mw d 48 Q 1 [some w, x1] (w :: st) h) := (mw_at mj_48_0).trans (z_aload_n rfl)
theorem mj_48_1 : mc_P 48 1 = some (.getfield 95, 3, 3, 5, 0) := by decide +kernel
theorem s_48_1 {x0 x1 : Option Value} {o : Nat} : mw d 48 Q 1 [x0, x1] (.ref o :: st) h = (mg h o 3 ∧ mw d 48 Q 4 [x0, x1] (.int (mh_i h o 5) :: st) h) := (mw_at mj_48_1).trans (z_geti (by decide) (by decide) (Or.inl rfl))
theorem mj_48_4 : mc_P 48 4 = some (.iload_n 1, 1, 0, 0, 0) := by decide +kernel
theorem s_48_4 {x0 : Option Value} {w : Value} : mw d 48 Q 4 [x0, some w] (st) h = mv_i w (mw d 48 Q 5 [x0, some w] (w :: st) h) := (mw_at mj_48_4).trans (z_iload_n rfl)
theorem mj_48_5 : mc_P 48 5 = some (.iadd, 1, 0, 0, 0) := by decide +kernel
theorem s_48_5 {x0 x1 : Option Value} {x w : Int32} : mw d 48 Q 5 [x0, x1] (.int w :: .int x :: st) h = mw d 48 Q 6 [x0, x1] (.int (x + w) :: st) h := (mw_at mj_48_5).trans (z_iadd)
theorem mj_48_6 : mc_P 48 6 = some (.aload_n 0, 1, 0, 0, 0) := by decide +kernel
theorem s_48_6 {x1 : Option Value} {w : Value} : mw d 48 Q 6 [some w, x1] (st) h = mv_a w (mw d 48 Q 7 [some w, x1] (w :: st) h) := (mw_at mj_48_6).trans (z_aload_n rfl)
theorem mj_48_7 : mc_P 48 7 = some (.getfield 19, 3, 3, 0, 0) := by decide +kernel
theorem s_48_7 {x0 x1 : Option Value} {o : Nat} : mw d 48 Q 7 [x0, x1] (.ref o :: st) h = (mg h o 3 ∧ mw d 48 Q 10 [x0, x1] (va_rf (mh_r h o 0) :: st) h) := (mw_at mj_48_7).trans (z_getr (by decide) (by decide) rfl)
theorem mj_48_10 : mc_P 48 10 = some (.getfield 98, 3, 10, 4, 0) := by decide +kernel
theorem s_48_10 {x0 x1 : Option Value} {o : Nat} : mw d 48 Q 10 [x0, x1] (.ref o :: st) h = (mg h o 10 ∧ mw d 48 Q 13 [x0, x1] (.int (mh_i h o 4) :: st) h) := (mw_at mj_48_10).trans (z_geti (by decide) (by decide) (Or.inl rfl))
theorem mj_48_13 : mc_P 48 13 = some (.if_icmp .ge 20, 3, 0, 0, 0) := by decide +kernel
theorem s_48_13 {x0 x1 : Option Value} {x w : Int32} : mw d 48 Q 13 [x0, x1] (.int w :: .int x :: st) h = mB (w ≤ x) (mw d 48 Q) 33 16 [x0, x1] st h := (mw_at mj_48_13).trans (z_icmp_ge (by decide) rfl)
theorem mj_48_16 : mc_P 48 16 = some (.aload_n 0, 1, 0, 0, 0) := by decide +kernel
theorem s_48_16 {x1 : Option Value} {w : Value} : mw d 48 Q 16 [some w, x1] (st) h = mv_a w (mw d 48 Q 17 [some w, x1] (w :: st) h) := (mw_at mj_48_16).trans (z_aload_n rfl)
theorem mj_48_17 : mc_P 48 17 = some (.getfield 19, 3, 3, 0, 0) := by decide +kernel
theorem s_48_17 {x0 x1 : Option Value} {o : Nat} : mw d 48 Q 17 [x0, x1] (.ref o :: st) h = (mg h o 3 ∧ mw d 48 Q 20 [x0, x1] (va_rf (mh_r h o 0) :: st) h) := (mw_at mj_48_17).trans (z_getr (by decide) (by decide) rfl)
theorem mj_48_20 : mc_P 48 20 = some (.getfield 92, 3, 10, 1, 0) := by decide +kernel
theorem s_48_20 {x0 x1 : Option Value} {o : Nat} : mw d 48 Q 20 [x0, x1] (.ref o :: st) h = (mg h o 10 ∧ mw d 48 Q 23 [x0, x1] (va_rf (mh_r h o 1) :: st) h) := (mw_at mj_48_20).trans (z_getr (by decide) (by decide) rfl)
theorem mj_48_23 : mc_P 48 23 = some (.aload_n 0, 1, 0, 0, 0) := by decide +kernel
theorem s_48_23 {x1 : Option Value} {w : Value} : mw d 48 Q 23 [some w, x1] (st) h = mv_a w (mw d 48 Q 24 [some w, x1] (w :: st) h) := (mw_at mj_48_23).trans (z_aload_n rfl)
theorem mj_48_24 : mc_P 48 24 = some (.getfield 95, 3, 3, 5, 0) := by decide +kernel
theorem s_48_24 {x0 x1 : Option Value} {o : Nat} : mw d 48 Q 24 [x0, x1] (.ref o :: st) h = (mg h o 3 ∧ mw d 48 Q 27 [x0, x1] (.int (mh_i h o 5) :: st) h) := (mw_at mj_48_24).trans (z_geti (by decide) (by decide) (Or.inl rfl))
theorem mj_48_27 : mc_P 48 27 = some (.iload_n 1, 1, 0, 0, 0) := by decide +kernel
theorem s_48_27 {x0 : Option Value} {w : Value} : mw d 48 Q 27 [x0, some w] (st) h = mv_i w (mw d 48 Q 28 [x0, some w] (w :: st) h) := (mw_at mj_48_27).trans (z_iload_n rfl)
theorem mj_48_28 : mc_P 48 28 = some (.iadd, 1, 0, 0, 0) := by decide +kernel
theorem s_48_28 {x0 x1 : Option Value} {x w : Int32} : mw d 48 Q 28 [x0, x1] (.int w :: .int x :: st) h = mw d 48 Q 29 [x0, x1] (.int (x + w) :: st) h := (mw_at mj_48_28).trans (z_iadd)
theorem mj_48_29 : mc_P 48 29 = some (.iaload, 1, 0, 0, 0) := by decide +kernel
theorem s_48_29 {x0 x1 : Option Value} {o : Nat} {i : Int32} : mw d 48 Q 29 [x0, x1] (.int i :: .ref o :: st) h = (mg h o 100 ∧ mx i (mh_l h o) ∧ mw d 48 Q 30 [x0, x1] (.int (mh_i h o i.toNatClampNeg) :: st) h) := (mw_at mj_48_29).trans (z_iald)
theorem mj_48_30 : mc_P 48 30 = some (.goto 4, 3, 0, 0, 0) := by decide +kernel
theorem s_48_30 {x0 x1 : Option Value} : mw d 48 Q 30 [x0, x1] (st) h = mw d 48 Q 34 [x0, x1] (st) h := (mw_at mj_48_30).trans (z_goto (by decide))
theorem mj_48_33 : mc_P 48 33 = some (.iconst 0, 1, 0, 0, 0) := by decide +kernel
theorem s_48_33 {x0 x1 : Option Value} : mw d 48 Q 33 [x0, x1] (st) h = mw d 48 Q 34 [x0, x1] (.int 0 :: st) h := (mw_at mj_48_33).trans (z_iconst (by decide))
theorem mj_48_34 : mc_P 48 34 = some (.ireturn, 1, 0, 0, 0) := by decide +kernel
theorem s_48_34 {x0 x1 : Option Value} {x : Int32} : mw d 48 Q 34 [x0, x1] ([.int x]) h = (Q (some (.int x)) h) := (mw_at mj_48_34).trans (z_iret)
theorem e_48 {a0 : Nat} {a1 : Int32} : mcall d 48 [.ref a0, .int a1] h Q = mw d 48 Q 0 [some (.ref a0), some (.int a1)] [] h := by
  show mw d 48 Q 0 (me_en (mc_nl 48) _) [] h = _
  rw [nl_48]; rfl

/-! InvariantDesk$Parser.enter()Z -/
theorem mj_52_0 : mc_P 52 0 = some (.aload_n 0, 1, 0, 0, 0) := by decide +kernel
theorem s_52_0 {w : Value} : mw d 52 Q 0 [some w] (st) h = mv_a w (mw d 52 Q 1 [some w] (w :: st) h) := (mw_at mj_52_0).trans (z_aload_n rfl)
theorem mj_52_1 : mc_P 52 1 = some (.getfield 114, 3, 3, 6, 0) := by decide +kernel
theorem s_52_1 {x0 : Option Value} {o : Nat} : mw d 52 Q 1 [x0] (.ref o :: st) h = (mg h o 3 ∧ mw d 52 Q 4 [x0] (.int (mh_i h o 6) :: st) h) := (mw_at mj_52_1).trans (z_geti (by decide) (by decide) (Or.inl rfl))
theorem mj_52_4 : mc_P 52 4 = some (.bipush 60, 2, 0, 0, 0) := by decide +kernel
theorem s_52_4 {x0 : Option Value} : mw d 52 Q 4 [x0] (st) h = mw d 52 Q 6 [x0] (.int 60 :: st) h := (mw_at mj_52_4).trans (z_bipush (by decide))
theorem mj_52_6 : mc_P 52 6 = some (.if_icmp .ne 9, 3, 0, 0, 0) := by decide +kernel
theorem s_52_6 {x0 : Option Value} {x w : Int32} : mw d 52 Q 6 [x0] (.int w :: .int x :: st) h = mB (¬ x = w) (mw d 52 Q) 15 9 [x0] st h := (mw_at mj_52_6).trans (z_icmp_ne (by decide) rfl)
theorem mj_52_9 : mc_P 52 9 = some (.aload_n 0, 1, 0, 0, 0) := by decide +kernel
theorem s_52_9 {w : Value} : mw d 52 Q 9 [some w] (st) h = mv_a w (mw d 52 Q 10 [some w] (w :: st) h) := (mw_at mj_52_9).trans (z_aload_n rfl)
theorem mj_52_10 : mc_P 52 10 = some (.invokevirtual 111, 3, 50, 3, 1) := by decide +kernel
theorem s_52_10 {x0 : Option Value} {o : Nat} : mw (d + 1) 52 Q 10 [x0] (.ref o :: st) h = (mg h o 3 ∧ mca st 8 ∧ mca [.ref o] 1 ∧ mcall d 50 [.ref o] h (mK (d + 1) 52 Q 13 [x0] st)) := (mw_at mj_52_10).trans ((z_invv (As := []) (by decide) rfl rfl).trans (congrArg (And _) (congrArg (And _) (mC_nl nl_50))))
theorem mj_52_13 : mc_P 52 13 = some (.iconst 0, 1, 0, 0, 0) := by decide +kernel
theorem s_52_13 {x0 : Option Value} : mw d 52 Q 13 [x0] (st) h = mw d 52 Q 14 [x0] (.int 0 :: st) h := (mw_at mj_52_13).trans (z_iconst (by decide))
theorem mj_52_14 : mc_P 52 14 = some (.ireturn, 1, 0, 3, 0) := by decide +kernel
theorem s_52_14 {x0 : Option Value} {x : Int32} : mw d 52 Q 14 [x0] ([.int x]) h = ((x = 0 ∨ x = 1) ∧ Q (some (.int x)) h) := (mw_at mj_52_14).trans (z_zret)
theorem mj_52_15 : mc_P 52 15 = some (.aload_n 0, 1, 0, 0, 0) := by decide +kernel
theorem s_52_15 {w : Value} : mw d 52 Q 15 [some w] (st) h = mv_a w (mw d 52 Q 16 [some w] (w :: st) h) := (mw_at mj_52_15).trans (z_aload_n rfl)
theorem mj_52_16 : mc_P 52 16 = some (.dup, 1, 0, 0, 0) := by decide +kernel
theorem s_52_16 {x0 : Option Value} {w : Value} : mw d 52 Q 16 [x0] (w :: st) h = (w.category = 1 ∧ mw d 52 Q 17 [x0] (w :: w :: st) h) := (mw_at mj_52_16).trans (z_dup)
theorem mj_52_17 : mc_P 52 17 = some (.getfield 114, 3, 3, 6, 0) := by decide +kernel
theorem s_52_17 {x0 : Option Value} {o : Nat} : mw d 52 Q 17 [x0] (.ref o :: st) h = (mg h o 3 ∧ mw d 52 Q 20 [x0] (.int (mh_i h o 6) :: st) h) := (mw_at mj_52_17).trans (z_geti (by decide) (by decide) (Or.inl rfl))
theorem mj_52_20 : mc_P 52 20 = some (.iconst 1, 1, 0, 0, 0) := by decide +kernel
theorem s_52_20 {x0 : Option Value} : mw d 52 Q 20 [x0] (st) h = mw d 52 Q 21 [x0] (.int 1 :: st) h := (mw_at mj_52_20).trans (z_iconst (by decide))
theorem mj_52_21 : mc_P 52 21 = some (.iadd, 1, 0, 0, 0) := by decide +kernel
theorem s_52_21 {x0 : Option Value} {x w : Int32} : mw d 52 Q 21 [x0] (.int w :: .int x :: st) h = mw d 52 Q 22 [x0] (.int (x + w) :: st) h := (mw_at mj_52_21).trans (z_iadd)
theorem mj_52_22 : mc_P 52 22 = some (.putfield 114, 3, 3, 6, 0) := by decide +kernel
theorem s_52_22 {x0 : Option Value} {o : Nat} {w : Int32} : mw d 52 Q 22 [x0] (.int w :: .ref o :: st) h = (mg h o 3 ∧ mw d 52 Q 25 [x0] (st) (mh_si h o 6 w)) := (mw_at mj_52_22).trans (z_puti (by decide) (by decide) rfl)
theorem mj_52_25 : mc_P 52 25 = some (.iconst 1, 1, 0, 0, 0) := by decide +kernel
theorem s_52_25 {x0 : Option Value} : mw d 52 Q 25 [x0] (st) h = mw d 52 Q 26 [x0] (.int 1 :: st) h := (mw_at mj_52_25).trans (z_iconst (by decide))
theorem mj_52_26 : mc_P 52 26 = some (.ireturn, 1, 0, 3, 0) := by decide +kernel
theorem s_52_26 {x0 : Option Value} {x : Int32} : mw d 52 Q 26 [x0] ([.int x]) h = ((x = 0 ∨ x = 1) ∧ Q (some (.int x)) h) := (mw_at mj_52_26).trans (z_zret)
theorem e_52 {a0 : Nat} : mcall d 52 [.ref a0] h Q = mw d 52 Q 0 [some (.ref a0)] [] h := by
  show mw d 52 Q 0 (me_en (mc_nl 52) _) [] h = _
  rw [nl_52]; rfl

/-! InvariantDesk$Parser.note(II)V -/
theorem mj_53_0 : mc_P 53 0 = some (.aload_n 0, 1, 0, 0, 0) := by decide +kernel
theorem s_53_0 {x1 x2 : Option Value} {w : Value} : mw d 53 Q 0 [some w, x1, x2] (st) h = mv_a w (mw d 53 Q 1 [some w, x1, x2] (w :: st) h) := (mw_at mj_53_0).trans (z_aload_n rfl)
theorem mj_53_1 : mc_P 53 1 = some (.getfield 117, 3, 3, 8, 0) := by decide +kernel
theorem s_53_1 {x0 x1 x2 : Option Value} {o : Nat} : mw d 53 Q 1 [x0, x1, x2] (.ref o :: st) h = (mg h o 3 ∧ mw d 53 Q 4 [x0, x1, x2] (va_rf (mh_r h o 8) :: st) h) := (mw_at mj_53_1).trans (z_getr (by decide) (by decide) rfl)
theorem mj_53_4 : mc_P 53 4 = some (.getfield 121, 3, 9, 5, 0) := by decide +kernel
theorem s_53_4 {x0 x1 x2 : Option Value} {o : Nat} : mw d 53 Q 4 [x0, x1, x2] (.ref o :: st) h = (mg h o 9 ∧ mw d 53 Q 7 [x0, x1, x2] (.int (mh_i h o 5) :: st) h) := (mw_at mj_53_4).trans (z_geti (by decide) (by decide) (Or.inl rfl))
theorem mj_53_7 : mc_P 53 7 = some (.ifCond .ne 9, 3, 0, 0, 0) := by decide +kernel
theorem s_53_7 {x0 x1 x2 : Option Value} {x : Int32} : mw d 53 Q 7 [x0, x1, x2] (.int x :: st) h = mB (¬ x = 0) (mw d 53 Q) 16 10 [x0, x1, x2] st h := (mw_at mj_53_7).trans (z_if_ne (by decide) rfl)
theorem mj_53_10 : mc_P 53 10 = some (.aload_n 0, 1, 0, 0, 0) := by decide +kernel
theorem s_53_10 {x1 x2 : Option Value} {w : Value} : mw d 53 Q 10 [some w, x1, x2] (st) h = mv_a w (mw d 53 Q 11 [some w, x1, x2] (w :: st) h) := (mw_at mj_53_10).trans (z_aload_n rfl)
theorem mj_53_11 : mc_P 53 11 = some (.iload_n 1, 1, 0, 0, 0) := by decide +kernel
theorem s_53_11 {x0 x2 : Option Value} {w : Value} : mw d 53 Q 11 [x0, some w, x2] (st) h = mv_i w (mw d 53 Q 12 [x0, some w, x2] (w :: st) h) := (mw_at mj_53_11).trans (z_iload_n rfl)
theorem mj_53_12 : mc_P 53 12 = some (.iload_n 2, 1, 0, 0, 0) := by decide +kernel
theorem s_53_12 {x0 x1 : Option Value} {w : Value} : mw d 53 Q 12 [x0, x1, some w] (st) h = mv_i w (mw d 53 Q 13 [x0, x1, some w] (w :: st) h) := (mw_at mj_53_12).trans (z_iload_n rfl)
theorem mj_53_13 : mc_P 53 13 = some (.invokevirtual 126, 3, 54, 3, 3) := by decide +kernel
theorem s_53_13 {x0 x1 x2 : Option Value} {o : Nat} {a1 a2 : Value} : mw (d + 1) 53 Q 13 [x0, x1, x2] (a2 :: a1 :: .ref o :: st) h = (mg h o 3 ∧ mca st 8 ∧ mca [.ref o, a1, a2] 3 ∧ mcall d 54 [.ref o, a1, a2] h (mK (d + 1) 53 Q 16 [x0, x1, x2] st)) := (mw_at mj_53_13).trans ((z_invv (As := [a1, a2]) (by decide) rfl rfl).trans (congrArg (And _) (congrArg (And _) (mC_nl nl_54))))
theorem mj_53_16 : mc_P 53 16 = some (.return_, 1, 0, 0, 0) := by decide +kernel
theorem s_53_16 {x0 x1 x2 : Option Value} : mw d 53 Q 16 [x0, x1, x2] ([]) h = Q none h := (mw_at mj_53_16).trans (z_vret)
theorem e_53 {a0 : Nat} {a1 : Int32} {a2 : Int32} : mcall d 53 [.ref a0, .int a1, .int a2] h Q = mw d 53 Q 0 [some (.ref a0), some (.int a1), some (.int a2)] [] h := by
  show mw d 53 Q 0 (me_en (mc_nl 53) _) [] h = _
  rw [nl_53]; rfl

/-! InvariantDesk$Parser.noteFirst(II)V -/
theorem mj_54_0 : mc_P 54 0 = some (.aload_n 0, 1, 0, 0, 0) := by decide +kernel
theorem s_54_0 {x1 x2 : Option Value} {w : Value} : mw d 54 Q 0 [some w, x1, x2] (st) h = mv_a w (mw d 54 Q 1 [some w, x1, x2] (w :: st) h) := (mw_at mj_54_0).trans (z_aload_n rfl)
theorem mj_54_1 : mc_P 54 1 = some (.getfield 117, 3, 3, 8, 0) := by decide +kernel
theorem s_54_1 {x0 x1 x2 : Option Value} {o : Nat} : mw d 54 Q 1 [x0, x1, x2] (.ref o :: st) h = (mg h o 3 ∧ mw d 54 Q 4 [x0, x1, x2] (va_rf (mh_r h o 8) :: st) h) := (mw_at mj_54_1).trans (z_getr (by decide) (by decide) rfl)
theorem mj_54_4 : mc_P 54 4 = some (.iload_n 1, 1, 0, 0, 0) := by decide +kernel
theorem s_54_4 {x0 x2 : Option Value} {w : Value} : mw d 54 Q 4 [x0, some w, x2] (st) h = mv_i w (mw d 54 Q 5 [x0, some w, x2] (w :: st) h) := (mw_at mj_54_4).trans (z_iload_n rfl)
theorem mj_54_5 : mc_P 54 5 = some (.putfield 121, 3, 9, 5, 0) := by decide +kernel
theorem s_54_5 {x0 x1 x2 : Option Value} {o : Nat} {w : Int32} : mw d 54 Q 5 [x0, x1, x2] (.int w :: .ref o :: st) h = (mg h o 9 ∧ mw d 54 Q 8 [x0, x1, x2] (st) (mh_si h o 5 w)) := (mw_at mj_54_5).trans (z_puti (by decide) (by decide) rfl)
theorem mj_54_8 : mc_P 54 8 = some (.aload_n 0, 1, 0, 0, 0) := by decide +kernel
theorem s_54_8 {x1 x2 : Option Value} {w : Value} : mw d 54 Q 8 [some w, x1, x2] (st) h = mv_a w (mw d 54 Q 9 [some w, x1, x2] (w :: st) h) := (mw_at mj_54_8).trans (z_aload_n rfl)
theorem mj_54_9 : mc_P 54 9 = some (.getfield 117, 3, 3, 8, 0) := by decide +kernel
theorem s_54_9 {x0 x1 x2 : Option Value} {o : Nat} : mw d 54 Q 9 [x0, x1, x2] (.ref o :: st) h = (mg h o 3 ∧ mw d 54 Q 12 [x0, x1, x2] (va_rf (mh_r h o 8) :: st) h) := (mw_at mj_54_9).trans (z_getr (by decide) (by decide) rfl)
theorem mj_54_12 : mc_P 54 12 = some (.iload_n 2, 1, 0, 0, 0) := by decide +kernel
theorem s_54_12 {x0 x1 : Option Value} {w : Value} : mw d 54 Q 12 [x0, x1, some w] (st) h = mv_i w (mw d 54 Q 13 [x0, x1, some w] (w :: st) h) := (mw_at mj_54_12).trans (z_iload_n rfl)
theorem mj_54_13 : mc_P 54 13 = some (.putfield 129, 3, 9, 6, 0) := by decide +kernel
theorem s_54_13 {x0 x1 x2 : Option Value} {o : Nat} {w : Int32} : mw d 54 Q 13 [x0, x1, x2] (.int w :: .ref o :: st) h = (mg h o 9 ∧ mw d 54 Q 16 [x0, x1, x2] (st) (mh_si h o 6 w)) := (mw_at mj_54_13).trans (z_puti (by decide) (by decide) rfl)
theorem mj_54_16 : mc_P 54 16 = some (.return_, 1, 0, 0, 0) := by decide +kernel
theorem s_54_16 {x0 x1 x2 : Option Value} : mw d 54 Q 16 [x0, x1, x2] ([]) h = Q none h := (mw_at mj_54_16).trans (z_vret)
theorem e_54 {a0 : Nat} {a1 : Int32} {a2 : Int32} : mcall d 54 [.ref a0, .int a1, .int a2] h Q = mw d 54 Q 0 [some (.ref a0), some (.int a1), some (.int a2)] [] h := by
  show mw d 54 Q 0 (me_en (mc_nl 54) _) [] h = _
  rw [nl_54]; rfl

/-! InvariantDesk$Parser.readBlock(II)V -/
theorem mj_56_0 : mc_P 56 0 = some (.iload_n 1, 1, 0, 0, 0) := by decide +kernel
theorem s_56_0 {x0 x2 : Option Value} {w : Value} : mw d 56 Q 0 [x0, some w, x2] (st) h = mv_i w (mw d 56 Q 1 [x0, some w, x2] (w :: st) h) := (mw_at mj_56_0).trans (z_iload_n rfl)
theorem mj_56_1 : mc_P 56 1 = some (.sipush 147, 3, 0, 0, 0) := by decide +kernel
theorem s_56_1 {x0 x1 x2 : Option Value} : mw d 56 Q 1 [x0, x1, x2] (st) h = mw d 56 Q 4 [x0, x1, x2] (.int 147 :: st) h := (mw_at mj_56_1).trans (z_sipush (by decide))
theorem mj_56_4 : mc_P 56 4 = some (.if_icmp .ne 37, 3, 0, 0, 0) := by decide +kernel
theorem s_56_4 {x0 x1 x2 : Option Value} {x w : Int32} : mw d 56 Q 4 [x0, x1, x2] (.int w :: .int x :: st) h = mB (¬ x = w) (mw d 56 Q) 41 7 [x0, x1, x2] st h := (mw_at mj_56_4).trans (z_icmp_ne (by decide) rfl)
theorem mj_56_7 : mc_P 56 7 = some (.aload_n 0, 1, 0, 0, 0) := by decide +kernel
theorem s_56_7 {x1 x2 : Option Value} {w : Value} : mw d 56 Q 7 [some w, x1, x2] (st) h = mv_a w (mw d 56 Q 8 [some w, x1, x2] (w :: st) h) := (mw_at mj_56_7).trans (z_aload_n rfl)
theorem mj_56_8 : mc_P 56 8 = some (.invokevirtual 152, 3, 52, 3, 1) := by decide +kernel
theorem s_56_8 {x0 x1 x2 : Option Value} {o : Nat} : mw (d + 1) 56 Q 8 [x0, x1, x2] (.ref o :: st) h = (mg h o 3 ∧ mca st 8 ∧ mca [.ref o] 1 ∧ mcall d 52 [.ref o] h (mK (d + 1) 56 Q 11 [x0, x1, x2] st)) := (mw_at mj_56_8).trans ((z_invv (As := []) (by decide) rfl rfl).trans (congrArg (And _) (congrArg (And _) (mC_nl nl_52))))
theorem mj_56_11 : mc_P 56 11 = some (.ifCond .eq 83, 3, 0, 0, 0) := by decide +kernel
theorem s_56_11 {x0 x1 x2 : Option Value} {x : Int32} : mw d 56 Q 11 [x0, x1, x2] (.int x :: st) h = mB (x = 0) (mw d 56 Q) 94 14 [x0, x1, x2] st h := (mw_at mj_56_11).trans (z_if_eq (by decide) rfl)
theorem mj_56_14 : mc_P 56 14 = some (.iload_n 2, 1, 0, 0, 0) := by decide +kernel
theorem s_56_14 {x0 x1 : Option Value} {w : Value} : mw d 56 Q 14 [x0, x1, some w] (st) h = mv_i w (mw d 56 Q 15 [x0, x1, some w] (w :: st) h) := (mw_at mj_56_14).trans (z_iload_n rfl)
theorem mj_56_15 : mc_P 56 15 = some (.ifCond .ne 10, 3, 0, 0, 0) := by decide +kernel
theorem s_56_15 {x0 x1 x2 : Option Value} {x : Int32} : mw d 56 Q 15 [x0, x1, x2] (.int x :: st) h = mB (¬ x = 0) (mw d 56 Q) 25 18 [x0, x1, x2] st h := (mw_at mj_56_15).trans (z_if_ne (by decide) rfl)
theorem mj_56_18 : mc_P 56 18 = some (.aload_n 0, 1, 0, 0, 0) := by decide +kernel
theorem s_56_18 {x1 x2 : Option Value} {w : Value} : mw d 56 Q 18 [some w, x1, x2] (st) h = mv_a w (mw d 56 Q 19 [some w, x1, x2] (w :: st) h) := (mw_at mj_56_18).trans (z_aload_n rfl)
theorem mj_56_19 : mc_P 56 19 = some (.getfield 32, 3, 3, 2, 0) := by decide +kernel
theorem s_56_19 {x0 x1 x2 : Option Value} {o : Nat} : mw d 56 Q 19 [x0, x1, x2] (.ref o :: st) h = (mg h o 3 ∧ mw d 56 Q 22 [x0, x1, x2] (va_rf (mh_r h o 2) :: st) h) := (mw_at mj_56_19).trans (z_getr (by decide) (by decide) rfl)
theorem mj_56_22 : mc_P 56 22 = some (.invokevirtual 135, 3, 117, 6, 1) := by decide +kernel
theorem s_56_22 {x0 x1 x2 : Option Value} {o : Nat} : mw (d + 1) 56 Q 22 [x0, x1, x2] (.ref o :: st) h = (mg h o 6 ∧ mca st 8 ∧ mca [.ref o] 1 ∧ mcall d 117 [.ref o] h (mK (d + 1) 56 Q 25 [x0, x1, x2] st)) := (mw_at mj_56_22).trans ((z_invv (As := []) (by decide) rfl rfl).trans (congrArg (And _) (congrArg (And _) (mC_nl nl_117))))
theorem mj_56_25 : mc_P 56 25 = some (.aload_n 0, 1, 0, 0, 0) := by decide +kernel
theorem s_56_25 {x1 x2 : Option Value} {w : Value} : mw d 56 Q 25 [some w, x1, x2] (st) h = mv_a w (mw d 56 Q 26 [some w, x1, x2] (w :: st) h) := (mw_at mj_56_25).trans (z_aload_n rfl)
theorem mj_56_26 : mc_P 56 26 = some (.sipush 148, 3, 0, 0, 0) := by decide +kernel
theorem s_56_26 {x0 x1 x2 : Option Value} : mw d 56 Q 26 [x0, x1, x2] (st) h = mw d 56 Q 29 [x0, x1, x2] (.int 148 :: st) h := (mw_at mj_56_26).trans (z_sipush (by decide))
theorem mj_56_29 : mc_P 56 29 = some (.invokevirtual 51, 3, 45, 3, 2) := by decide +kernel
theorem s_56_29 {x0 x1 x2 : Option Value} {o : Nat} {a1 : Value} : mw (d + 1) 56 Q 29 [x0, x1, x2] (a1 :: .ref o :: st) h = (mg h o 3 ∧ mca st 8 ∧ mca [.ref o, a1] 2 ∧ mcall d 45 [.ref o, a1] h (mK (d + 1) 56 Q 32 [x0, x1, x2] st)) := (mw_at mj_56_29).trans ((z_invv (As := [a1]) (by decide) rfl rfl).trans (congrArg (And _) (congrArg (And _) (mC_nl nl_45))))
theorem mj_56_32 : mc_P 56 32 = some (.aload_n 0, 1, 0, 0, 0) := by decide +kernel
theorem s_56_32 {x1 x2 : Option Value} {w : Value} : mw d 56 Q 32 [some w, x1, x2] (st) h = mv_a w (mw d 56 Q 33 [some w, x1, x2] (w :: st) h) := (mw_at mj_56_32).trans (z_aload_n rfl)
theorem mj_56_33 : mc_P 56 33 = some (.bipush 123, 2, 0, 0, 0) := by decide +kernel
theorem s_56_33 {x0 x1 x2 : Option Value} : mw d 56 Q 33 [x0, x1, x2] (st) h = mw d 56 Q 35 [x0, x1, x2] (.int 123 :: st) h := (mw_at mj_56_33).trans (z_bipush (by decide))
theorem mj_56_35 : mc_P 56 35 = some (.invokevirtual 59, 3, 51, 3, 2) := by decide +kernel
theorem s_56_35 {x0 x1 x2 : Option Value} {o : Nat} {a1 : Value} : mw (d + 1) 56 Q 35 [x0, x1, x2] (a1 :: .ref o :: st) h = (mg h o 3 ∧ mca st 8 ∧ mca [.ref o, a1] 2 ∧ mcall d 51 [.ref o, a1] h (mK (d + 1) 56 Q 38 [x0, x1, x2] st)) := (mw_at mj_56_35).trans ((z_invv (As := [a1]) (by decide) rfl rfl).trans (congrArg (And _) (congrArg (And _) (mC_nl nl_51))))
theorem mj_56_38 : mc_P 56 38 = some (.goto 56, 3, 0, 0, 0) := by decide +kernel
theorem s_56_38 {x0 x1 x2 : Option Value} : mw d 56 Q 38 [x0, x1, x2] (st) h = mw d 56 Q 94 [x0, x1, x2] (st) h := (mw_at mj_56_38).trans (z_goto (by decide))
theorem mj_56_41 : mc_P 56 41 = some (.aload_n 0, 1, 0, 0, 0) := by decide +kernel
theorem s_56_41 {x1 x2 : Option Value} {w : Value} : mw d 56 Q 41 [some w, x1, x2] (st) h = mv_a w (mw d 56 Q 42 [some w, x1, x2] (w :: st) h) := (mw_at mj_56_41).trans (z_aload_n rfl)
theorem mj_56_42 : mc_P 56 42 = some (.invokevirtual 108, 3, 47, 3, 1) := by decide +kernel
theorem s_56_42 {x0 x1 x2 : Option Value} {o : Nat} : mw (d + 1) 56 Q 42 [x0, x1, x2] (.ref o :: st) h = (mg h o 3 ∧ mca st 8 ∧ mca [.ref o] 1 ∧ mcall d 47 [.ref o] h (mK (d + 1) 56 Q 45 [x0, x1, x2] st)) := (mw_at mj_56_42).trans ((z_invv (As := []) (by decide) rfl rfl).trans (congrArg (And _) (congrArg (And _) (mC_nl nl_47))))
theorem mj_56_45 : mc_P 56 45 = some (.bipush 125, 2, 0, 0, 0) := by decide +kernel
theorem s_56_45 {x0 x1 x2 : Option Value} : mw d 56 Q 45 [x0, x1, x2] (st) h = mw d 56 Q 47 [x0, x1, x2] (.int 125 :: st) h := (mw_at mj_56_45).trans (z_bipush (by decide))
theorem mj_56_47 : mc_P 56 47 = some (.if_icmp .ne 33, 3, 0, 0, 0) := by decide +kernel
theorem s_56_47 {x0 x1 x2 : Option Value} {x w : Int32} : mw d 56 Q 47 [x0, x1, x2] (.int w :: .int x :: st) h = mB (¬ x = w) (mw d 56 Q) 80 50 [x0, x1, x2] st h := (mw_at mj_56_47).trans (z_icmp_ne (by decide) rfl)
theorem mj_56_50 : mc_P 56 50 = some (.aload_n 0, 1, 0, 0, 0) := by decide +kernel
theorem s_56_50 {x1 x2 : Option Value} {w : Value} : mw d 56 Q 50 [some w, x1, x2] (st) h = mv_a w (mw d 56 Q 51 [some w, x1, x2] (w :: st) h) := (mw_at mj_56_50).trans (z_aload_n rfl)
theorem mj_56_51 : mc_P 56 51 = some (.dup, 1, 0, 0, 0) := by decide +kernel
theorem s_56_51 {x0 x1 x2 : Option Value} {w : Value} : mw d 56 Q 51 [x0, x1, x2] (w :: st) h = (w.category = 1 ∧ mw d 56 Q 52 [x0, x1, x2] (w :: w :: st) h) := (mw_at mj_56_51).trans (z_dup)
theorem mj_56_52 : mc_P 56 52 = some (.getfield 95, 3, 3, 5, 0) := by decide +kernel
theorem s_56_52 {x0 x1 x2 : Option Value} {o : Nat} : mw d 56 Q 52 [x0, x1, x2] (.ref o :: st) h = (mg h o 3 ∧ mw d 56 Q 55 [x0, x1, x2] (.int (mh_i h o 5) :: st) h) := (mw_at mj_56_52).trans (z_geti (by decide) (by decide) (Or.inl rfl))
theorem mj_56_55 : mc_P 56 55 = some (.iconst 1, 1, 0, 0, 0) := by decide +kernel
theorem s_56_55 {x0 x1 x2 : Option Value} : mw d 56 Q 55 [x0, x1, x2] (st) h = mw d 56 Q 56 [x0, x1, x2] (.int 1 :: st) h := (mw_at mj_56_55).trans (z_iconst (by decide))
theorem mj_56_56 : mc_P 56 56 = some (.iadd, 1, 0, 0, 0) := by decide +kernel
theorem s_56_56 {x0 x1 x2 : Option Value} {x w : Int32} : mw d 56 Q 56 [x0, x1, x2] (.int w :: .int x :: st) h = mw d 56 Q 57 [x0, x1, x2] (.int (x + w) :: st) h := (mw_at mj_56_56).trans (z_iadd)
theorem mj_56_57 : mc_P 56 57 = some (.putfield 95, 3, 3, 5, 0) := by decide +kernel
theorem s_56_57 {x0 x1 x2 : Option Value} {o : Nat} {w : Int32} : mw d 56 Q 57 [x0, x1, x2] (.int w :: .ref o :: st) h = (mg h o 3 ∧ mw d 56 Q 60 [x0, x1, x2] (st) (mh_si h o 5 w)) := (mw_at mj_56_57).trans (z_puti (by decide) (by decide) rfl)
theorem mj_56_60 : mc_P 56 60 = some (.aload_n 0, 1, 0, 0, 0) := by decide +kernel
theorem s_56_60 {x1 x2 : Option Value} {w : Value} : mw d 56 Q 60 [some w, x1, x2] (st) h = mv_a w (mw d 56 Q 61 [some w, x1, x2] (w :: st) h) := (mw_at mj_56_60).trans (z_aload_n rfl)
theorem mj_56_61 : mc_P 56 61 = some (.dup, 1, 0, 0, 0) := by decide +kernel
theorem s_56_61 {x0 x1 x2 : Option Value} {w : Value} : mw d 56 Q 61 [x0, x1, x2] (w :: st) h = (w.category = 1 ∧ mw d 56 Q 62 [x0, x1, x2] (w :: w :: st) h) := (mw_at mj_56_61).trans (z_dup)
theorem mj_56_62 : mc_P 56 62 = some (.getfield 114, 3, 3, 6, 0) := by decide +kernel
theorem s_56_62 {x0 x1 x2 : Option Value} {o : Nat} : mw d 56 Q 62 [x0, x1, x2] (.ref o :: st) h = (mg h o 3 ∧ mw d 56 Q 65 [x0, x1, x2] (.int (mh_i h o 6) :: st) h) := (mw_at mj_56_62).trans (z_geti (by decide) (by decide) (Or.inl rfl))
theorem mj_56_65 : mc_P 56 65 = some (.iconst 1, 1, 0, 0, 0) := by decide +kernel
theorem s_56_65 {x0 x1 x2 : Option Value} : mw d 56 Q 65 [x0, x1, x2] (st) h = mw d 56 Q 66 [x0, x1, x2] (.int 1 :: st) h := (mw_at mj_56_65).trans (z_iconst (by decide))
theorem mj_56_66 : mc_P 56 66 = some (.isub, 1, 0, 0, 0) := by decide +kernel
theorem s_56_66 {x0 x1 x2 : Option Value} {x w : Int32} : mw d 56 Q 66 [x0, x1, x2] (.int w :: .int x :: st) h = mw d 56 Q 67 [x0, x1, x2] (.int (x - w) :: st) h := (mw_at mj_56_66).trans (z_isub)
theorem mj_56_67 : mc_P 56 67 = some (.putfield 114, 3, 3, 6, 0) := by decide +kernel
theorem s_56_67 {x0 x1 x2 : Option Value} {o : Nat} {w : Int32} : mw d 56 Q 67 [x0, x1, x2] (.int w :: .ref o :: st) h = (mg h o 3 ∧ mw d 56 Q 70 [x0, x1, x2] (st) (mh_si h o 6 w)) := (mw_at mj_56_67).trans (z_puti (by decide) (by decide) rfl)
theorem mj_56_70 : mc_P 56 70 = some (.aload_n 0, 1, 0, 0, 0) := by decide +kernel
theorem s_56_70 {x1 x2 : Option Value} {w : Value} : mw d 56 Q 70 [some w, x1, x2] (st) h = mv_a w (mw d 56 Q 71 [some w, x1, x2] (w :: st) h) := (mw_at mj_56_70).trans (z_aload_n rfl)
theorem mj_56_71 : mc_P 56 71 = some (.getfield 32, 3, 3, 2, 0) := by decide +kernel
theorem s_56_71 {x0 x1 x2 : Option Value} {o : Nat} : mw d 56 Q 71 [x0, x1, x2] (.ref o :: st) h = (mg h o 3 ∧ mw d 56 Q 74 [x0, x1, x2] (va_rf (mh_r h o 2) :: st) h) := (mw_at mj_56_71).trans (z_getr (by decide) (by decide) rfl)
theorem mj_56_74 : mc_P 56 74 = some (.invokevirtual 156, 3, 118, 6, 1) := by decide +kernel
theorem s_56_74 {x0 x1 x2 : Option Value} {o : Nat} : mw (d + 1) 56 Q 74 [x0, x1, x2] (.ref o :: st) h = (mg h o 6 ∧ mca st 8 ∧ mca [.ref o] 2 ∧ mcall d 118 [.ref o] h (mK (d + 1) 56 Q 77 [x0, x1, x2] st)) := (mw_at mj_56_74).trans ((z_invv (As := []) (by decide) rfl rfl).trans (congrArg (And _) (congrArg (And _) (mC_nl nl_118))))
theorem mj_56_77 : mc_P 56 77 = some (.goto 17, 3, 0, 0, 0) := by decide +kernel
theorem s_56_77 {x0 x1 x2 : Option Value} : mw d 56 Q 77 [x0, x1, x2] (st) h = mw d 56 Q 94 [x0, x1, x2] (st) h := (mw_at mj_56_77).trans (z_goto (by decide))
theorem mj_56_80 : mc_P 56 80 = some (.aload_n 0, 1, 0, 0, 0) := by decide +kernel
theorem s_56_80 {x1 x2 : Option Value} {w : Value} : mw d 56 Q 80 [some w, x1, x2] (st) h = mv_a w (mw d 56 Q 81 [some w, x1, x2] (w :: st) h) := (mw_at mj_56_80).trans (z_aload_n rfl)
theorem mj_56_81 : mc_P 56 81 = some (.sipush 148, 3, 0, 0, 0) := by decide +kernel
theorem s_56_81 {x0 x1 x2 : Option Value} : mw d 56 Q 81 [x0, x1, x2] (st) h = mw d 56 Q 84 [x0, x1, x2] (.int 148 :: st) h := (mw_at mj_56_81).trans (z_sipush (by decide))
theorem mj_56_84 : mc_P 56 84 = some (.invokevirtual 51, 3, 45, 3, 2) := by decide +kernel
theorem s_56_84 {x0 x1 x2 : Option Value} {o : Nat} {a1 : Value} : mw (d + 1) 56 Q 84 [x0, x1, x2] (a1 :: .ref o :: st) h = (mg h o 3 ∧ mca st 8 ∧ mca [.ref o, a1] 2 ∧ mcall d 45 [.ref o, a1] h (mK (d + 1) 56 Q 87 [x0, x1, x2] st)) := (mw_at mj_56_84).trans ((z_invv (As := [a1]) (by decide) rfl rfl).trans (congrArg (And _) (congrArg (And _) (mC_nl nl_45))))
theorem mj_56_87 : mc_P 56 87 = some (.aload_n 0, 1, 0, 0, 0) := by decide +kernel
theorem s_56_87 {x1 x2 : Option Value} {w : Value} : mw d 56 Q 87 [some w, x1, x2] (st) h = mv_a w (mw d 56 Q 88 [some w, x1, x2] (w :: st) h) := (mw_at mj_56_87).trans (z_aload_n rfl)
theorem mj_56_88 : mc_P 56 88 = some (.sipush 149, 3, 0, 0, 0) := by decide +kernel
theorem s_56_88 {x0 x1 x2 : Option Value} : mw d 56 Q 88 [x0, x1, x2] (st) h = mw d 56 Q 91 [x0, x1, x2] (.int 149 :: st) h := (mw_at mj_56_88).trans (z_sipush (by decide))
theorem mj_56_91 : mc_P 56 91 = some (.invokevirtual 51, 3, 45, 3, 2) := by decide +kernel
theorem s_56_91 {x0 x1 x2 : Option Value} {o : Nat} {a1 : Value} : mw (d + 1) 56 Q 91 [x0, x1, x2] (a1 :: .ref o :: st) h = (mg h o 3 ∧ mca st 8 ∧ mca [.ref o, a1] 2 ∧ mcall d 45 [.ref o, a1] h (mK (d + 1) 56 Q 94 [x0, x1, x2] st)) := (mw_at mj_56_91).trans ((z_invv (As := [a1]) (by decide) rfl rfl).trans (congrArg (And _) (congrArg (And _) (mC_nl nl_45))))
theorem mj_56_94 : mc_P 56 94 = some (.return_, 1, 0, 0, 0) := by decide +kernel
theorem s_56_94 {x0 x1 x2 : Option Value} : mw d 56 Q 94 [x0, x1, x2] ([]) h = Q none h := (mw_at mj_56_94).trans (z_vret)
theorem e_56 {a0 : Nat} {a1 : Int32} {a2 : Int32} : mcall d 56 [.ref a0, .int a1, .int a2] h Q = mw d 56 Q 0 [some (.ref a0), some (.int a1), some (.int a2)] [] h := by
  show mw d 56 Q 0 (me_en (mc_nl 56) _) [] h = _
  rw [nl_56]; rfl

/-! InvariantDesk$Parser.begin(I)V -/
theorem mj_57_0 : mc_P 57 0 = some (.aload_n 0, 1, 0, 0, 0) := by decide +kernel
theorem s_57_0 {x1 : Option Value} {w : Value} : mw d 57 Q 0 [some w, x1] (st) h = mv_a w (mw d 57 Q 1 [some w, x1] (w :: st) h) := (mw_at mj_57_0).trans (z_aload_n rfl)
theorem mj_57_1 : mc_P 57 1 = some (.aload_n 0, 1, 0, 0, 0) := by decide +kernel
theorem s_57_1 {x1 : Option Value} {w : Value} : mw d 57 Q 1 [some w, x1] (st) h = mv_a w (mw d 57 Q 2 [some w, x1] (w :: st) h) := (mw_at mj_57_1).trans (z_aload_n rfl)
theorem mj_57_2 : mc_P 57 2 = some (.getfield 23, 3, 3, 1, 0) := by decide +kernel
theorem s_57_2 {x0 x1 : Option Value} {o : Nat} : mw d 57 Q 2 [x0, x1] (.ref o :: st) h = (mg h o 3 ∧ mw d 57 Q 5 [x0, x1] (va_rf (mh_r h o 1) :: st) h) := (mw_at mj_57_2).trans (z_getr (by decide) (by decide) rfl)
theorem mj_57_5 : mc_P 57 5 = some (.iload_n 1, 1, 0, 0, 0) := by decide +kernel
theorem s_57_5 {x0 : Option Value} {w : Value} : mw d 57 Q 5 [x0, some w] (st) h = mv_i w (mw d 57 Q 6 [x0, some w] (w :: st) h) := (mw_at mj_57_5).trans (z_iload_n rfl)
theorem mj_57_6 : mc_P 57 6 = some (.aload_n 0, 1, 0, 0, 0) := by decide +kernel
theorem s_57_6 {x1 : Option Value} {w : Value} : mw d 57 Q 6 [some w, x1] (st) h = mv_a w (mw d 57 Q 7 [some w, x1] (w :: st) h) := (mw_at mj_57_6).trans (z_aload_n rfl)
theorem mj_57_7 : mc_P 57 7 = some (.invokevirtual 104, 3, 49, 3, 1) := by decide +kernel
theorem s_57_7 {x0 x1 : Option Value} {o : Nat} : mw (d + 1) 57 Q 7 [x0, x1] (.ref o :: st) h = (mg h o 3 ∧ mca st 8 ∧ mca [.ref o] 1 ∧ mcall d 49 [.ref o] h (mK (d + 1) 57 Q 10 [x0, x1] st)) := (mw_at mj_57_7).trans ((z_invv (As := []) (by decide) rfl rfl).trans (congrArg (And _) (congrArg (And _) (mC_nl nl_49))))
theorem mj_57_10 : mc_P 57 10 = some (.aload_n 0, 1, 0, 0, 0) := by decide +kernel
theorem s_57_10 {x1 : Option Value} {w : Value} : mw d 57 Q 10 [some w, x1] (st) h = mv_a w (mw d 57 Q 11 [some w, x1] (w :: st) h) := (mw_at mj_57_10).trans (z_aload_n rfl)
theorem mj_57_11 : mc_P 57 11 = some (.getfield 32, 3, 3, 2, 0) := by decide +kernel
theorem s_57_11 {x0 x1 : Option Value} {o : Nat} : mw d 57 Q 11 [x0, x1] (.ref o :: st) h = (mg h o 3 ∧ mw d 57 Q 14 [x0, x1] (va_rf (mh_r h o 2) :: st) h) := (mw_at mj_57_11).trans (z_getr (by decide) (by decide) rfl)
theorem mj_57_14 : mc_P 57 14 = some (.getfield 159, 3, 6, 7, 0) := by decide +kernel
theorem s_57_14 {x0 x1 : Option Value} {o : Nat} : mw d 57 Q 14 [x0, x1] (.ref o :: st) h = (mg h o 6 ∧ mw d 57 Q 17 [x0, x1] (.int (mh_i h o 7) :: st) h) := (mw_at mj_57_14).trans (z_geti (by decide) (by decide) (Or.inl rfl))
theorem mj_57_17 : mc_P 57 17 = some (.aload_n 0, 1, 0, 0, 0) := by decide +kernel
theorem s_57_17 {x1 : Option Value} {w : Value} : mw d 57 Q 17 [some w, x1] (st) h = mv_a w (mw d 57 Q 18 [some w, x1] (w :: st) h) := (mw_at mj_57_17).trans (z_aload_n rfl)
theorem mj_57_18 : mc_P 57 18 = some (.getfield 32, 3, 3, 2, 0) := by decide +kernel
theorem s_57_18 {x0 x1 : Option Value} {o : Nat} : mw d 57 Q 18 [x0, x1] (.ref o :: st) h = (mg h o 3 ∧ mw d 57 Q 21 [x0, x1] (va_rf (mh_r h o 2) :: st) h) := (mw_at mj_57_18).trans (z_getr (by decide) (by decide) rfl)
theorem mj_57_21 : mc_P 57 21 = some (.getfield 162, 3, 6, 8, 0) := by decide +kernel
theorem s_57_21 {x0 x1 : Option Value} {o : Nat} : mw d 57 Q 21 [x0, x1] (.ref o :: st) h = (mg h o 6 ∧ mw d 57 Q 24 [x0, x1] (.int (mh_i h o 8) :: st) h) := (mw_at mj_57_21).trans (z_geti (by decide) (by decide) (Or.inl rfl))
theorem mj_57_24 : mc_P 57 24 = some (.invokevirtual 165, 3, 132, 7, 5) := by decide +kernel
theorem s_57_24 {x0 x1 : Option Value} {o : Nat} {a1 a2 a3 a4 : Value} : mw (d + 1) 57 Q 24 [x0, x1] (a4 :: a3 :: a2 :: a1 :: .ref o :: st) h = (mg h o 7 ∧ mca st 8 ∧ mca [.ref o, a1, a2, a3, a4] 6 ∧ mcall d 132 [.ref o, a1, a2, a3, a4] h (mK (d + 1) 57 Q 27 [x0, x1] st)) := (mw_at mj_57_24).trans ((z_invv (As := [a1, a2, a3, a4]) (by decide) rfl rfl).trans (congrArg (And _) (congrArg (And _) (mC_nl nl_132))))
theorem mj_57_27 : mc_P 57 27 = some (.putfield 117, 3, 3, 8, 0) := by decide +kernel
theorem s_57_27 {x0 x1 : Option Value} {o w : Nat} : mw d 57 Q 27 [x0, x1] (.ref w :: .ref o :: st) h = (mg h o 3 ∧ mw d 57 Q 30 [x0, x1] (st) (mh_sr h o 8 (some w))) := (mw_at mj_57_27).trans (z_putr (by decide) (by decide) rfl)
theorem s_57_27n {x0 x1 : Option Value} {o : Nat} : mw d 57 Q 27 [x0, x1] (.null :: .ref o :: st) h = (mg h o 3 ∧ mw d 57 Q 30 [x0, x1] (st) (mh_sr h o 8 none)) := (mw_at mj_57_27).trans (z_putn (by decide) (by decide) rfl)
theorem mj_57_30 : mc_P 57 30 = some (.return_, 1, 0, 0, 0) := by decide +kernel
theorem s_57_30 {x0 x1 : Option Value} : mw d 57 Q 30 [x0, x1] ([]) h = Q none h := (mw_at mj_57_30).trans (z_vret)
theorem e_57 {a0 : Nat} {a1 : Int32} : mcall d 57 [.ref a0, .int a1] h Q = mw d 57 Q 0 [some (.ref a0), some (.int a1)] [] h := by
  show mw d 57 Q 0 (me_en (mc_nl 57) _) [] h = _
  rw [nl_57]; rfl

/-! InvariantDesk$Parser.beginStatement()V -/
theorem mj_58_0 : mc_P 58 0 = some (.aload_n 0, 1, 0, 0, 0) := by decide +kernel
theorem s_58_0 {w : Value} : mw d 58 Q 0 [some w] (st) h = mv_a w (mw d 58 Q 1 [some w] (w :: st) h) := (mw_at mj_58_0).trans (z_aload_n rfl)
theorem mj_58_1 : mc_P 58 1 = some (.invokevirtual 108, 3, 47, 3, 1) := by decide +kernel
theorem s_58_1 {x0 : Option Value} {o : Nat} : mw (d + 1) 58 Q 1 [x0] (.ref o :: st) h = (mg h o 3 ∧ mca st 8 ∧ mca [.ref o] 1 ∧ mcall d 47 [.ref o] h (mK (d + 1) 58 Q 4 [x0] st)) := (mw_at mj_58_1).trans ((z_invv (As := []) (by decide) rfl rfl).trans (congrArg (And _) (congrArg (And _) (mC_nl nl_47))))
theorem mj_58_4 : mc_P 58 4 = some (.tableswitch 182 2 10 #[84, 182, 182, 52, 91, 182, 102, 114, 143], 52, 0, 0, 0) := by decide +kernel
theorem s_58_4 {x0 : Option Value} {x : Int32} : mw d 58 Q 4 [x0] (.int x :: st) h = mS x (mw d 58 Q) 186 [x0] st h [(2, 88), (3, 186), (4, 186), (5, 56), (6, 95), (7, 186), (8, 106), (9, 118), (10, 147)] := (mw_at mj_58_4).trans (z_tab (by decide) (by decide) (by decide +kernel))
theorem mj_58_56 : mc_P 58 56 = some (.aload_n 0, 1, 0, 0, 0) := by decide +kernel
theorem s_58_56 {w : Value} : mw d 58 Q 56 [some w] (st) h = mv_a w (mw d 58 Q 57 [some w] (w :: st) h) := (mw_at mj_58_56).trans (z_aload_n rfl)
theorem mj_58_57 : mc_P 58 57 = some (.iconst 1, 1, 0, 0, 0) := by decide +kernel
theorem s_58_57 {x0 : Option Value} : mw d 58 Q 57 [x0] (st) h = mw d 58 Q 58 [x0] (.int 1 :: st) h := (mw_at mj_58_57).trans (z_iconst (by decide))
theorem mj_58_58 : mc_P 58 58 = some (.invokevirtual 169, 3, 57, 3, 2) := by decide +kernel
theorem s_58_58 {x0 : Option Value} {o : Nat} {a1 : Value} : mw (d + 1) 58 Q 58 [x0] (a1 :: .ref o :: st) h = (mg h o 3 ∧ mca st 8 ∧ mca [.ref o, a1] 2 ∧ mcall d 57 [.ref o, a1] h (mK (d + 1) 58 Q 61 [x0] st)) := (mw_at mj_58_58).trans ((z_invv (As := [a1]) (by decide) rfl rfl).trans (congrArg (And _) (congrArg (And _) (mC_nl nl_57))))
theorem mj_58_61 : mc_P 58 61 = some (.aload_n 0, 1, 0, 0, 0) := by decide +kernel
theorem s_58_61 {w : Value} : mw d 58 Q 61 [some w] (st) h = mv_a w (mw d 58 Q 62 [some w] (w :: st) h) := (mw_at mj_58_61).trans (z_aload_n rfl)
theorem mj_58_62 : mc_P 58 62 = some (.dup, 1, 0, 0, 0) := by decide +kernel
theorem s_58_62 {x0 : Option Value} {w : Value} : mw d 58 Q 62 [x0] (w :: st) h = (w.category = 1 ∧ mw d 58 Q 63 [x0] (w :: w :: st) h) := (mw_at mj_58_62).trans (z_dup)
theorem mj_58_63 : mc_P 58 63 = some (.getfield 95, 3, 3, 5, 0) := by decide +kernel
theorem s_58_63 {x0 : Option Value} {o : Nat} : mw d 58 Q 63 [x0] (.ref o :: st) h = (mg h o 3 ∧ mw d 58 Q 66 [x0] (.int (mh_i h o 5) :: st) h) := (mw_at mj_58_63).trans (z_geti (by decide) (by decide) (Or.inl rfl))
theorem mj_58_66 : mc_P 58 66 = some (.iconst 1, 1, 0, 0, 0) := by decide +kernel
theorem s_58_66 {x0 : Option Value} : mw d 58 Q 66 [x0] (st) h = mw d 58 Q 67 [x0] (.int 1 :: st) h := (mw_at mj_58_66).trans (z_iconst (by decide))
theorem mj_58_67 : mc_P 58 67 = some (.iadd, 1, 0, 0, 0) := by decide +kernel
theorem s_58_67 {x0 : Option Value} {x w : Int32} : mw d 58 Q 67 [x0] (.int w :: .int x :: st) h = mw d 58 Q 68 [x0] (.int (x + w) :: st) h := (mw_at mj_58_67).trans (z_iadd)
theorem mj_58_68 : mc_P 58 68 = some (.putfield 95, 3, 3, 5, 0) := by decide +kernel
theorem s_58_68 {x0 : Option Value} {o : Nat} {w : Int32} : mw d 58 Q 68 [x0] (.int w :: .ref o :: st) h = (mg h o 3 ∧ mw d 58 Q 71 [x0] (st) (mh_si h o 5 w)) := (mw_at mj_58_68).trans (z_puti (by decide) (by decide) rfl)
theorem mj_58_71 : mc_P 58 71 = some (.aload_n 0, 1, 0, 0, 0) := by decide +kernel
theorem s_58_71 {w : Value} : mw d 58 Q 71 [some w] (st) h = mv_a w (mw d 58 Q 72 [some w] (w :: st) h) := (mw_at mj_58_71).trans (z_aload_n rfl)
theorem mj_58_72 : mc_P 58 72 = some (.sipush 151, 3, 0, 0, 0) := by decide +kernel
theorem s_58_72 {x0 : Option Value} : mw d 58 Q 72 [x0] (st) h = mw d 58 Q 75 [x0] (.int 151 :: st) h := (mw_at mj_58_72).trans (z_sipush (by decide))
theorem mj_58_75 : mc_P 58 75 = some (.invokevirtual 51, 3, 45, 3, 2) := by decide +kernel
theorem s_58_75 {x0 : Option Value} {o : Nat} {a1 : Value} : mw (d + 1) 58 Q 75 [x0] (a1 :: .ref o :: st) h = (mg h o 3 ∧ mca st 8 ∧ mca [.ref o, a1] 2 ∧ mcall d 45 [.ref o, a1] h (mK (d + 1) 58 Q 78 [x0] st)) := (mw_at mj_58_75).trans ((z_invv (As := [a1]) (by decide) rfl rfl).trans (congrArg (And _) (congrArg (And _) (mC_nl nl_45))))
theorem mj_58_78 : mc_P 58 78 = some (.aload_n 0, 1, 0, 0, 0) := by decide +kernel
theorem s_58_78 {w : Value} : mw d 58 Q 78 [some w] (st) h = mv_a w (mw d 58 Q 79 [some w] (w :: st) h) := (mw_at mj_58_78).trans (z_aload_n rfl)
theorem mj_58_79 : mc_P 58 79 = some (.sipush 150, 3, 0, 0, 0) := by decide +kernel
theorem s_58_79 {x0 : Option Value} : mw d 58 Q 79 [x0] (st) h = mw d 58 Q 82 [x0] (.int 150 :: st) h := (mw_at mj_58_79).trans (z_sipush (by decide))
theorem mj_58_82 : mc_P 58 82 = some (.invokevirtual 51, 3, 45, 3, 2) := by decide +kernel
theorem s_58_82 {x0 : Option Value} {o : Nat} {a1 : Value} : mw (d + 1) 58 Q 82 [x0] (a1 :: .ref o :: st) h = (mg h o 3 ∧ mca st 8 ∧ mca [.ref o, a1] 2 ∧ mcall d 45 [.ref o, a1] h (mK (d + 1) 58 Q 85 [x0] st)) := (mw_at mj_58_82).trans ((z_invv (As := [a1]) (by decide) rfl rfl).trans (congrArg (And _) (congrArg (And _) (mC_nl nl_45))))
theorem mj_58_85 : mc_P 58 85 = some (.goto 105, 3, 0, 0, 0) := by decide +kernel
theorem s_58_85 {x0 : Option Value} : mw d 58 Q 85 [x0] (st) h = mw d 58 Q 190 [x0] (st) h := (mw_at mj_58_85).trans (z_goto (by decide))
theorem mj_58_88 : mc_P 58 88 = some (.aload_n 0, 1, 0, 0, 0) := by decide +kernel
theorem s_58_88 {w : Value} : mw d 58 Q 88 [some w] (st) h = mv_a w (mw d 58 Q 89 [some w] (w :: st) h) := (mw_at mj_58_88).trans (z_aload_n rfl)
theorem mj_58_89 : mc_P 58 89 = some (.invokevirtual 172, 3, 61, 3, 1) := by decide +kernel
theorem s_58_89 {x0 : Option Value} {o : Nat} : mw (d + 1) 58 Q 89 [x0] (.ref o :: st) h = (mg h o 3 ∧ mca st 8 ∧ mca [.ref o] 3 ∧ mcall d 61 [.ref o] h (mK (d + 1) 58 Q 92 [x0] st)) := (mw_at mj_58_89).trans ((z_invv (As := []) (by decide) rfl rfl).trans (congrArg (And _) (congrArg (And _) (mC_nl nl_61))))
theorem mj_58_92 : mc_P 58 92 = some (.goto 98, 3, 0, 0, 0) := by decide +kernel
theorem s_58_92 {x0 : Option Value} : mw d 58 Q 92 [x0] (st) h = mw d 58 Q 190 [x0] (st) h := (mw_at mj_58_92).trans (z_goto (by decide))
theorem mj_58_95 : mc_P 58 95 = some (.aload_n 0, 1, 0, 0, 0) := by decide +kernel
theorem s_58_95 {w : Value} : mw d 58 Q 95 [some w] (st) h = mv_a w (mw d 58 Q 96 [some w] (w :: st) h) := (mw_at mj_58_95).trans (z_aload_n rfl)
theorem mj_58_96 : mc_P 58 96 = some (.iconst 5, 1, 0, 0, 0) := by decide +kernel
theorem s_58_96 {x0 : Option Value} : mw d 58 Q 96 [x0] (st) h = mw d 58 Q 97 [x0] (.int 5 :: st) h := (mw_at mj_58_96).trans (z_iconst (by decide))
theorem mj_58_97 : mc_P 58 97 = some (.sipush 158, 3, 0, 0, 0) := by decide +kernel
theorem s_58_97 {x0 : Option Value} : mw d 58 Q 97 [x0] (st) h = mw d 58 Q 100 [x0] (.int 158 :: st) h := (mw_at mj_58_97).trans (z_sipush (by decide))
theorem mj_58_100 : mc_P 58 100 = some (.invokevirtual 175, 3, 59, 3, 3) := by decide +kernel
theorem s_58_100 {x0 : Option Value} {o : Nat} {a1 a2 : Value} : mw (d + 1) 58 Q 100 [x0] (a2 :: a1 :: .ref o :: st) h = (mg h o 3 ∧ mca st 8 ∧ mca [.ref o, a1, a2] 3 ∧ mcall d 59 [.ref o, a1, a2] h (mK (d + 1) 58 Q 103 [x0] st)) := (mw_at mj_58_100).trans ((z_invv (As := [a1, a2]) (by decide) rfl rfl).trans (congrArg (And _) (congrArg (And _) (mC_nl nl_59))))
theorem mj_58_103 : mc_P 58 103 = some (.goto 87, 3, 0, 0, 0) := by decide +kernel
theorem s_58_103 {x0 : Option Value} : mw d 58 Q 103 [x0] (st) h = mw d 58 Q 190 [x0] (st) h := (mw_at mj_58_103).trans (z_goto (by decide))
theorem mj_58_106 : mc_P 58 106 = some (.aload_n 0, 1, 0, 0, 0) := by decide +kernel
theorem s_58_106 {w : Value} : mw d 58 Q 106 [some w] (st) h = mv_a w (mw d 58 Q 107 [some w] (w :: st) h) := (mw_at mj_58_106).trans (z_aload_n rfl)
theorem mj_58_107 : mc_P 58 107 = some (.bipush 6, 2, 0, 0, 0) := by decide +kernel
theorem s_58_107 {x0 : Option Value} : mw d 58 Q 107 [x0] (st) h = mw d 58 Q 109 [x0] (.int 6 :: st) h := (mw_at mj_58_107).trans (z_bipush (by decide))
theorem mj_58_109 : mc_P 58 109 = some (.sipush 159, 3, 0, 0, 0) := by decide +kernel
theorem s_58_109 {x0 : Option Value} : mw d 58 Q 109 [x0] (st) h = mw d 58 Q 112 [x0] (.int 159 :: st) h := (mw_at mj_58_109).trans (z_sipush (by decide))
theorem mj_58_112 : mc_P 58 112 = some (.invokevirtual 175, 3, 59, 3, 3) := by decide +kernel
theorem s_58_112 {x0 : Option Value} {o : Nat} {a1 a2 : Value} : mw (d + 1) 58 Q 112 [x0] (a2 :: a1 :: .ref o :: st) h = (mg h o 3 ∧ mca st 8 ∧ mca [.ref o, a1, a2] 3 ∧ mcall d 59 [.ref o, a1, a2] h (mK (d + 1) 58 Q 115 [x0] st)) := (mw_at mj_58_112).trans ((z_invv (As := [a1, a2]) (by decide) rfl rfl).trans (congrArg (And _) (congrArg (And _) (mC_nl nl_59))))
theorem mj_58_115 : mc_P 58 115 = some (.goto 75, 3, 0, 0, 0) := by decide +kernel
theorem s_58_115 {x0 : Option Value} : mw d 58 Q 115 [x0] (st) h = mw d 58 Q 190 [x0] (st) h := (mw_at mj_58_115).trans (z_goto (by decide))
theorem mj_58_118 : mc_P 58 118 = some (.aload_n 0, 1, 0, 0, 0) := by decide +kernel
theorem s_58_118 {w : Value} : mw d 58 Q 118 [some w] (st) h = mv_a w (mw d 58 Q 119 [some w] (w :: st) h) := (mw_at mj_58_118).trans (z_aload_n rfl)
theorem mj_58_119 : mc_P 58 119 = some (.bipush 7, 2, 0, 0, 0) := by decide +kernel
theorem s_58_119 {x0 : Option Value} : mw d 58 Q 119 [x0] (st) h = mw d 58 Q 121 [x0] (.int 7 :: st) h := (mw_at mj_58_119).trans (z_bipush (by decide))
theorem mj_58_121 : mc_P 58 121 = some (.invokevirtual 169, 3, 57, 3, 2) := by decide +kernel
theorem s_58_121 {x0 : Option Value} {o : Nat} {a1 : Value} : mw (d + 1) 58 Q 121 [x0] (a1 :: .ref o :: st) h = (mg h o 3 ∧ mca st 8 ∧ mca [.ref o, a1] 2 ∧ mcall d 57 [.ref o, a1] h (mK (d + 1) 58 Q 124 [x0] st)) := (mw_at mj_58_121).trans ((z_invv (As := [a1]) (by decide) rfl rfl).trans (congrArg (And _) (congrArg (And _) (mC_nl nl_57))))
theorem mj_58_124 : mc_P 58 124 = some (.aload_n 0, 1, 0, 0, 0) := by decide +kernel
theorem s_58_124 {w : Value} : mw d 58 Q 124 [some w] (st) h = mv_a w (mw d 58 Q 125 [some w] (w :: st) h) := (mw_at mj_58_124).trans (z_aload_n rfl)
theorem mj_58_125 : mc_P 58 125 = some (.dup, 1, 0, 0, 0) := by decide +kernel
theorem s_58_125 {x0 : Option Value} {w : Value} : mw d 58 Q 125 [x0] (w :: st) h = (w.category = 1 ∧ mw d 58 Q 126 [x0] (w :: w :: st) h) := (mw_at mj_58_125).trans (z_dup)
theorem mj_58_126 : mc_P 58 126 = some (.getfield 95, 3, 3, 5, 0) := by decide +kernel
theorem s_58_126 {x0 : Option Value} {o : Nat} : mw d 58 Q 126 [x0] (.ref o :: st) h = (mg h o 3 ∧ mw d 58 Q 129 [x0] (.int (mh_i h o 5) :: st) h) := (mw_at mj_58_126).trans (z_geti (by decide) (by decide) (Or.inl rfl))
theorem mj_58_129 : mc_P 58 129 = some (.iconst 1, 1, 0, 0, 0) := by decide +kernel
theorem s_58_129 {x0 : Option Value} : mw d 58 Q 129 [x0] (st) h = mw d 58 Q 130 [x0] (.int 1 :: st) h := (mw_at mj_58_129).trans (z_iconst (by decide))
theorem mj_58_130 : mc_P 58 130 = some (.iadd, 1, 0, 0, 0) := by decide +kernel
theorem s_58_130 {x0 : Option Value} {x w : Int32} : mw d 58 Q 130 [x0] (.int w :: .int x :: st) h = mw d 58 Q 131 [x0] (.int (x + w) :: st) h := (mw_at mj_58_130).trans (z_iadd)
theorem mj_58_131 : mc_P 58 131 = some (.putfield 95, 3, 3, 5, 0) := by decide +kernel
theorem s_58_131 {x0 : Option Value} {o : Nat} {w : Int32} : mw d 58 Q 131 [x0] (.int w :: .ref o :: st) h = (mg h o 3 ∧ mw d 58 Q 134 [x0] (st) (mh_si h o 5 w)) := (mw_at mj_58_131).trans (z_puti (by decide) (by decide) rfl)
theorem mj_58_134 : mc_P 58 134 = some (.aload_n 0, 1, 0, 0, 0) := by decide +kernel
theorem s_58_134 {w : Value} : mw d 58 Q 134 [some w] (st) h = mv_a w (mw d 58 Q 135 [some w] (w :: st) h) := (mw_at mj_58_134).trans (z_aload_n rfl)
theorem mj_58_135 : mc_P 58 135 = some (.bipush 59, 2, 0, 0, 0) := by decide +kernel
theorem s_58_135 {x0 : Option Value} : mw d 58 Q 135 [x0] (st) h = mw d 58 Q 137 [x0] (.int 59 :: st) h := (mw_at mj_58_135).trans (z_bipush (by decide))
theorem mj_58_137 : mc_P 58 137 = some (.invokevirtual 51, 3, 45, 3, 2) := by decide +kernel
theorem s_58_137 {x0 : Option Value} {o : Nat} {a1 : Value} : mw (d + 1) 58 Q 137 [x0] (a1 :: .ref o :: st) h = (mg h o 3 ∧ mca st 8 ∧ mca [.ref o, a1] 2 ∧ mcall d 45 [.ref o, a1] h (mK (d + 1) 58 Q 140 [x0] st)) := (mw_at mj_58_137).trans ((z_invv (As := [a1]) (by decide) rfl rfl).trans (congrArg (And _) (congrArg (And _) (mC_nl nl_45))))
theorem mj_58_140 : mc_P 58 140 = some (.aload_n 0, 1, 0, 0, 0) := by decide +kernel
theorem s_58_140 {w : Value} : mw d 58 Q 140 [some w] (st) h = mv_a w (mw d 58 Q 141 [some w] (w :: st) h) := (mw_at mj_58_140).trans (z_aload_n rfl)
theorem mj_58_141 : mc_P 58 141 = some (.invokevirtual 178, 3, 60, 3, 1) := by decide +kernel
theorem s_58_141 {x0 : Option Value} {o : Nat} : mw (d + 1) 58 Q 141 [x0] (.ref o :: st) h = (mg h o 3 ∧ mca st 8 ∧ mca [.ref o] 1 ∧ mcall d 60 [.ref o] h (mK (d + 1) 58 Q 144 [x0] st)) := (mw_at mj_58_141).trans ((z_invv (As := []) (by decide) rfl rfl).trans (congrArg (And _) (congrArg (And _) (mC_nl nl_60))))
theorem mj_58_144 : mc_P 58 144 = some (.goto 46, 3, 0, 0, 0) := by decide +kernel
theorem s_58_144 {x0 : Option Value} : mw d 58 Q 144 [x0] (st) h = mw d 58 Q 190 [x0] (st) h := (mw_at mj_58_144).trans (z_goto (by decide))
theorem mj_58_147 : mc_P 58 147 = some (.aload_n 0, 1, 0, 0, 0) := by decide +kernel
theorem s_58_147 {w : Value} : mw d 58 Q 147 [some w] (st) h = mv_a w (mw d 58 Q 148 [some w] (w :: st) h) := (mw_at mj_58_147).trans (z_aload_n rfl)
theorem mj_58_148 : mc_P 58 148 = some (.bipush 8, 2, 0, 0, 0) := by decide +kernel
theorem s_58_148 {x0 : Option Value} : mw d 58 Q 148 [x0] (st) h = mw d 58 Q 150 [x0] (.int 8 :: st) h := (mw_at mj_58_148).trans (z_bipush (by decide))
theorem mj_58_150 : mc_P 58 150 = some (.invokevirtual 169, 3, 57, 3, 2) := by decide +kernel
theorem s_58_150 {x0 : Option Value} {o : Nat} {a1 : Value} : mw (d + 1) 58 Q 150 [x0] (a1 :: .ref o :: st) h = (mg h o 3 ∧ mca st 8 ∧ mca [.ref o, a1] 2 ∧ mcall d 57 [.ref o, a1] h (mK (d + 1) 58 Q 153 [x0] st)) := (mw_at mj_58_150).trans ((z_invv (As := [a1]) (by decide) rfl rfl).trans (congrArg (And _) (congrArg (And _) (mC_nl nl_57))))
theorem mj_58_153 : mc_P 58 153 = some (.aload_n 0, 1, 0, 0, 0) := by decide +kernel
theorem s_58_153 {w : Value} : mw d 58 Q 153 [some w] (st) h = mv_a w (mw d 58 Q 154 [some w] (w :: st) h) := (mw_at mj_58_153).trans (z_aload_n rfl)
theorem mj_58_154 : mc_P 58 154 = some (.dup, 1, 0, 0, 0) := by decide +kernel
theorem s_58_154 {x0 : Option Value} {w : Value} : mw d 58 Q 154 [x0] (w :: st) h = (w.category = 1 ∧ mw d 58 Q 155 [x0] (w :: w :: st) h) := (mw_at mj_58_154).trans (z_dup)
theorem mj_58_155 : mc_P 58 155 = some (.getfield 95, 3, 3, 5, 0) := by decide +kernel
theorem s_58_155 {x0 : Option Value} {o : Nat} : mw d 58 Q 155 [x0] (.ref o :: st) h = (mg h o 3 ∧ mw d 58 Q 158 [x0] (.int (mh_i h o 5) :: st) h) := (mw_at mj_58_155).trans (z_geti (by decide) (by decide) (Or.inl rfl))
theorem mj_58_158 : mc_P 58 158 = some (.iconst 1, 1, 0, 0, 0) := by decide +kernel
theorem s_58_158 {x0 : Option Value} : mw d 58 Q 158 [x0] (st) h = mw d 58 Q 159 [x0] (.int 1 :: st) h := (mw_at mj_58_158).trans (z_iconst (by decide))
theorem mj_58_159 : mc_P 58 159 = some (.iadd, 1, 0, 0, 0) := by decide +kernel
theorem s_58_159 {x0 : Option Value} {x w : Int32} : mw d 58 Q 159 [x0] (.int w :: .int x :: st) h = mw d 58 Q 160 [x0] (.int (x + w) :: st) h := (mw_at mj_58_159).trans (z_iadd)
theorem mj_58_160 : mc_P 58 160 = some (.putfield 95, 3, 3, 5, 0) := by decide +kernel
theorem s_58_160 {x0 : Option Value} {o : Nat} {w : Int32} : mw d 58 Q 160 [x0] (.int w :: .ref o :: st) h = (mg h o 3 ∧ mw d 58 Q 163 [x0] (st) (mh_si h o 5 w)) := (mw_at mj_58_160).trans (z_puti (by decide) (by decide) rfl)
theorem mj_58_163 : mc_P 58 163 = some (.aload_n 0, 1, 0, 0, 0) := by decide +kernel
theorem s_58_163 {w : Value} : mw d 58 Q 163 [some w] (st) h = mv_a w (mw d 58 Q 164 [some w] (w :: st) h) := (mw_at mj_58_163).trans (z_aload_n rfl)
theorem mj_58_164 : mc_P 58 164 = some (.sipush 160, 3, 0, 0, 0) := by decide +kernel
theorem s_58_164 {x0 : Option Value} : mw d 58 Q 164 [x0] (st) h = mw d 58 Q 167 [x0] (.int 160 :: st) h := (mw_at mj_58_164).trans (z_sipush (by decide))
theorem mj_58_167 : mc_P 58 167 = some (.invokevirtual 51, 3, 45, 3, 2) := by decide +kernel
theorem s_58_167 {x0 : Option Value} {o : Nat} {a1 : Value} : mw (d + 1) 58 Q 167 [x0] (a1 :: .ref o :: st) h = (mg h o 3 ∧ mca st 8 ∧ mca [.ref o, a1] 2 ∧ mcall d 45 [.ref o, a1] h (mK (d + 1) 58 Q 170 [x0] st)) := (mw_at mj_58_167).trans ((z_invv (As := [a1]) (by decide) rfl rfl).trans (congrArg (And _) (congrArg (And _) (mC_nl nl_45))))
theorem mj_58_170 : mc_P 58 170 = some (.aload_n 0, 1, 0, 0, 0) := by decide +kernel
theorem s_58_170 {w : Value} : mw d 58 Q 170 [some w] (st) h = mv_a w (mw d 58 Q 171 [some w] (w :: st) h) := (mw_at mj_58_170).trans (z_aload_n rfl)
theorem mj_58_171 : mc_P 58 171 = some (.bipush 59, 2, 0, 0, 0) := by decide +kernel
theorem s_58_171 {x0 : Option Value} : mw d 58 Q 171 [x0] (st) h = mw d 58 Q 173 [x0] (.int 59 :: st) h := (mw_at mj_58_171).trans (z_bipush (by decide))
theorem mj_58_173 : mc_P 58 173 = some (.invokevirtual 51, 3, 45, 3, 2) := by decide +kernel
theorem s_58_173 {x0 : Option Value} {o : Nat} {a1 : Value} : mw (d + 1) 58 Q 173 [x0] (a1 :: .ref o :: st) h = (mg h o 3 ∧ mca st 8 ∧ mca [.ref o, a1] 2 ∧ mcall d 45 [.ref o, a1] h (mK (d + 1) 58 Q 176 [x0] st)) := (mw_at mj_58_173).trans ((z_invv (As := [a1]) (by decide) rfl rfl).trans (congrArg (And _) (congrArg (And _) (mC_nl nl_45))))
theorem mj_58_176 : mc_P 58 176 = some (.aload_n 0, 1, 0, 0, 0) := by decide +kernel
theorem s_58_176 {w : Value} : mw d 58 Q 176 [some w] (st) h = mv_a w (mw d 58 Q 177 [some w] (w :: st) h) := (mw_at mj_58_176).trans (z_aload_n rfl)
theorem mj_58_177 : mc_P 58 177 = some (.sipush 161, 3, 0, 0, 0) := by decide +kernel
theorem s_58_177 {x0 : Option Value} : mw d 58 Q 177 [x0] (st) h = mw d 58 Q 180 [x0] (.int 161 :: st) h := (mw_at mj_58_177).trans (z_sipush (by decide))
theorem mj_58_180 : mc_P 58 180 = some (.invokevirtual 51, 3, 45, 3, 2) := by decide +kernel
theorem s_58_180 {x0 : Option Value} {o : Nat} {a1 : Value} : mw (d + 1) 58 Q 180 [x0] (a1 :: .ref o :: st) h = (mg h o 3 ∧ mca st 8 ∧ mca [.ref o, a1] 2 ∧ mcall d 45 [.ref o, a1] h (mK (d + 1) 58 Q 183 [x0] st)) := (mw_at mj_58_180).trans ((z_invv (As := [a1]) (by decide) rfl rfl).trans (congrArg (And _) (congrArg (And _) (mC_nl nl_45))))
theorem mj_58_183 : mc_P 58 183 = some (.goto 7, 3, 0, 0, 0) := by decide +kernel
theorem s_58_183 {x0 : Option Value} : mw d 58 Q 183 [x0] (st) h = mw d 58 Q 190 [x0] (st) h := (mw_at mj_58_183).trans (z_goto (by decide))
theorem mj_58_186 : mc_P 58 186 = some (.aload_n 0, 1, 0, 0, 0) := by decide +kernel
theorem s_58_186 {w : Value} : mw d 58 Q 186 [some w] (st) h = mv_a w (mw d 58 Q 187 [some w] (w :: st) h) := (mw_at mj_58_186).trans (z_aload_n rfl)
theorem mj_58_187 : mc_P 58 187 = some (.invokevirtual 111, 3, 50, 3, 1) := by decide +kernel
theorem s_58_187 {x0 : Option Value} {o : Nat} : mw (d + 1) 58 Q 187 [x0] (.ref o :: st) h = (mg h o 3 ∧ mca st 8 ∧ mca [.ref o] 1 ∧ mcall d 50 [.ref o] h (mK (d + 1) 58 Q 190 [x0] st)) := (mw_at mj_58_187).trans ((z_invv (As := []) (by decide) rfl rfl).trans (congrArg (And _) (congrArg (And _) (mC_nl nl_50))))
theorem mj_58_190 : mc_P 58 190 = some (.return_, 1, 0, 0, 0) := by decide +kernel
theorem s_58_190 {x0 : Option Value} : mw d 58 Q 190 [x0] ([]) h = Q none h := (mw_at mj_58_190).trans (z_vret)
theorem e_58 {a0 : Nat} : mcall d 58 [.ref a0] h Q = mw d 58 Q 0 [some (.ref a0)] [] h := by
  show mw d 58 Q 0 (me_en (mc_nl 58) _) [] h = _
  rw [nl_58]; rfl

/-! InvariantDesk$Parser.beginBlocks(II)V -/
theorem mj_59_0 : mc_P 59 0 = some (.aload_n 0, 1, 0, 0, 0) := by decide +kernel
theorem s_59_0 {x1 x2 : Option Value} {w : Value} : mw d 59 Q 0 [some w, x1, x2] (st) h = mv_a w (mw d 59 Q 1 [some w, x1, x2] (w :: st) h) := (mw_at mj_59_0).trans (z_aload_n rfl)
theorem mj_59_1 : mc_P 59 1 = some (.iload_n 1, 1, 0, 0, 0) := by decide +kernel
theorem s_59_1 {x0 x2 : Option Value} {w : Value} : mw d 59 Q 1 [x0, some w, x2] (st) h = mv_i w (mw d 59 Q 2 [x0, some w, x2] (w :: st) h) := (mw_at mj_59_1).trans (z_iload_n rfl)
theorem mj_59_2 : mc_P 59 2 = some (.invokevirtual 169, 3, 57, 3, 2) := by decide +kernel
theorem s_59_2 {x0 x1 x2 : Option Value} {o : Nat} {a1 : Value} : mw (d + 1) 59 Q 2 [x0, x1, x2] (a1 :: .ref o :: st) h = (mg h o 3 ∧ mca st 8 ∧ mca [.ref o, a1] 2 ∧ mcall d 57 [.ref o, a1] h (mK (d + 1) 59 Q 5 [x0, x1, x2] st)) := (mw_at mj_59_2).trans ((z_invv (As := [a1]) (by decide) rfl rfl).trans (congrArg (And _) (congrArg (And _) (mC_nl nl_57))))
theorem mj_59_5 : mc_P 59 5 = some (.aload_n 0, 1, 0, 0, 0) := by decide +kernel
theorem s_59_5 {x1 x2 : Option Value} {w : Value} : mw d 59 Q 5 [some w, x1, x2] (st) h = mv_a w (mw d 59 Q 6 [some w, x1, x2] (w :: st) h) := (mw_at mj_59_5).trans (z_aload_n rfl)
theorem mj_59_6 : mc_P 59 6 = some (.getfield 15, 3, 3, 9, 0) := by decide +kernel
theorem s_59_6 {x0 x1 x2 : Option Value} {o : Nat} : mw d 59 Q 6 [x0, x1, x2] (.ref o :: st) h = (mg h o 3 ∧ mw d 59 Q 9 [x0, x1, x2] (va_rf (mh_r h o 9) :: st) h) := (mw_at mj_59_6).trans (z_getr (by decide) (by decide) rfl)
theorem mj_59_9 : mc_P 59 9 = some (.aload_n 0, 1, 0, 0, 0) := by decide +kernel
theorem s_59_9 {x1 x2 : Option Value} {w : Value} : mw d 59 Q 9 [some w, x1, x2] (st) h = mv_a w (mw d 59 Q 10 [some w, x1, x2] (w :: st) h) := (mw_at mj_59_9).trans (z_aload_n rfl)
theorem mj_59_10 : mc_P 59 10 = some (.getfield 181, 3, 3, 10, 0) := by decide +kernel
theorem s_59_10 {x0 x1 x2 : Option Value} {o : Nat} : mw d 59 Q 10 [x0, x1, x2] (.ref o :: st) h = (mg h o 3 ∧ mw d 59 Q 13 [x0, x1, x2] (.int (mh_i h o 10) :: st) h) := (mw_at mj_59_10).trans (z_geti (by decide) (by decide) (Or.inl rfl))
theorem mj_59_13 : mc_P 59 13 = some (.aload_n 0, 1, 0, 0, 0) := by decide +kernel
theorem s_59_13 {x1 x2 : Option Value} {w : Value} : mw d 59 Q 13 [some w, x1, x2] (st) h = mv_a w (mw d 59 Q 14 [some w, x1, x2] (w :: st) h) := (mw_at mj_59_13).trans (z_aload_n rfl)
theorem mj_59_14 : mc_P 59 14 = some (.getfield 117, 3, 3, 8, 0) := by decide +kernel
theorem s_59_14 {x0 x1 x2 : Option Value} {o : Nat} : mw d 59 Q 14 [x0, x1, x2] (.ref o :: st) h = (mg h o 3 ∧ mw d 59 Q 17 [x0, x1, x2] (va_rf (mh_r h o 8) :: st) h) := (mw_at mj_59_14).trans (z_getr (by decide) (by decide) rfl)
theorem mj_59_17 : mc_P 59 17 = some (.getfield 184, 3, 9, 1, 0) := by decide +kernel
theorem s_59_17 {x0 x1 x2 : Option Value} {o : Nat} : mw d 59 Q 17 [x0, x1, x2] (.ref o :: st) h = (mg h o 9 ∧ mw d 59 Q 20 [x0, x1, x2] (.int (mh_i h o 1) :: st) h) := (mw_at mj_59_17).trans (z_geti (by decide) (by decide) (Or.inl rfl))
theorem mj_59_20 : mc_P 59 20 = some (.iastore, 1, 0, 0, 0) := by decide +kernel
theorem s_59_20 {x0 x1 x2 : Option Value} {o : Nat} {i w : Int32} : mw d 59 Q 20 [x0, x1, x2] (.int w :: .int i :: .ref o :: st) h = (mg h o 100 ∧ mx i (mh_l h o) ∧ mw d 59 Q 21 [x0, x1, x2] (st) (mh_si h o i.toNatClampNeg w)) := (mw_at mj_59_20).trans (z_iast)
theorem mj_59_21 : mc_P 59 21 = some (.aload_n 0, 1, 0, 0, 0) := by decide +kernel
theorem s_59_21 {x1 x2 : Option Value} {w : Value} : mw d 59 Q 21 [some w, x1, x2] (st) h = mv_a w (mw d 59 Q 22 [some w, x1, x2] (w :: st) h) := (mw_at mj_59_21).trans (z_aload_n rfl)
theorem mj_59_22 : mc_P 59 22 = some (.dup, 1, 0, 0, 0) := by decide +kernel
theorem s_59_22 {x0 x1 x2 : Option Value} {w : Value} : mw d 59 Q 22 [x0, x1, x2] (w :: st) h = (w.category = 1 ∧ mw d 59 Q 23 [x0, x1, x2] (w :: w :: st) h) := (mw_at mj_59_22).trans (z_dup)
theorem mj_59_23 : mc_P 59 23 = some (.getfield 181, 3, 3, 10, 0) := by decide +kernel
theorem s_59_23 {x0 x1 x2 : Option Value} {o : Nat} : mw d 59 Q 23 [x0, x1, x2] (.ref o :: st) h = (mg h o 3 ∧ mw d 59 Q 26 [x0, x1, x2] (.int (mh_i h o 10) :: st) h) := (mw_at mj_59_23).trans (z_geti (by decide) (by decide) (Or.inl rfl))
theorem mj_59_26 : mc_P 59 26 = some (.iconst 1, 1, 0, 0, 0) := by decide +kernel
theorem s_59_26 {x0 x1 x2 : Option Value} : mw d 59 Q 26 [x0, x1, x2] (st) h = mw d 59 Q 27 [x0, x1, x2] (.int 1 :: st) h := (mw_at mj_59_26).trans (z_iconst (by decide))
theorem mj_59_27 : mc_P 59 27 = some (.iadd, 1, 0, 0, 0) := by decide +kernel
theorem s_59_27 {x0 x1 x2 : Option Value} {x w : Int32} : mw d 59 Q 27 [x0, x1, x2] (.int w :: .int x :: st) h = mw d 59 Q 28 [x0, x1, x2] (.int (x + w) :: st) h := (mw_at mj_59_27).trans (z_iadd)
theorem mj_59_28 : mc_P 59 28 = some (.putfield 181, 3, 3, 10, 0) := by decide +kernel
theorem s_59_28 {x0 x1 x2 : Option Value} {o : Nat} {w : Int32} : mw d 59 Q 28 [x0, x1, x2] (.int w :: .ref o :: st) h = (mg h o 3 ∧ mw d 59 Q 31 [x0, x1, x2] (st) (mh_si h o 10 w)) := (mw_at mj_59_28).trans (z_puti (by decide) (by decide) rfl)
theorem mj_59_31 : mc_P 59 31 = some (.aload_n 0, 1, 0, 0, 0) := by decide +kernel
theorem s_59_31 {x1 x2 : Option Value} {w : Value} : mw d 59 Q 31 [some w, x1, x2] (st) h = mv_a w (mw d 59 Q 32 [some w, x1, x2] (w :: st) h) := (mw_at mj_59_31).trans (z_aload_n rfl)
theorem mj_59_32 : mc_P 59 32 = some (.dup, 1, 0, 0, 0) := by decide +kernel
theorem s_59_32 {x0 x1 x2 : Option Value} {w : Value} : mw d 59 Q 32 [x0, x1, x2] (w :: st) h = (w.category = 1 ∧ mw d 59 Q 33 [x0, x1, x2] (w :: w :: st) h) := (mw_at mj_59_32).trans (z_dup)
theorem mj_59_33 : mc_P 59 33 = some (.getfield 95, 3, 3, 5, 0) := by decide +kernel
theorem s_59_33 {x0 x1 x2 : Option Value} {o : Nat} : mw d 59 Q 33 [x0, x1, x2] (.ref o :: st) h = (mg h o 3 ∧ mw d 59 Q 36 [x0, x1, x2] (.int (mh_i h o 5) :: st) h) := (mw_at mj_59_33).trans (z_geti (by decide) (by decide) (Or.inl rfl))
theorem mj_59_36 : mc_P 59 36 = some (.iconst 1, 1, 0, 0, 0) := by decide +kernel
theorem s_59_36 {x0 x1 x2 : Option Value} : mw d 59 Q 36 [x0, x1, x2] (st) h = mw d 59 Q 37 [x0, x1, x2] (.int 1 :: st) h := (mw_at mj_59_36).trans (z_iconst (by decide))
theorem mj_59_37 : mc_P 59 37 = some (.iadd, 1, 0, 0, 0) := by decide +kernel
theorem s_59_37 {x0 x1 x2 : Option Value} {x w : Int32} : mw d 59 Q 37 [x0, x1, x2] (.int w :: .int x :: st) h = mw d 59 Q 38 [x0, x1, x2] (.int (x + w) :: st) h := (mw_at mj_59_37).trans (z_iadd)
theorem mj_59_38 : mc_P 59 38 = some (.putfield 95, 3, 3, 5, 0) := by decide +kernel
theorem s_59_38 {x0 x1 x2 : Option Value} {o : Nat} {w : Int32} : mw d 59 Q 38 [x0, x1, x2] (.int w :: .ref o :: st) h = (mg h o 3 ∧ mw d 59 Q 41 [x0, x1, x2] (st) (mh_si h o 5 w)) := (mw_at mj_59_38).trans (z_puti (by decide) (by decide) rfl)
theorem mj_59_41 : mc_P 59 41 = some (.aload_n 0, 1, 0, 0, 0) := by decide +kernel
theorem s_59_41 {x1 x2 : Option Value} {w : Value} : mw d 59 Q 41 [some w, x1, x2] (st) h = mv_a w (mw d 59 Q 42 [some w, x1, x2] (w :: st) h) := (mw_at mj_59_41).trans (z_aload_n rfl)
theorem mj_59_42 : mc_P 59 42 = some (.iload_n 2, 1, 0, 0, 0) := by decide +kernel
theorem s_59_42 {x0 x1 : Option Value} {w : Value} : mw d 59 Q 42 [x0, x1, some w] (st) h = mv_i w (mw d 59 Q 43 [x0, x1, some w] (w :: st) h) := (mw_at mj_59_42).trans (z_iload_n rfl)
theorem mj_59_43 : mc_P 59 43 = some (.invokevirtual 51, 3, 45, 3, 2) := by decide +kernel
theorem s_59_43 {x0 x1 x2 : Option Value} {o : Nat} {a1 : Value} : mw (d + 1) 59 Q 43 [x0, x1, x2] (a1 :: .ref o :: st) h = (mg h o 3 ∧ mca st 8 ∧ mca [.ref o, a1] 2 ∧ mcall d 45 [.ref o, a1] h (mK (d + 1) 59 Q 46 [x0, x1, x2] st)) := (mw_at mj_59_43).trans ((z_invv (As := [a1]) (by decide) rfl rfl).trans (congrArg (And _) (congrArg (And _) (mC_nl nl_45))))
theorem mj_59_46 : mc_P 59 46 = some (.aload_n 0, 1, 0, 0, 0) := by decide +kernel
theorem s_59_46 {x1 x2 : Option Value} {w : Value} : mw d 59 Q 46 [some w, x1, x2] (st) h = mv_a w (mw d 59 Q 47 [some w, x1, x2] (w :: st) h) := (mw_at mj_59_46).trans (z_aload_n rfl)
theorem mj_59_47 : mc_P 59 47 = some (.sipush 147, 3, 0, 0, 0) := by decide +kernel
theorem s_59_47 {x0 x1 x2 : Option Value} : mw d 59 Q 47 [x0, x1, x2] (st) h = mw d 59 Q 50 [x0, x1, x2] (.int 147 :: st) h := (mw_at mj_59_47).trans (z_sipush (by decide))
theorem mj_59_50 : mc_P 59 50 = some (.invokevirtual 51, 3, 45, 3, 2) := by decide +kernel
theorem s_59_50 {x0 x1 x2 : Option Value} {o : Nat} {a1 : Value} : mw (d + 1) 59 Q 50 [x0, x1, x2] (a1 :: .ref o :: st) h = (mg h o 3 ∧ mca st 8 ∧ mca [.ref o, a1] 2 ∧ mcall d 45 [.ref o, a1] h (mK (d + 1) 59 Q 53 [x0, x1, x2] st)) := (mw_at mj_59_50).trans ((z_invv (As := [a1]) (by decide) rfl rfl).trans (congrArg (And _) (congrArg (And _) (mC_nl nl_45))))
theorem mj_59_53 : mc_P 59 53 = some (.aload_n 0, 1, 0, 0, 0) := by decide +kernel
theorem s_59_53 {x1 x2 : Option Value} {w : Value} : mw d 59 Q 53 [some w, x1, x2] (st) h = mv_a w (mw d 59 Q 54 [some w, x1, x2] (w :: st) h) := (mw_at mj_59_53).trans (z_aload_n rfl)
theorem mj_59_54 : mc_P 59 54 = some (.invokevirtual 178, 3, 60, 3, 1) := by decide +kernel
theorem s_59_54 {x0 x1 x2 : Option Value} {o : Nat} : mw (d + 1) 59 Q 54 [x0, x1, x2] (.ref o :: st) h = (mg h o 3 ∧ mca st 8 ∧ mca [.ref o] 1 ∧ mcall d 60 [.ref o] h (mK (d + 1) 59 Q 57 [x0, x1, x2] st)) := (mw_at mj_59_54).trans ((z_invv (As := []) (by decide) rfl rfl).trans (congrArg (And _) (congrArg (And _) (mC_nl nl_60))))
theorem mj_59_57 : mc_P 59 57 = some (.return_, 1, 0, 0, 0) := by decide +kernel
theorem s_59_57 {x0 x1 x2 : Option Value} : mw d 59 Q 57 [x0, x1, x2] ([]) h = Q none h := (mw_at mj_59_57).trans (z_vret)
theorem e_59 {a0 : Nat} {a1 : Int32} {a2 : Int32} : mcall d 59 [.ref a0, .int a1, .int a2] h Q = mw d 59 Q 0 [some (.ref a0), some (.int a1), some (.int a2)] [] h := by
  show mw d 59 Q 0 (me_en (mc_nl 59) _) [] h = _
  rw [nl_59]; rfl

/-! InvariantDesk$Parser.beginCond()V -/
theorem mj_60_0 : mc_P 60 0 = some (.aload_n 0, 1, 0, 0, 0) := by decide +kernel
theorem s_60_0 {w : Value} : mw d 60 Q 0 [some w] (st) h = mv_a w (mw d 60 Q 1 [some w] (w :: st) h) := (mw_at mj_60_0).trans (z_aload_n rfl)
theorem mj_60_1 : mc_P 60 1 = some (.bipush 41, 2, 0, 0, 0) := by decide +kernel
theorem s_60_1 {x0 : Option Value} : mw d 60 Q 1 [x0] (st) h = mw d 60 Q 3 [x0] (.int 41 :: st) h := (mw_at mj_60_1).trans (z_bipush (by decide))
theorem mj_60_3 : mc_P 60 3 = some (.invokevirtual 51, 3, 45, 3, 2) := by decide +kernel
theorem s_60_3 {x0 : Option Value} {o : Nat} {a1 : Value} : mw (d + 1) 60 Q 3 [x0] (a1 :: .ref o :: st) h = (mg h o 3 ∧ mca st 8 ∧ mca [.ref o, a1] 2 ∧ mcall d 45 [.ref o, a1] h (mK (d + 1) 60 Q 6 [x0] st)) := (mw_at mj_60_3).trans ((z_invv (As := [a1]) (by decide) rfl rfl).trans (congrArg (And _) (congrArg (And _) (mC_nl nl_45))))
theorem mj_60_6 : mc_P 60 6 = some (.aload_n 0, 1, 0, 0, 0) := by decide +kernel
theorem s_60_6 {w : Value} : mw d 60 Q 6 [some w] (st) h = mv_a w (mw d 60 Q 7 [some w] (w :: st) h) := (mw_at mj_60_6).trans (z_aload_n rfl)
theorem mj_60_7 : mc_P 60 7 = some (.sipush 157, 3, 0, 0, 0) := by decide +kernel
theorem s_60_7 {x0 : Option Value} : mw d 60 Q 7 [x0] (st) h = mw d 60 Q 10 [x0] (.int 157 :: st) h := (mw_at mj_60_7).trans (z_sipush (by decide))
theorem mj_60_10 : mc_P 60 10 = some (.invokevirtual 51, 3, 45, 3, 2) := by decide +kernel
theorem s_60_10 {x0 : Option Value} {o : Nat} {a1 : Value} : mw (d + 1) 60 Q 10 [x0] (a1 :: .ref o :: st) h = (mg h o 3 ∧ mca st 8 ∧ mca [.ref o, a1] 2 ∧ mcall d 45 [.ref o, a1] h (mK (d + 1) 60 Q 13 [x0] st)) := (mw_at mj_60_10).trans ((z_invv (As := [a1]) (by decide) rfl rfl).trans (congrArg (And _) (congrArg (And _) (mC_nl nl_45))))
theorem mj_60_13 : mc_P 60 13 = some (.aload_n 0, 1, 0, 0, 0) := by decide +kernel
theorem s_60_13 {w : Value} : mw d 60 Q 13 [some w] (st) h = mv_a w (mw d 60 Q 14 [some w] (w :: st) h) := (mw_at mj_60_13).trans (z_aload_n rfl)
theorem mj_60_14 : mc_P 60 14 = some (.sipush 171, 3, 0, 0, 0) := by decide +kernel
theorem s_60_14 {x0 : Option Value} : mw d 60 Q 14 [x0] (st) h = mw d 60 Q 17 [x0] (.int 171 :: st) h := (mw_at mj_60_14).trans (z_sipush (by decide))
theorem mj_60_17 : mc_P 60 17 = some (.invokevirtual 51, 3, 45, 3, 2) := by decide +kernel
theorem s_60_17 {x0 : Option Value} {o : Nat} {a1 : Value} : mw (d + 1) 60 Q 17 [x0] (a1 :: .ref o :: st) h = (mg h o 3 ∧ mca st 8 ∧ mca [.ref o, a1] 2 ∧ mcall d 45 [.ref o, a1] h (mK (d + 1) 60 Q 20 [x0] st)) := (mw_at mj_60_17).trans ((z_invv (As := [a1]) (by decide) rfl rfl).trans (congrArg (And _) (congrArg (And _) (mC_nl nl_45))))
theorem mj_60_20 : mc_P 60 20 = some (.aload_n 0, 1, 0, 0, 0) := by decide +kernel
theorem s_60_20 {w : Value} : mw d 60 Q 20 [some w] (st) h = mv_a w (mw d 60 Q 21 [some w] (w :: st) h) := (mw_at mj_60_20).trans (z_aload_n rfl)
theorem mj_60_21 : mc_P 60 21 = some (.bipush 40, 2, 0, 0, 0) := by decide +kernel
theorem s_60_21 {x0 : Option Value} : mw d 60 Q 21 [x0] (st) h = mw d 60 Q 23 [x0] (.int 40 :: st) h := (mw_at mj_60_21).trans (z_bipush (by decide))
theorem mj_60_23 : mc_P 60 23 = some (.invokevirtual 59, 3, 51, 3, 2) := by decide +kernel
theorem s_60_23 {x0 : Option Value} {o : Nat} {a1 : Value} : mw (d + 1) 60 Q 23 [x0] (a1 :: .ref o :: st) h = (mg h o 3 ∧ mca st 8 ∧ mca [.ref o, a1] 2 ∧ mcall d 51 [.ref o, a1] h (mK (d + 1) 60 Q 26 [x0] st)) := (mw_at mj_60_23).trans ((z_invv (As := [a1]) (by decide) rfl rfl).trans (congrArg (And _) (congrArg (And _) (mC_nl nl_51))))
theorem mj_60_26 : mc_P 60 26 = some (.return_, 1, 0, 0, 0) := by decide +kernel
theorem s_60_26 {x0 : Option Value} : mw d 60 Q 26 [x0] ([]) h = Q none h := (mw_at mj_60_26).trans (z_vret)
theorem e_60 {a0 : Nat} : mcall d 60 [.ref a0] h Q = mw d 60 Q 0 [some (.ref a0)] [] h := by
  show mw d 60 Q 0 (me_en (mc_nl 60) _) [] h = _
  rw [nl_60]; rfl

/-! InvariantDesk$Parser.beginNamed()V -/
theorem mj_61_0 : mc_P 61 0 = some (.aload_n 0, 1, 0, 0, 0) := by decide +kernel
theorem s_61_0 {x1 x2 : Option Value} {w : Value} : mw d 61 Q 0 [some w, x1, x2] (st) h = mv_a w (mw d 61 Q 1 [some w, x1, x2] (w :: st) h) := (mw_at mj_61_0).trans (z_aload_n rfl)
theorem mj_61_1 : mc_P 61 1 = some (.iconst 1, 1, 0, 0, 0) := by decide +kernel
theorem s_61_1 {x0 x1 x2 : Option Value} : mw d 61 Q 1 [x0, x1, x2] (st) h = mw d 61 Q 2 [x0, x1, x2] (.int 1 :: st) h := (mw_at mj_61_1).trans (z_iconst (by decide))
theorem mj_61_2 : mc_P 61 2 = some (.invokevirtual 187, 3, 48, 3, 2) := by decide +kernel
theorem s_61_2 {x0 x1 x2 : Option Value} {o : Nat} {a1 : Value} : mw (d + 1) 61 Q 2 [x0, x1, x2] (a1 :: .ref o :: st) h = (mg h o 3 ∧ mca st 8 ∧ mca [.ref o, a1] 2 ∧ mcall d 48 [.ref o, a1] h (mK (d + 1) 61 Q 5 [x0, x1, x2] st)) := (mw_at mj_61_2).trans ((z_invv (As := [a1]) (by decide) rfl rfl).trans (congrArg (And _) (congrArg (And _) (mC_nl nl_48))))
theorem mj_61_5 : mc_P 61 5 = some (.lookupswitch 236 #[(40, 35), (61, 47), (91, 133)], 35, 0, 0, 0) := by decide +kernel
theorem s_61_5 {x0 x1 x2 : Option Value} {x : Int32} : mw d 61 Q 5 [x0, x1, x2] (.int x :: st) h = mS x (mw d 61 Q) 241 [x0, x1, x2] st h [(40, 40), (61, 52), (91, 138)] := (mw_at mj_61_5).trans (z_look (by decide) (by decide) (by decide))
theorem mj_61_40 : mc_P 61 40 = some (.aload_n 0, 1, 0, 0, 0) := by decide +kernel
theorem s_61_40 {x1 x2 : Option Value} {w : Value} : mw d 61 Q 40 [some w, x1, x2] (st) h = mv_a w (mw d 61 Q 41 [some w, x1, x2] (w :: st) h) := (mw_at mj_61_40).trans (z_aload_n rfl)
theorem mj_61_41 : mc_P 61 41 = some (.iconst 4, 1, 0, 0, 0) := by decide +kernel
theorem s_61_41 {x0 x1 x2 : Option Value} : mw d 61 Q 41 [x0, x1, x2] (st) h = mw d 61 Q 42 [x0, x1, x2] (.int 4 :: st) h := (mw_at mj_61_41).trans (z_iconst (by decide))
theorem mj_61_42 : mc_P 61 42 = some (.invokevirtual 169, 3, 57, 3, 2) := by decide +kernel
theorem s_61_42 {x0 x1 x2 : Option Value} {o : Nat} {a1 : Value} : mw (d + 1) 61 Q 42 [x0, x1, x2] (a1 :: .ref o :: st) h = (mg h o 3 ∧ mca st 8 ∧ mca [.ref o, a1] 2 ∧ mcall d 57 [.ref o, a1] h (mK (d + 1) 61 Q 45 [x0, x1, x2] st)) := (mw_at mj_61_42).trans ((z_invv (As := [a1]) (by decide) rfl rfl).trans (congrArg (And _) (congrArg (And _) (mC_nl nl_57))))
theorem mj_61_45 : mc_P 61 45 = some (.aload_n 0, 1, 0, 0, 0) := by decide +kernel
theorem s_61_45 {x1 x2 : Option Value} {w : Value} : mw d 61 Q 45 [some w, x1, x2] (st) h = mv_a w (mw d 61 Q 46 [some w, x1, x2] (w :: st) h) := (mw_at mj_61_45).trans (z_aload_n rfl)
theorem mj_61_46 : mc_P 61 46 = some (.invokevirtual 191, 3, 62, 3, 1) := by decide +kernel
theorem s_61_46 {x0 x1 x2 : Option Value} {o : Nat} : mw (d + 1) 61 Q 46 [x0, x1, x2] (.ref o :: st) h = (mg h o 3 ∧ mca st 8 ∧ mca [.ref o] 1 ∧ mcall d 62 [.ref o] h (mK (d + 1) 61 Q 49 [x0, x1, x2] st)) := (mw_at mj_61_46).trans ((z_invv (As := []) (by decide) rfl rfl).trans (congrArg (And _) (congrArg (And _) (mC_nl nl_62))))
theorem mj_61_49 : mc_P 61 49 = some (.goto 206, 3, 0, 0, 0) := by decide +kernel
theorem s_61_49 {x0 x1 x2 : Option Value} : mw d 61 Q 49 [x0, x1, x2] (st) h = mw d 61 Q 255 [x0, x1, x2] (st) h := (mw_at mj_61_49).trans (z_goto (by decide))
theorem mj_61_52 : mc_P 61 52 = some (.aload_n 0, 1, 0, 0, 0) := by decide +kernel
theorem s_61_52 {x1 x2 : Option Value} {w : Value} : mw d 61 Q 52 [some w, x1, x2] (st) h = mv_a w (mw d 61 Q 53 [some w, x1, x2] (w :: st) h) := (mw_at mj_61_52).trans (z_aload_n rfl)
theorem mj_61_53 : mc_P 61 53 = some (.iconst 2, 1, 0, 0, 0) := by decide +kernel
theorem s_61_53 {x0 x1 x2 : Option Value} : mw d 61 Q 53 [x0, x1, x2] (st) h = mw d 61 Q 54 [x0, x1, x2] (.int 2 :: st) h := (mw_at mj_61_53).trans (z_iconst (by decide))
theorem mj_61_54 : mc_P 61 54 = some (.invokevirtual 187, 3, 48, 3, 2) := by decide +kernel
theorem s_61_54 {x0 x1 x2 : Option Value} {o : Nat} {a1 : Value} : mw (d + 1) 61 Q 54 [x0, x1, x2] (a1 :: .ref o :: st) h = (mg h o 3 ∧ mca st 8 ∧ mca [.ref o, a1] 2 ∧ mcall d 48 [.ref o, a1] h (mK (d + 1) 61 Q 57 [x0, x1, x2] st)) := (mw_at mj_61_54).trans ((z_invv (As := [a1]) (by decide) rfl rfl).trans (congrArg (And _) (congrArg (And _) (mC_nl nl_48))))
theorem mj_61_57 : mc_P 61 57 = some (.iconst 2, 1, 0, 0, 0) := by decide +kernel
theorem s_61_57 {x0 x1 x2 : Option Value} : mw d 61 Q 57 [x0, x1, x2] (st) h = mw d 61 Q 58 [x0, x1, x2] (.int 2 :: st) h := (mw_at mj_61_57).trans (z_iconst (by decide))
theorem mj_61_58 : mc_P 61 58 = some (.if_icmp .ne 17, 3, 0, 0, 0) := by decide +kernel
theorem s_61_58 {x0 x1 x2 : Option Value} {x w : Int32} : mw d 61 Q 58 [x0, x1, x2] (.int w :: .int x :: st) h = mB (¬ x = w) (mw d 61 Q) 75 61 [x0, x1, x2] st h := (mw_at mj_61_58).trans (z_icmp_ne (by decide) rfl)
theorem mj_61_61 : mc_P 61 61 = some (.aload_n 0, 1, 0, 0, 0) := by decide +kernel
theorem s_61_61 {x1 x2 : Option Value} {w : Value} : mw d 61 Q 61 [some w, x1, x2] (st) h = mv_a w (mw d 61 Q 62 [some w, x1, x2] (w :: st) h) := (mw_at mj_61_61).trans (z_aload_n rfl)
theorem mj_61_62 : mc_P 61 62 = some (.iconst 3, 1, 0, 0, 0) := by decide +kernel
theorem s_61_62 {x0 x1 x2 : Option Value} : mw d 61 Q 62 [x0, x1, x2] (st) h = mw d 61 Q 63 [x0, x1, x2] (.int 3 :: st) h := (mw_at mj_61_62).trans (z_iconst (by decide))
theorem mj_61_63 : mc_P 61 63 = some (.invokevirtual 187, 3, 48, 3, 2) := by decide +kernel
theorem s_61_63 {x0 x1 x2 : Option Value} {o : Nat} {a1 : Value} : mw (d + 1) 61 Q 63 [x0, x1, x2] (a1 :: .ref o :: st) h = (mg h o 3 ∧ mca st 8 ∧ mca [.ref o, a1] 2 ∧ mcall d 48 [.ref o, a1] h (mK (d + 1) 61 Q 66 [x0, x1, x2] st)) := (mw_at mj_61_63).trans ((z_invv (As := [a1]) (by decide) rfl rfl).trans (congrArg (And _) (congrArg (And _) (mC_nl nl_48))))
theorem mj_61_66 : mc_P 61 66 = some (.bipush 40, 2, 0, 0, 0) := by decide +kernel
theorem s_61_66 {x0 x1 x2 : Option Value} : mw d 61 Q 66 [x0, x1, x2] (st) h = mw d 61 Q 68 [x0, x1, x2] (.int 40 :: st) h := (mw_at mj_61_66).trans (z_bipush (by decide))
theorem mj_61_68 : mc_P 61 68 = some (.if_icmp .ne 7, 3, 0, 0, 0) := by decide +kernel
theorem s_61_68 {x0 x1 x2 : Option Value} {x w : Int32} : mw d 61 Q 68 [x0, x1, x2] (.int w :: .int x :: st) h = mB (¬ x = w) (mw d 61 Q) 75 71 [x0, x1, x2] st h := (mw_at mj_61_68).trans (z_icmp_ne (by decide) rfl)
theorem mj_61_71 : mc_P 61 71 = some (.iconst 1, 1, 0, 0, 0) := by decide +kernel
theorem s_61_71 {x0 x1 x2 : Option Value} : mw d 61 Q 71 [x0, x1, x2] (st) h = mw d 61 Q 72 [x0, x1, x2] (.int 1 :: st) h := (mw_at mj_61_71).trans (z_iconst (by decide))
theorem mj_61_72 : mc_P 61 72 = some (.goto 4, 3, 0, 0, 0) := by decide +kernel
theorem s_61_72 {x0 x1 x2 : Option Value} : mw d 61 Q 72 [x0, x1, x2] (st) h = mw d 61 Q 76 [x0, x1, x2] (st) h := (mw_at mj_61_72).trans (z_goto (by decide))
theorem mj_61_75 : mc_P 61 75 = some (.iconst 0, 1, 0, 0, 0) := by decide +kernel
theorem s_61_75 {x0 x1 x2 : Option Value} : mw d 61 Q 75 [x0, x1, x2] (st) h = mw d 61 Q 76 [x0, x1, x2] (.int 0 :: st) h := (mw_at mj_61_75).trans (z_iconst (by decide))
theorem mj_61_76 : mc_P 61 76 = some (.istore_n 1, 1, 0, 0, 0) := by decide +kernel
theorem s_61_76 {x0 x1 x2 : Option Value} {w : Int32} : mw d 61 Q 76 [x0, x1, x2] (.int w :: st) h = mw d 61 Q 77 [mk2 x0, some (.int w), x2] (st) h := (mw_at mj_61_76).trans (z_istore_n (Nat.le_of_ble_eq_true rfl) (me_s1_mk (j := 0) (w := x0) rfl))
theorem mj_61_77 : mc_P 61 77 = some (.aload_n 0, 1, 0, 0, 0) := by decide +kernel
theorem s_61_77 {x1 x2 : Option Value} {w : Value} : mw d 61 Q 77 [some w, x1, x2] (st) h = mv_a w (mw d 61 Q 78 [some w, x1, x2] (w :: st) h) := (mw_at mj_61_77).trans (z_aload_n rfl)
theorem mj_61_78 : mc_P 61 78 = some (.iload_n 1, 1, 0, 0, 0) := by decide +kernel
theorem s_61_78 {x0 x2 : Option Value} {w : Value} : mw d 61 Q 78 [x0, some w, x2] (st) h = mv_i w (mw d 61 Q 79 [x0, some w, x2] (w :: st) h) := (mw_at mj_61_78).trans (z_iload_n rfl)
theorem mj_61_79 : mc_P 61 79 = some (.ifCond .eq 7, 3, 0, 0, 0) := by decide +kernel
theorem s_61_79 {x0 x1 x2 : Option Value} {x : Int32} : mw d 61 Q 79 [x0, x1, x2] (.int x :: st) h = mB (x = 0) (mw d 61 Q) 86 82 [x0, x1, x2] st h := (mw_at mj_61_79).trans (z_if_eq (by decide) rfl)
theorem mj_61_82 : mc_P 61 82 = some (.iconst 4, 1, 0, 0, 0) := by decide +kernel
theorem s_61_82 {x0 x1 x2 : Option Value} : mw d 61 Q 82 [x0, x1, x2] (st) h = mw d 61 Q 83 [x0, x1, x2] (.int 4 :: st) h := (mw_at mj_61_82).trans (z_iconst (by decide))
theorem mj_61_83 : mc_P 61 83 = some (.goto 4, 3, 0, 0, 0) := by decide +kernel
theorem s_61_83 {x0 x1 x2 : Option Value} : mw d 61 Q 83 [x0, x1, x2] (st) h = mw d 61 Q 87 [x0, x1, x2] (st) h := (mw_at mj_61_83).trans (z_goto (by decide))
theorem mj_61_86 : mc_P 61 86 = some (.iconst 2, 1, 0, 0, 0) := by decide +kernel
theorem s_61_86 {x0 x1 x2 : Option Value} : mw d 61 Q 86 [x0, x1, x2] (st) h = mw d 61 Q 87 [x0, x1, x2] (.int 2 :: st) h := (mw_at mj_61_86).trans (z_iconst (by decide))
theorem mj_61_87 : mc_P 61 87 = some (.invokevirtual 169, 3, 57, 3, 2) := by decide +kernel
theorem s_61_87 {x0 x1 x2 : Option Value} {o : Nat} {a1 : Value} : mw (d + 1) 61 Q 87 [x0, x1, x2] (a1 :: .ref o :: st) h = (mg h o 3 ∧ mca st 8 ∧ mca [.ref o, a1] 2 ∧ mcall d 57 [.ref o, a1] h (mK (d + 1) 61 Q 90 [x0, x1, x2] st)) := (mw_at mj_61_87).trans ((z_invv (As := [a1]) (by decide) rfl rfl).trans (congrArg (And _) (congrArg (And _) (mC_nl nl_57))))
theorem mj_61_90 : mc_P 61 90 = some (.aload_n 0, 1, 0, 0, 0) := by decide +kernel
theorem s_61_90 {x1 x2 : Option Value} {w : Value} : mw d 61 Q 90 [some w, x1, x2] (st) h = mv_a w (mw d 61 Q 91 [some w, x1, x2] (w :: st) h) := (mw_at mj_61_90).trans (z_aload_n rfl)
theorem mj_61_91 : mc_P 61 91 = some (.getfield 117, 3, 3, 8, 0) := by decide +kernel
theorem s_61_91 {x0 x1 x2 : Option Value} {o : Nat} : mw d 61 Q 91 [x0, x1, x2] (.ref o :: st) h = (mg h o 3 ∧ mw d 61 Q 94 [x0, x1, x2] (va_rf (mh_r h o 8) :: st) h) := (mw_at mj_61_91).trans (z_getr (by decide) (by decide) rfl)
theorem mj_61_94 : mc_P 61 94 = some (.aload_n 0, 1, 0, 0, 0) := by decide +kernel
theorem s_61_94 {x1 x2 : Option Value} {w : Value} : mw d 61 Q 94 [some w, x1, x2] (st) h = mv_a w (mw d 61 Q 95 [some w, x1, x2] (w :: st) h) := (mw_at mj_61_94).trans (z_aload_n rfl)
theorem mj_61_95 : mc_P 61 95 = some (.invokevirtual 194, 3, 64, 3, 1) := by decide +kernel
theorem s_61_95 {x0 x1 x2 : Option Value} {o : Nat} : mw (d + 1) 61 Q 95 [x0, x1, x2] (.ref o :: st) h = (mg h o 3 ∧ mca st 8 ∧ mca [.ref o] 2 ∧ mcall d 64 [.ref o] h (mK (d + 1) 61 Q 98 [x0, x1, x2] st)) := (mw_at mj_61_95).trans ((z_invv (As := []) (by decide) rfl rfl).trans (congrArg (And _) (congrArg (And _) (mC_nl nl_64))))
theorem mj_61_98 : mc_P 61 98 = some (.putfield 197, 3, 9, 8, 0) := by decide +kernel
theorem s_61_98 {x0 x1 x2 : Option Value} {o : Nat} {w : Int32} : mw d 61 Q 98 [x0, x1, x2] (.int w :: .ref o :: st) h = (mg h o 9 ∧ mw d 61 Q 101 [x0, x1, x2] (st) (mh_si h o 8 w)) := (mw_at mj_61_98).trans (z_puti (by decide) (by decide) rfl)
theorem mj_61_101 : mc_P 61 101 = some (.aload_n 0, 1, 0, 0, 0) := by decide +kernel
theorem s_61_101 {x1 x2 : Option Value} {w : Value} : mw d 61 Q 101 [some w, x1, x2] (st) h = mv_a w (mw d 61 Q 102 [some w, x1, x2] (w :: st) h) := (mw_at mj_61_101).trans (z_aload_n rfl)
theorem mj_61_102 : mc_P 61 102 = some (.dup, 1, 0, 0, 0) := by decide +kernel
theorem s_61_102 {x0 x1 x2 : Option Value} {w : Value} : mw d 61 Q 102 [x0, x1, x2] (w :: st) h = (w.category = 1 ∧ mw d 61 Q 103 [x0, x1, x2] (w :: w :: st) h) := (mw_at mj_61_102).trans (z_dup)
theorem mj_61_103 : mc_P 61 103 = some (.getfield 95, 3, 3, 5, 0) := by decide +kernel
theorem s_61_103 {x0 x1 x2 : Option Value} {o : Nat} : mw d 61 Q 103 [x0, x1, x2] (.ref o :: st) h = (mg h o 3 ∧ mw d 61 Q 106 [x0, x1, x2] (.int (mh_i h o 5) :: st) h) := (mw_at mj_61_103).trans (z_geti (by decide) (by decide) (Or.inl rfl))
theorem mj_61_106 : mc_P 61 106 = some (.iconst 2, 1, 0, 0, 0) := by decide +kernel
theorem s_61_106 {x0 x1 x2 : Option Value} : mw d 61 Q 106 [x0, x1, x2] (st) h = mw d 61 Q 107 [x0, x1, x2] (.int 2 :: st) h := (mw_at mj_61_106).trans (z_iconst (by decide))
theorem mj_61_107 : mc_P 61 107 = some (.iadd, 1, 0, 0, 0) := by decide +kernel
theorem s_61_107 {x0 x1 x2 : Option Value} {x w : Int32} : mw d 61 Q 107 [x0, x1, x2] (.int w :: .int x :: st) h = mw d 61 Q 108 [x0, x1, x2] (.int (x + w) :: st) h := (mw_at mj_61_107).trans (z_iadd)
theorem mj_61_108 : mc_P 61 108 = some (.putfield 95, 3, 3, 5, 0) := by decide +kernel
theorem s_61_108 {x0 x1 x2 : Option Value} {o : Nat} {w : Int32} : mw d 61 Q 108 [x0, x1, x2] (.int w :: .ref o :: st) h = (mg h o 3 ∧ mw d 61 Q 111 [x0, x1, x2] (st) (mh_si h o 5 w)) := (mw_at mj_61_108).trans (z_puti (by decide) (by decide) rfl)
theorem mj_61_111 : mc_P 61 111 = some (.iload_n 1, 1, 0, 0, 0) := by decide +kernel
theorem s_61_111 {x0 x2 : Option Value} {w : Value} : mw d 61 Q 111 [x0, some w, x2] (st) h = mv_i w (mw d 61 Q 112 [x0, some w, x2] (w :: st) h) := (mw_at mj_61_111).trans (z_iload_n rfl)
theorem mj_61_112 : mc_P 61 112 = some (.ifCond .eq 10, 3, 0, 0, 0) := by decide +kernel
theorem s_61_112 {x0 x1 x2 : Option Value} {x : Int32} : mw d 61 Q 112 [x0, x1, x2] (.int x :: st) h = mB (x = 0) (mw d 61 Q) 122 115 [x0, x1, x2] st h := (mw_at mj_61_112).trans (z_if_eq (by decide) rfl)
theorem mj_61_115 : mc_P 61 115 = some (.aload_n 0, 1, 0, 0, 0) := by decide +kernel
theorem s_61_115 {x1 x2 : Option Value} {w : Value} : mw d 61 Q 115 [some w, x1, x2] (st) h = mv_a w (mw d 61 Q 116 [some w, x1, x2] (w :: st) h) := (mw_at mj_61_115).trans (z_aload_n rfl)
theorem mj_61_116 : mc_P 61 116 = some (.invokevirtual 191, 3, 62, 3, 1) := by decide +kernel
theorem s_61_116 {x0 x1 x2 : Option Value} {o : Nat} : mw (d + 1) 61 Q 116 [x0, x1, x2] (.ref o :: st) h = (mg h o 3 ∧ mca st 8 ∧ mca [.ref o] 1 ∧ mcall d 62 [.ref o] h (mK (d + 1) 61 Q 119 [x0, x1, x2] st)) := (mw_at mj_61_116).trans ((z_invv (As := []) (by decide) rfl rfl).trans (congrArg (And _) (congrArg (And _) (mC_nl nl_62))))
theorem mj_61_119 : mc_P 61 119 = some (.goto 136, 3, 0, 0, 0) := by decide +kernel
theorem s_61_119 {x0 x1 x2 : Option Value} : mw d 61 Q 119 [x0, x1, x2] (st) h = mw d 61 Q 255 [x0, x1, x2] (st) h := (mw_at mj_61_119).trans (z_goto (by decide))
theorem mj_61_122 : mc_P 61 122 = some (.aload_n 0, 1, 0, 0, 0) := by decide +kernel
theorem s_61_122 {x1 x2 : Option Value} {w : Value} : mw d 61 Q 122 [some w, x1, x2] (st) h = mv_a w (mw d 61 Q 123 [some w, x1, x2] (w :: st) h) := (mw_at mj_61_122).trans (z_aload_n rfl)
theorem mj_61_123 : mc_P 61 123 = some (.bipush 59, 2, 0, 0, 0) := by decide +kernel
theorem s_61_123 {x0 x1 x2 : Option Value} : mw d 61 Q 123 [x0, x1, x2] (st) h = mw d 61 Q 125 [x0, x1, x2] (.int 59 :: st) h := (mw_at mj_61_123).trans (z_bipush (by decide))
theorem mj_61_125 : mc_P 61 125 = some (.invokevirtual 51, 3, 45, 3, 2) := by decide +kernel
theorem s_61_125 {x0 x1 x2 : Option Value} {o : Nat} {a1 : Value} : mw (d + 1) 61 Q 125 [x0, x1, x2] (a1 :: .ref o :: st) h = (mg h o 3 ∧ mca st 8 ∧ mca [.ref o, a1] 2 ∧ mcall d 45 [.ref o, a1] h (mK (d + 1) 61 Q 128 [x0, x1, x2] st)) := (mw_at mj_61_125).trans ((z_invv (As := [a1]) (by decide) rfl rfl).trans (congrArg (And _) (congrArg (And _) (mC_nl nl_45))))
theorem mj_61_128 : mc_P 61 128 = some (.aload_n 0, 1, 0, 0, 0) := by decide +kernel
theorem s_61_128 {x1 x2 : Option Value} {w : Value} : mw d 61 Q 128 [some w, x1, x2] (st) h = mv_a w (mw d 61 Q 129 [some w, x1, x2] (w :: st) h) := (mw_at mj_61_128).trans (z_aload_n rfl)
theorem mj_61_129 : mc_P 61 129 = some (.sipush 161, 3, 0, 0, 0) := by decide +kernel
theorem s_61_129 {x0 x1 x2 : Option Value} : mw d 61 Q 129 [x0, x1, x2] (st) h = mw d 61 Q 132 [x0, x1, x2] (.int 161 :: st) h := (mw_at mj_61_129).trans (z_sipush (by decide))
theorem mj_61_132 : mc_P 61 132 = some (.invokevirtual 51, 3, 45, 3, 2) := by decide +kernel
theorem s_61_132 {x0 x1 x2 : Option Value} {o : Nat} {a1 : Value} : mw (d + 1) 61 Q 132 [x0, x1, x2] (a1 :: .ref o :: st) h = (mg h o 3 ∧ mca st 8 ∧ mca [.ref o, a1] 2 ∧ mcall d 45 [.ref o, a1] h (mK (d + 1) 61 Q 135 [x0, x1, x2] st)) := (mw_at mj_61_132).trans ((z_invv (As := [a1]) (by decide) rfl rfl).trans (congrArg (And _) (congrArg (And _) (mC_nl nl_45))))
theorem mj_61_135 : mc_P 61 135 = some (.goto 120, 3, 0, 0, 0) := by decide +kernel
theorem s_61_135 {x0 x1 x2 : Option Value} : mw d 61 Q 135 [x0, x1, x2] (st) h = mw d 61 Q 255 [x0, x1, x2] (st) h := (mw_at mj_61_135).trans (z_goto (by decide))
theorem mj_61_138 : mc_P 61 138 = some (.aload_n 0, 1, 0, 0, 0) := by decide +kernel
theorem s_61_138 {x1 x2 : Option Value} {w : Value} : mw d 61 Q 138 [some w, x1, x2] (st) h = mv_a w (mw d 61 Q 139 [some w, x1, x2] (w :: st) h) := (mw_at mj_61_138).trans (z_aload_n rfl)
theorem mj_61_139 : mc_P 61 139 = some (.iconst 3, 1, 0, 0, 0) := by decide +kernel
theorem s_61_139 {x0 x1 x2 : Option Value} : mw d 61 Q 139 [x0, x1, x2] (st) h = mw d 61 Q 140 [x0, x1, x2] (.int 3 :: st) h := (mw_at mj_61_139).trans (z_iconst (by decide))
theorem mj_61_140 : mc_P 61 140 = some (.invokevirtual 169, 3, 57, 3, 2) := by decide +kernel
theorem s_61_140 {x0 x1 x2 : Option Value} {o : Nat} {a1 : Value} : mw (d + 1) 61 Q 140 [x0, x1, x2] (a1 :: .ref o :: st) h = (mg h o 3 ∧ mca st 8 ∧ mca [.ref o, a1] 2 ∧ mcall d 57 [.ref o, a1] h (mK (d + 1) 61 Q 143 [x0, x1, x2] st)) := (mw_at mj_61_140).trans ((z_invv (As := [a1]) (by decide) rfl rfl).trans (congrArg (And _) (congrArg (And _) (mC_nl nl_57))))
theorem mj_61_143 : mc_P 61 143 = some (.aload_n 0, 1, 0, 0, 0) := by decide +kernel
theorem s_61_143 {x1 x2 : Option Value} {w : Value} : mw d 61 Q 143 [some w, x1, x2] (st) h = mv_a w (mw d 61 Q 144 [some w, x1, x2] (w :: st) h) := (mw_at mj_61_143).trans (z_aload_n rfl)
theorem mj_61_144 : mc_P 61 144 = some (.invokevirtual 200, 3, 65, 3, 1) := by decide +kernel
theorem s_61_144 {x0 x1 x2 : Option Value} {o : Nat} : mw (d + 1) 61 Q 144 [x0, x1, x2] (.ref o :: st) h = (mg h o 3 ∧ mca st 8 ∧ mca [.ref o] 2 ∧ mcall d 65 [.ref o] h (mK (d + 1) 61 Q 147 [x0, x1, x2] st)) := (mw_at mj_61_144).trans ((z_invv (As := []) (by decide) rfl rfl).trans (congrArg (And _) (congrArg (And _) (mC_nl nl_65))))
theorem mj_61_147 : mc_P 61 147 = some (.istore_n 2, 1, 0, 0, 0) := by decide +kernel
theorem s_61_147 {x0 x1 x2 : Option Value} {w : Int32} : mw d 61 Q 147 [x0, x1, x2] (.int w :: st) h = mw d 61 Q 148 [x0, mk2 x1, some (.int w)] (st) h := (mw_at mj_61_147).trans (z_istore_n (Nat.le_of_ble_eq_true rfl) (me_s1_mk (j := 1) (w := x1) rfl))
theorem mj_61_148 : mc_P 61 148 = some (.aload_n 0, 1, 0, 0, 0) := by decide +kernel
theorem s_61_148 {x1 x2 : Option Value} {w : Value} : mw d 61 Q 148 [some w, x1, x2] (st) h = mv_a w (mw d 61 Q 149 [some w, x1, x2] (w :: st) h) := (mw_at mj_61_148).trans (z_aload_n rfl)
theorem mj_61_149 : mc_P 61 149 = some (.getfield 117, 3, 3, 8, 0) := by decide +kernel
theorem s_61_149 {x0 x1 x2 : Option Value} {o : Nat} : mw d 61 Q 149 [x0, x1, x2] (.ref o :: st) h = (mg h o 3 ∧ mw d 61 Q 152 [x0, x1, x2] (va_rf (mh_r h o 8) :: st) h) := (mw_at mj_61_149).trans (z_getr (by decide) (by decide) rfl)
theorem mj_61_152 : mc_P 61 152 = some (.iload_n 2, 1, 0, 0, 0) := by decide +kernel
theorem s_61_152 {x0 x1 : Option Value} {w : Value} : mw d 61 Q 152 [x0, x1, some w] (st) h = mv_i w (mw d 61 Q 153 [x0, x1, some w] (w :: st) h) := (mw_at mj_61_152).trans (z_iload_n rfl)
theorem mj_61_153 : mc_P 61 153 = some (.iconst (-1), 1, 0, 0, 0) := by decide +kernel
theorem s_61_153 {x0 x1 x2 : Option Value} : mw d 61 Q 153 [x0, x1, x2] (st) h = mw d 61 Q 154 [x0, x1, x2] (.int (-1) :: st) h := (mw_at mj_61_153).trans (z_iconst (by decide))
theorem mj_61_154 : mc_P 61 154 = some (.if_icmp .ne 7, 3, 0, 0, 0) := by decide +kernel
theorem s_61_154 {x0 x1 x2 : Option Value} {x w : Int32} : mw d 61 Q 154 [x0, x1, x2] (.int w :: .int x :: st) h = mB (¬ x = w) (mw d 61 Q) 161 157 [x0, x1, x2] st h := (mw_at mj_61_154).trans (z_icmp_ne (by decide) rfl)
theorem mj_61_157 : mc_P 61 157 = some (.iconst 0, 1, 0, 0, 0) := by decide +kernel
theorem s_61_157 {x0 x1 x2 : Option Value} : mw d 61 Q 157 [x0, x1, x2] (st) h = mw d 61 Q 158 [x0, x1, x2] (.int 0 :: st) h := (mw_at mj_61_157).trans (z_iconst (by decide))
theorem mj_61_158 : mc_P 61 158 = some (.goto 11, 3, 0, 0, 0) := by decide +kernel
theorem s_61_158 {x0 x1 x2 : Option Value} : mw d 61 Q 158 [x0, x1, x2] (st) h = mw d 61 Q 169 [x0, x1, x2] (st) h := (mw_at mj_61_158).trans (z_goto (by decide))
theorem mj_61_161 : mc_P 61 161 = some (.aload_n 0, 1, 0, 0, 0) := by decide +kernel
theorem s_61_161 {x1 x2 : Option Value} {w : Value} : mw d 61 Q 161 [some w, x1, x2] (st) h = mv_a w (mw d 61 Q 162 [some w, x1, x2] (w :: st) h) := (mw_at mj_61_161).trans (z_aload_n rfl)
theorem mj_61_162 : mc_P 61 162 = some (.getfield 32, 3, 3, 2, 0) := by decide +kernel
theorem s_61_162 {x0 x1 x2 : Option Value} {o : Nat} : mw d 61 Q 162 [x0, x1, x2] (.ref o :: st) h = (mg h o 3 ∧ mw d 61 Q 165 [x0, x1, x2] (va_rf (mh_r h o 2) :: st) h) := (mw_at mj_61_162).trans (z_getr (by decide) (by decide) rfl)
theorem mj_61_165 : mc_P 61 165 = some (.iload_n 2, 1, 0, 0, 0) := by decide +kernel
theorem s_61_165 {x0 x1 : Option Value} {w : Value} : mw d 61 Q 165 [x0, x1, some w] (st) h = mv_i w (mw d 61 Q 166 [x0, x1, some w] (w :: st) h) := (mw_at mj_61_165).trans (z_iload_n rfl)
theorem mj_61_166 : mc_P 61 166 = some (.invokevirtual 203, 3, 123, 6, 2) := by decide +kernel
theorem s_61_166 {x0 x1 x2 : Option Value} {o : Nat} {a1 : Value} : mw (d + 1) 61 Q 166 [x0, x1, x2] (a1 :: .ref o :: st) h = (mg h o 6 ∧ mca st 8 ∧ mca [.ref o, a1] 2 ∧ mcall d 123 [.ref o, a1] h (mK (d + 1) 61 Q 169 [x0, x1, x2] st)) := (mw_at mj_61_166).trans ((z_invv (As := [a1]) (by decide) rfl rfl).trans (congrArg (And _) (congrArg (And _) (mC_nl nl_123))))
theorem mj_61_169 : mc_P 61 169 = some (.putfield 197, 3, 9, 8, 0) := by decide +kernel
theorem s_61_169 {x0 x1 x2 : Option Value} {o : Nat} {w : Int32} : mw d 61 Q 169 [x0, x1, x2] (.int w :: .ref o :: st) h = (mg h o 9 ∧ mw d 61 Q 172 [x0, x1, x2] (st) (mh_si h o 8 w)) := (mw_at mj_61_169).trans (z_puti (by decide) (by decide) rfl)
theorem mj_61_172 : mc_P 61 172 = some (.aload_n 0, 1, 0, 0, 0) := by decide +kernel
theorem s_61_172 {x1 x2 : Option Value} {w : Value} : mw d 61 Q 172 [some w, x1, x2] (st) h = mv_a w (mw d 61 Q 173 [some w, x1, x2] (w :: st) h) := (mw_at mj_61_172).trans (z_aload_n rfl)
theorem mj_61_173 : mc_P 61 173 = some (.getfield 117, 3, 3, 8, 0) := by decide +kernel
theorem s_61_173 {x0 x1 x2 : Option Value} {o : Nat} : mw d 61 Q 173 [x0, x1, x2] (.ref o :: st) h = (mg h o 3 ∧ mw d 61 Q 176 [x0, x1, x2] (va_rf (mh_r h o 8) :: st) h) := (mw_at mj_61_173).trans (z_getr (by decide) (by decide) rfl)
theorem mj_61_176 : mc_P 61 176 = some (.iload_n 2, 1, 0, 0, 0) := by decide +kernel
theorem s_61_176 {x0 x1 : Option Value} {w : Value} : mw d 61 Q 176 [x0, x1, some w] (st) h = mv_i w (mw d 61 Q 177 [x0, x1, some w] (w :: st) h) := (mw_at mj_61_176).trans (z_iload_n rfl)
theorem mj_61_177 : mc_P 61 177 = some (.iconst (-1), 1, 0, 0, 0) := by decide +kernel
theorem s_61_177 {x0 x1 x2 : Option Value} : mw d 61 Q 177 [x0, x1, x2] (st) h = mw d 61 Q 178 [x0, x1, x2] (.int (-1) :: st) h := (mw_at mj_61_177).trans (z_iconst (by decide))
theorem mj_61_178 : mc_P 61 178 = some (.if_icmp .ne 7, 3, 0, 0, 0) := by decide +kernel
theorem s_61_178 {x0 x1 x2 : Option Value} {x w : Int32} : mw d 61 Q 178 [x0, x1, x2] (.int w :: .int x :: st) h = mB (¬ x = w) (mw d 61 Q) 185 181 [x0, x1, x2] st h := (mw_at mj_61_178).trans (z_icmp_ne (by decide) rfl)
theorem mj_61_181 : mc_P 61 181 = some (.iconst 1, 1, 0, 0, 0) := by decide +kernel
theorem s_61_181 {x0 x1 x2 : Option Value} : mw d 61 Q 181 [x0, x1, x2] (st) h = mw d 61 Q 182 [x0, x1, x2] (.int 1 :: st) h := (mw_at mj_61_181).trans (z_iconst (by decide))
theorem mj_61_182 : mc_P 61 182 = some (.goto 11, 3, 0, 0, 0) := by decide +kernel
theorem s_61_182 {x0 x1 x2 : Option Value} : mw d 61 Q 182 [x0, x1, x2] (st) h = mw d 61 Q 193 [x0, x1, x2] (st) h := (mw_at mj_61_182).trans (z_goto (by decide))
theorem mj_61_185 : mc_P 61 185 = some (.aload_n 0, 1, 0, 0, 0) := by decide +kernel
theorem s_61_185 {x1 x2 : Option Value} {w : Value} : mw d 61 Q 185 [some w, x1, x2] (st) h = mv_a w (mw d 61 Q 186 [some w, x1, x2] (w :: st) h) := (mw_at mj_61_185).trans (z_aload_n rfl)
theorem mj_61_186 : mc_P 61 186 = some (.getfield 32, 3, 3, 2, 0) := by decide +kernel
theorem s_61_186 {x0 x1 x2 : Option Value} {o : Nat} : mw d 61 Q 186 [x0, x1, x2] (.ref o :: st) h = (mg h o 3 ∧ mw d 61 Q 189 [x0, x1, x2] (va_rf (mh_r h o 2) :: st) h) := (mw_at mj_61_186).trans (z_getr (by decide) (by decide) rfl)
theorem mj_61_189 : mc_P 61 189 = some (.iload_n 2, 1, 0, 0, 0) := by decide +kernel
theorem s_61_189 {x0 x1 : Option Value} {w : Value} : mw d 61 Q 189 [x0, x1, some w] (st) h = mv_i w (mw d 61 Q 190 [x0, x1, some w] (w :: st) h) := (mw_at mj_61_189).trans (z_iload_n rfl)
theorem mj_61_190 : mc_P 61 190 = some (.invokevirtual 206, 3, 124, 6, 2) := by decide +kernel
theorem s_61_190 {x0 x1 x2 : Option Value} {o : Nat} {a1 : Value} : mw (d + 1) 61 Q 190 [x0, x1, x2] (a1 :: .ref o :: st) h = (mg h o 6 ∧ mca st 8 ∧ mca [.ref o, a1] 2 ∧ mcall d 124 [.ref o, a1] h (mK (d + 1) 61 Q 193 [x0, x1, x2] st)) := (mw_at mj_61_190).trans ((z_invv (As := [a1]) (by decide) rfl rfl).trans (congrArg (And _) (congrArg (And _) (mC_nl nl_124))))
theorem mj_61_193 : mc_P 61 193 = some (.putfield 209, 3, 9, 9, 0) := by decide +kernel
theorem s_61_193 {x0 x1 x2 : Option Value} {o : Nat} {w : Int32} : mw d 61 Q 193 [x0, x1, x2] (.int w :: .ref o :: st) h = (mg h o 9 ∧ mw d 61 Q 196 [x0, x1, x2] (st) (mh_si h o 9 w)) := (mw_at mj_61_193).trans (z_puti (by decide) (by decide) rfl)
theorem mj_61_196 : mc_P 61 196 = some (.aload_n 0, 1, 0, 0, 0) := by decide +kernel
theorem s_61_196 {x1 x2 : Option Value} {w : Value} : mw d 61 Q 196 [some w, x1, x2] (st) h = mv_a w (mw d 61 Q 197 [some w, x1, x2] (w :: st) h) := (mw_at mj_61_196).trans (z_aload_n rfl)
theorem mj_61_197 : mc_P 61 197 = some (.dup, 1, 0, 0, 0) := by decide +kernel
theorem s_61_197 {x0 x1 x2 : Option Value} {w : Value} : mw d 61 Q 197 [x0, x1, x2] (w :: st) h = (w.category = 1 ∧ mw d 61 Q 198 [x0, x1, x2] (w :: w :: st) h) := (mw_at mj_61_197).trans (z_dup)
theorem mj_61_198 : mc_P 61 198 = some (.getfield 95, 3, 3, 5, 0) := by decide +kernel
theorem s_61_198 {x0 x1 x2 : Option Value} {o : Nat} : mw d 61 Q 198 [x0, x1, x2] (.ref o :: st) h = (mg h o 3 ∧ mw d 61 Q 201 [x0, x1, x2] (.int (mh_i h o 5) :: st) h) := (mw_at mj_61_198).trans (z_geti (by decide) (by decide) (Or.inl rfl))
theorem mj_61_201 : mc_P 61 201 = some (.iconst 2, 1, 0, 0, 0) := by decide +kernel
theorem s_61_201 {x0 x1 x2 : Option Value} : mw d 61 Q 201 [x0, x1, x2] (st) h = mw d 61 Q 202 [x0, x1, x2] (.int 2 :: st) h := (mw_at mj_61_201).trans (z_iconst (by decide))
theorem mj_61_202 : mc_P 61 202 = some (.iadd, 1, 0, 0, 0) := by decide +kernel
theorem s_61_202 {x0 x1 x2 : Option Value} {x w : Int32} : mw d 61 Q 202 [x0, x1, x2] (.int w :: .int x :: st) h = mw d 61 Q 203 [x0, x1, x2] (.int (x + w) :: st) h := (mw_at mj_61_202).trans (z_iadd)
theorem mj_61_203 : mc_P 61 203 = some (.putfield 95, 3, 3, 5, 0) := by decide +kernel
theorem s_61_203 {x0 x1 x2 : Option Value} {o : Nat} {w : Int32} : mw d 61 Q 203 [x0, x1, x2] (.int w :: .ref o :: st) h = (mg h o 3 ∧ mw d 61 Q 206 [x0, x1, x2] (st) (mh_si h o 5 w)) := (mw_at mj_61_203).trans (z_puti (by decide) (by decide) rfl)
theorem mj_61_206 : mc_P 61 206 = some (.aload_n 0, 1, 0, 0, 0) := by decide +kernel
theorem s_61_206 {x1 x2 : Option Value} {w : Value} : mw d 61 Q 206 [some w, x1, x2] (st) h = mv_a w (mw d 61 Q 207 [some w, x1, x2] (w :: st) h) := (mw_at mj_61_206).trans (z_aload_n rfl)
theorem mj_61_207 : mc_P 61 207 = some (.bipush 59, 2, 0, 0, 0) := by decide +kernel
theorem s_61_207 {x0 x1 x2 : Option Value} : mw d 61 Q 207 [x0, x1, x2] (st) h = mw d 61 Q 209 [x0, x1, x2] (.int 59 :: st) h := (mw_at mj_61_207).trans (z_bipush (by decide))
theorem mj_61_209 : mc_P 61 209 = some (.invokevirtual 51, 3, 45, 3, 2) := by decide +kernel
theorem s_61_209 {x0 x1 x2 : Option Value} {o : Nat} {a1 : Value} : mw (d + 1) 61 Q 209 [x0, x1, x2] (a1 :: .ref o :: st) h = (mg h o 3 ∧ mca st 8 ∧ mca [.ref o, a1] 2 ∧ mcall d 45 [.ref o, a1] h (mK (d + 1) 61 Q 212 [x0, x1, x2] st)) := (mw_at mj_61_209).trans ((z_invv (As := [a1]) (by decide) rfl rfl).trans (congrArg (And _) (congrArg (And _) (mC_nl nl_45))))
theorem mj_61_212 : mc_P 61 212 = some (.aload_n 0, 1, 0, 0, 0) := by decide +kernel
theorem s_61_212 {x1 x2 : Option Value} {w : Value} : mw d 61 Q 212 [some w, x1, x2] (st) h = mv_a w (mw d 61 Q 213 [some w, x1, x2] (w :: st) h) := (mw_at mj_61_212).trans (z_aload_n rfl)
theorem mj_61_213 : mc_P 61 213 = some (.sipush 161, 3, 0, 0, 0) := by decide +kernel
theorem s_61_213 {x0 x1 x2 : Option Value} : mw d 61 Q 213 [x0, x1, x2] (st) h = mw d 61 Q 216 [x0, x1, x2] (.int 161 :: st) h := (mw_at mj_61_213).trans (z_sipush (by decide))
theorem mj_61_216 : mc_P 61 216 = some (.invokevirtual 51, 3, 45, 3, 2) := by decide +kernel
theorem s_61_216 {x0 x1 x2 : Option Value} {o : Nat} {a1 : Value} : mw (d + 1) 61 Q 216 [x0, x1, x2] (a1 :: .ref o :: st) h = (mg h o 3 ∧ mca st 8 ∧ mca [.ref o, a1] 2 ∧ mcall d 45 [.ref o, a1] h (mK (d + 1) 61 Q 219 [x0, x1, x2] st)) := (mw_at mj_61_216).trans ((z_invv (As := [a1]) (by decide) rfl rfl).trans (congrArg (And _) (congrArg (And _) (mC_nl nl_45))))
theorem mj_61_219 : mc_P 61 219 = some (.aload_n 0, 1, 0, 0, 0) := by decide +kernel
theorem s_61_219 {x1 x2 : Option Value} {w : Value} : mw d 61 Q 219 [some w, x1, x2] (st) h = mv_a w (mw d 61 Q 220 [some w, x1, x2] (w :: st) h) := (mw_at mj_61_219).trans (z_aload_n rfl)
theorem mj_61_220 : mc_P 61 220 = some (.bipush 61, 2, 0, 0, 0) := by decide +kernel
theorem s_61_220 {x0 x1 x2 : Option Value} : mw d 61 Q 220 [x0, x1, x2] (st) h = mw d 61 Q 222 [x0, x1, x2] (.int 61 :: st) h := (mw_at mj_61_220).trans (z_bipush (by decide))
theorem mj_61_222 : mc_P 61 222 = some (.invokevirtual 51, 3, 45, 3, 2) := by decide +kernel
theorem s_61_222 {x0 x1 x2 : Option Value} {o : Nat} {a1 : Value} : mw (d + 1) 61 Q 222 [x0, x1, x2] (a1 :: .ref o :: st) h = (mg h o 3 ∧ mca st 8 ∧ mca [.ref o, a1] 2 ∧ mcall d 45 [.ref o, a1] h (mK (d + 1) 61 Q 225 [x0, x1, x2] st)) := (mw_at mj_61_222).trans ((z_invv (As := [a1]) (by decide) rfl rfl).trans (congrArg (And _) (congrArg (And _) (mC_nl nl_45))))
theorem mj_61_225 : mc_P 61 225 = some (.aload_n 0, 1, 0, 0, 0) := by decide +kernel
theorem s_61_225 {x1 x2 : Option Value} {w : Value} : mw d 61 Q 225 [some w, x1, x2] (st) h = mv_a w (mw d 61 Q 226 [some w, x1, x2] (w :: st) h) := (mw_at mj_61_225).trans (z_aload_n rfl)
theorem mj_61_226 : mc_P 61 226 = some (.bipush 93, 2, 0, 0, 0) := by decide +kernel
theorem s_61_226 {x0 x1 x2 : Option Value} : mw d 61 Q 226 [x0, x1, x2] (st) h = mw d 61 Q 228 [x0, x1, x2] (.int 93 :: st) h := (mw_at mj_61_226).trans (z_bipush (by decide))
theorem mj_61_228 : mc_P 61 228 = some (.invokevirtual 51, 3, 45, 3, 2) := by decide +kernel
theorem s_61_228 {x0 x1 x2 : Option Value} {o : Nat} {a1 : Value} : mw (d + 1) 61 Q 228 [x0, x1, x2] (a1 :: .ref o :: st) h = (mg h o 3 ∧ mca st 8 ∧ mca [.ref o, a1] 2 ∧ mcall d 45 [.ref o, a1] h (mK (d + 1) 61 Q 231 [x0, x1, x2] st)) := (mw_at mj_61_228).trans ((z_invv (As := [a1]) (by decide) rfl rfl).trans (congrArg (And _) (congrArg (And _) (mC_nl nl_45))))
theorem mj_61_231 : mc_P 61 231 = some (.aload_n 0, 1, 0, 0, 0) := by decide +kernel
theorem s_61_231 {x1 x2 : Option Value} {w : Value} : mw d 61 Q 231 [some w, x1, x2] (st) h = mv_a w (mw d 61 Q 232 [some w, x1, x2] (w :: st) h) := (mw_at mj_61_231).trans (z_aload_n rfl)
theorem mj_61_232 : mc_P 61 232 = some (.sipush 161, 3, 0, 0, 0) := by decide +kernel
theorem s_61_232 {x0 x1 x2 : Option Value} : mw d 61 Q 232 [x0, x1, x2] (st) h = mw d 61 Q 235 [x0, x1, x2] (.int 161 :: st) h := (mw_at mj_61_232).trans (z_sipush (by decide))
theorem mj_61_235 : mc_P 61 235 = some (.invokevirtual 51, 3, 45, 3, 2) := by decide +kernel
theorem s_61_235 {x0 x1 x2 : Option Value} {o : Nat} {a1 : Value} : mw (d + 1) 61 Q 235 [x0, x1, x2] (a1 :: .ref o :: st) h = (mg h o 3 ∧ mca st 8 ∧ mca [.ref o, a1] 2 ∧ mcall d 45 [.ref o, a1] h (mK (d + 1) 61 Q 238 [x0, x1, x2] st)) := (mw_at mj_61_235).trans ((z_invv (As := [a1]) (by decide) rfl rfl).trans (congrArg (And _) (congrArg (And _) (mC_nl nl_45))))
theorem mj_61_238 : mc_P 61 238 = some (.goto 17, 3, 0, 0, 0) := by decide +kernel
theorem s_61_238 {x0 x1 x2 : Option Value} : mw d 61 Q 238 [x0, x1, x2] (st) h = mw d 61 Q 255 [x0, x1, x2] (st) h := (mw_at mj_61_238).trans (z_goto (by decide))
theorem mj_61_241 : mc_P 61 241 = some (.aload_n 0, 1, 0, 0, 0) := by decide +kernel
theorem s_61_241 {x1 x2 : Option Value} {w : Value} : mw d 61 Q 241 [some w, x1, x2] (st) h = mv_a w (mw d 61 Q 242 [some w, x1, x2] (w :: st) h) := (mw_at mj_61_241).trans (z_aload_n rfl)
theorem mj_61_242 : mc_P 61 242 = some (.dup, 1, 0, 0, 0) := by decide +kernel
theorem s_61_242 {x0 x1 x2 : Option Value} {w : Value} : mw d 61 Q 242 [x0, x1, x2] (w :: st) h = (w.category = 1 ∧ mw d 61 Q 243 [x0, x1, x2] (w :: w :: st) h) := (mw_at mj_61_242).trans (z_dup)
theorem mj_61_243 : mc_P 61 243 = some (.getfield 95, 3, 3, 5, 0) := by decide +kernel
theorem s_61_243 {x0 x1 x2 : Option Value} {o : Nat} : mw d 61 Q 243 [x0, x1, x2] (.ref o :: st) h = (mg h o 3 ∧ mw d 61 Q 246 [x0, x1, x2] (.int (mh_i h o 5) :: st) h) := (mw_at mj_61_243).trans (z_geti (by decide) (by decide) (Or.inl rfl))
theorem mj_61_246 : mc_P 61 246 = some (.iconst 1, 1, 0, 0, 0) := by decide +kernel
theorem s_61_246 {x0 x1 x2 : Option Value} : mw d 61 Q 246 [x0, x1, x2] (st) h = mw d 61 Q 247 [x0, x1, x2] (.int 1 :: st) h := (mw_at mj_61_246).trans (z_iconst (by decide))
theorem mj_61_247 : mc_P 61 247 = some (.iadd, 1, 0, 0, 0) := by decide +kernel
theorem s_61_247 {x0 x1 x2 : Option Value} {x w : Int32} : mw d 61 Q 247 [x0, x1, x2] (.int w :: .int x :: st) h = mw d 61 Q 248 [x0, x1, x2] (.int (x + w) :: st) h := (mw_at mj_61_247).trans (z_iadd)
theorem mj_61_248 : mc_P 61 248 = some (.putfield 95, 3, 3, 5, 0) := by decide +kernel
theorem s_61_248 {x0 x1 x2 : Option Value} {o : Nat} {w : Int32} : mw d 61 Q 248 [x0, x1, x2] (.int w :: .ref o :: st) h = (mg h o 3 ∧ mw d 61 Q 251 [x0, x1, x2] (st) (mh_si h o 5 w)) := (mw_at mj_61_248).trans (z_puti (by decide) (by decide) rfl)
theorem mj_61_251 : mc_P 61 251 = some (.aload_n 0, 1, 0, 0, 0) := by decide +kernel
theorem s_61_251 {x1 x2 : Option Value} {w : Value} : mw d 61 Q 251 [some w, x1, x2] (st) h = mv_a w (mw d 61 Q 252 [some w, x1, x2] (w :: st) h) := (mw_at mj_61_251).trans (z_aload_n rfl)
theorem mj_61_252 : mc_P 61 252 = some (.invokevirtual 111, 3, 50, 3, 1) := by decide +kernel
theorem s_61_252 {x0 x1 x2 : Option Value} {o : Nat} : mw (d + 1) 61 Q 252 [x0, x1, x2] (.ref o :: st) h = (mg h o 3 ∧ mca st 8 ∧ mca [.ref o] 1 ∧ mcall d 50 [.ref o] h (mK (d + 1) 61 Q 255 [x0, x1, x2] st)) := (mw_at mj_61_252).trans ((z_invv (As := []) (by decide) rfl rfl).trans (congrArg (And _) (congrArg (And _) (mC_nl nl_50))))
theorem mj_61_255 : mc_P 61 255 = some (.return_, 1, 0, 0, 0) := by decide +kernel
theorem s_61_255 {x0 x1 x2 : Option Value} : mw d 61 Q 255 [x0, x1, x2] ([]) h = Q none h := (mw_at mj_61_255).trans (z_vret)
theorem e_61 {a0 : Nat} : mcall d 61 [.ref a0] h Q = mw d 61 Q 0 [some (.ref a0), none, none] [] h := by
  show mw d 61 Q 0 (me_en (mc_nl 61) _) [] h = _
  rw [nl_61]; rfl

/-! InvariantDesk$Parser.beginCall()V -/
theorem mj_62_0 : mc_P 62 0 = some (.aload_n 0, 1, 0, 0, 0) := by decide +kernel
theorem s_62_0 {w : Value} : mw d 62 Q 0 [some w] (st) h = mv_a w (mw d 62 Q 1 [some w] (w :: st) h) := (mw_at mj_62_0).trans (z_aload_n rfl)
theorem mj_62_1 : mc_P 62 1 = some (.aload_n 0, 1, 0, 0, 0) := by decide +kernel
theorem s_62_1 {w : Value} : mw d 62 Q 1 [some w] (st) h = mv_a w (mw d 62 Q 2 [some w] (w :: st) h) := (mw_at mj_62_1).trans (z_aload_n rfl)
theorem mj_62_2 : mc_P 62 2 = some (.invokevirtual 104, 3, 49, 3, 1) := by decide +kernel
theorem s_62_2 {x0 : Option Value} {o : Nat} : mw (d + 1) 62 Q 2 [x0] (.ref o :: st) h = (mg h o 3 ∧ mca st 8 ∧ mca [.ref o] 1 ∧ mcall d 49 [.ref o] h (mK (d + 1) 62 Q 5 [x0] st)) := (mw_at mj_62_2).trans ((z_invv (As := []) (by decide) rfl rfl).trans (congrArg (And _) (congrArg (And _) (mC_nl nl_49))))
theorem mj_62_5 : mc_P 62 5 = some (.putfield 212, 3, 3, 12, 0) := by decide +kernel
theorem s_62_5 {x0 : Option Value} {o : Nat} {w : Int32} : mw d 62 Q 5 [x0] (.int w :: .ref o :: st) h = (mg h o 3 ∧ mw d 62 Q 8 [x0] (st) (mh_si h o 12 w)) := (mw_at mj_62_5).trans (z_puti (by decide) (by decide) rfl)
theorem mj_62_8 : mc_P 62 8 = some (.aload_n 0, 1, 0, 0, 0) := by decide +kernel
theorem s_62_8 {w : Value} : mw d 62 Q 8 [some w] (st) h = mv_a w (mw d 62 Q 9 [some w] (w :: st) h) := (mw_at mj_62_8).trans (z_aload_n rfl)
theorem mj_62_9 : mc_P 62 9 = some (.getfield 117, 3, 3, 8, 0) := by decide +kernel
theorem s_62_9 {x0 : Option Value} {o : Nat} : mw d 62 Q 9 [x0] (.ref o :: st) h = (mg h o 3 ∧ mw d 62 Q 12 [x0] (va_rf (mh_r h o 8) :: st) h) := (mw_at mj_62_9).trans (z_getr (by decide) (by decide) rfl)
theorem mj_62_12 : mc_P 62 12 = some (.aload_n 0, 1, 0, 0, 0) := by decide +kernel
theorem s_62_12 {w : Value} : mw d 62 Q 12 [some w] (st) h = mv_a w (mw d 62 Q 13 [some w] (w :: st) h) := (mw_at mj_62_12).trans (z_aload_n rfl)
theorem mj_62_13 : mc_P 62 13 = some (.invokevirtual 215, 3, 63, 3, 1) := by decide +kernel
theorem s_62_13 {x0 : Option Value} {o : Nat} : mw (d + 1) 62 Q 13 [x0] (.ref o :: st) h = (mg h o 3 ∧ mca st 8 ∧ mca [.ref o] 2 ∧ mcall d 63 [.ref o] h (mK (d + 1) 62 Q 16 [x0] st)) := (mw_at mj_62_13).trans ((z_invv (As := []) (by decide) rfl rfl).trans (congrArg (And _) (congrArg (And _) (mC_nl nl_63))))
theorem mj_62_16 : mc_P 62 16 = some (.putfield 218, 3, 9, 14, 0) := by decide +kernel
theorem s_62_16 {x0 : Option Value} {o : Nat} {w : Int32} : mw d 62 Q 16 [x0] (.int w :: .ref o :: st) h = (mg h o 9 ∧ mw d 62 Q 19 [x0] (st) (mh_si h o 14 w)) := (mw_at mj_62_16).trans (z_puti (by decide) (by decide) rfl)
theorem mj_62_19 : mc_P 62 19 = some (.aload_n 0, 1, 0, 0, 0) := by decide +kernel
theorem s_62_19 {w : Value} : mw d 62 Q 19 [some w] (st) h = mv_a w (mw d 62 Q 20 [some w] (w :: st) h) := (mw_at mj_62_19).trans (z_aload_n rfl)
theorem mj_62_20 : mc_P 62 20 = some (.getfield 117, 3, 3, 8, 0) := by decide +kernel
theorem s_62_20 {x0 : Option Value} {o : Nat} : mw d 62 Q 20 [x0] (.ref o :: st) h = (mg h o 3 ∧ mw d 62 Q 23 [x0] (va_rf (mh_r h o 8) :: st) h) := (mw_at mj_62_20).trans (z_getr (by decide) (by decide) rfl)
theorem mj_62_23 : mc_P 62 23 = some (.getfield 218, 3, 9, 14, 0) := by decide +kernel
theorem s_62_23 {x0 : Option Value} {o : Nat} : mw d 62 Q 23 [x0] (.ref o :: st) h = (mg h o 9 ∧ mw d 62 Q 26 [x0] (.int (mh_i h o 14) :: st) h) := (mw_at mj_62_23).trans (z_geti (by decide) (by decide) (Or.inl rfl))
theorem mj_62_26 : mc_P 62 26 = some (.iconst (-1), 1, 0, 0, 0) := by decide +kernel
theorem s_62_26 {x0 : Option Value} : mw d 62 Q 26 [x0] (st) h = mw d 62 Q 27 [x0] (.int (-1) :: st) h := (mw_at mj_62_26).trans (z_iconst (by decide))
theorem mj_62_27 : mc_P 62 27 = some (.if_icmp .ne 12, 3, 0, 0, 0) := by decide +kernel
theorem s_62_27 {x0 : Option Value} {x w : Int32} : mw d 62 Q 27 [x0] (.int w :: .int x :: st) h = mB (¬ x = w) (mw d 62 Q) 39 30 [x0] st h := (mw_at mj_62_27).trans (z_icmp_ne (by decide) rfl)
theorem mj_62_30 : mc_P 62 30 = some (.aload_n 0, 1, 0, 0, 0) := by decide +kernel
theorem s_62_30 {w : Value} : mw d 62 Q 30 [some w] (st) h = mv_a w (mw d 62 Q 31 [some w] (w :: st) h) := (mw_at mj_62_30).trans (z_aload_n rfl)
theorem mj_62_31 : mc_P 62 31 = some (.iconst 4, 1, 0, 0, 0) := by decide +kernel
theorem s_62_31 {x0 : Option Value} : mw d 62 Q 31 [x0] (st) h = mw d 62 Q 32 [x0] (.int 4 :: st) h := (mw_at mj_62_31).trans (z_iconst (by decide))
theorem mj_62_32 : mc_P 62 32 = some (.aload_n 0, 1, 0, 0, 0) := by decide +kernel
theorem s_62_32 {w : Value} : mw d 62 Q 32 [some w] (st) h = mv_a w (mw d 62 Q 33 [some w] (w :: st) h) := (mw_at mj_62_32).trans (z_aload_n rfl)
theorem mj_62_33 : mc_P 62 33 = some (.getfield 212, 3, 3, 12, 0) := by decide +kernel
theorem s_62_33 {x0 : Option Value} {o : Nat} : mw d 62 Q 33 [x0] (.ref o :: st) h = (mg h o 3 ∧ mw d 62 Q 36 [x0] (.int (mh_i h o 12) :: st) h) := (mw_at mj_62_33).trans (z_geti (by decide) (by decide) (Or.inl rfl))
theorem mj_62_36 : mc_P 62 36 = some (.invokevirtual 221, 3, 53, 3, 3) := by decide +kernel
theorem s_62_36 {x0 : Option Value} {o : Nat} {a1 a2 : Value} : mw (d + 1) 62 Q 36 [x0] (a2 :: a1 :: .ref o :: st) h = (mg h o 3 ∧ mca st 8 ∧ mca [.ref o, a1, a2] 3 ∧ mcall d 53 [.ref o, a1, a2] h (mK (d + 1) 62 Q 39 [x0] st)) := (mw_at mj_62_36).trans ((z_invv (As := [a1, a2]) (by decide) rfl rfl).trans (congrArg (And _) (congrArg (And _) (mC_nl nl_53))))
theorem mj_62_39 : mc_P 62 39 = some (.aload_n 0, 1, 0, 0, 0) := by decide +kernel
theorem s_62_39 {w : Value} : mw d 62 Q 39 [some w] (st) h = mv_a w (mw d 62 Q 40 [some w] (w :: st) h) := (mw_at mj_62_39).trans (z_aload_n rfl)
theorem mj_62_40 : mc_P 62 40 = some (.aload_n 0, 1, 0, 0, 0) := by decide +kernel
theorem s_62_40 {w : Value} : mw d 62 Q 40 [some w] (st) h = mv_a w (mw d 62 Q 41 [some w] (w :: st) h) := (mw_at mj_62_40).trans (z_aload_n rfl)
theorem mj_62_41 : mc_P 62 41 = some (.getfield 117, 3, 3, 8, 0) := by decide +kernel
theorem s_62_41 {x0 : Option Value} {o : Nat} : mw d 62 Q 41 [x0] (.ref o :: st) h = (mg h o 3 ∧ mw d 62 Q 44 [x0] (va_rf (mh_r h o 8) :: st) h) := (mw_at mj_62_41).trans (z_getr (by decide) (by decide) rfl)
theorem mj_62_44 : mc_P 62 44 = some (.getfield 121, 3, 9, 5, 0) := by decide +kernel
theorem s_62_44 {x0 : Option Value} {o : Nat} : mw d 62 Q 44 [x0] (.ref o :: st) h = (mg h o 9 ∧ mw d 62 Q 47 [x0] (.int (mh_i h o 5) :: st) h) := (mw_at mj_62_44).trans (z_geti (by decide) (by decide) (Or.inl rfl))
theorem mj_62_47 : mc_P 62 47 = some (.ifCond .eq 7, 3, 0, 0, 0) := by decide +kernel
theorem s_62_47 {x0 : Option Value} {x : Int32} : mw d 62 Q 47 [x0] (.int x :: st) h = mB (x = 0) (mw d 62 Q) 54 50 [x0] st h := (mw_at mj_62_47).trans (z_if_eq (by decide) rfl)
theorem mj_62_50 : mc_P 62 50 = some (.iconst 1, 1, 0, 0, 0) := by decide +kernel
theorem s_62_50 {x0 : Option Value} : mw d 62 Q 50 [x0] (st) h = mw d 62 Q 51 [x0] (.int 1 :: st) h := (mw_at mj_62_50).trans (z_iconst (by decide))
theorem mj_62_51 : mc_P 62 51 = some (.goto 4, 3, 0, 0, 0) := by decide +kernel
theorem s_62_51 {x0 : Option Value} : mw d 62 Q 51 [x0] (st) h = mw d 62 Q 55 [x0] (st) h := (mw_at mj_62_51).trans (z_goto (by decide))
theorem mj_62_54 : mc_P 62 54 = some (.iconst 0, 1, 0, 0, 0) := by decide +kernel
theorem s_62_54 {x0 : Option Value} : mw d 62 Q 54 [x0] (st) h = mw d 62 Q 55 [x0] (.int 0 :: st) h := (mw_at mj_62_54).trans (z_iconst (by decide))
theorem mj_62_55 : mc_P 62 55 = some (.putfield 224, 3, 3, 13, 0) := by decide +kernel
theorem s_62_55 {x0 : Option Value} {o : Nat} {w : Int32} : mw d 62 Q 55 [x0] (.int w :: .ref o :: st) h = (mg h o 3 ∧ (w = 0 ∨ w = 1) ∧ mw d 62 Q 58 [x0] (st) (mh_si h o 13 w)) := (mw_at mj_62_55).trans (z_putz (by decide) (by decide) rfl)
theorem mj_62_58 : mc_P 62 58 = some (.aload_n 0, 1, 0, 0, 0) := by decide +kernel
theorem s_62_58 {w : Value} : mw d 62 Q 58 [some w] (st) h = mv_a w (mw d 62 Q 59 [some w] (w :: st) h) := (mw_at mj_62_58).trans (z_aload_n rfl)
theorem mj_62_59 : mc_P 62 59 = some (.dup, 1, 0, 0, 0) := by decide +kernel
theorem s_62_59 {x0 : Option Value} {w : Value} : mw d 62 Q 59 [x0] (w :: st) h = (w.category = 1 ∧ mw d 62 Q 60 [x0] (w :: w :: st) h) := (mw_at mj_62_59).trans (z_dup)
theorem mj_62_60 : mc_P 62 60 = some (.getfield 95, 3, 3, 5, 0) := by decide +kernel
theorem s_62_60 {x0 : Option Value} {o : Nat} : mw d 62 Q 60 [x0] (.ref o :: st) h = (mg h o 3 ∧ mw d 62 Q 63 [x0] (.int (mh_i h o 5) :: st) h) := (mw_at mj_62_60).trans (z_geti (by decide) (by decide) (Or.inl rfl))
theorem mj_62_63 : mc_P 62 63 = some (.iconst 2, 1, 0, 0, 0) := by decide +kernel
theorem s_62_63 {x0 : Option Value} : mw d 62 Q 63 [x0] (st) h = mw d 62 Q 64 [x0] (.int 2 :: st) h := (mw_at mj_62_63).trans (z_iconst (by decide))
theorem mj_62_64 : mc_P 62 64 = some (.iadd, 1, 0, 0, 0) := by decide +kernel
theorem s_62_64 {x0 : Option Value} {x w : Int32} : mw d 62 Q 64 [x0] (.int w :: .int x :: st) h = mw d 62 Q 65 [x0] (.int (x + w) :: st) h := (mw_at mj_62_64).trans (z_iadd)
theorem mj_62_65 : mc_P 62 65 = some (.putfield 95, 3, 3, 5, 0) := by decide +kernel
theorem s_62_65 {x0 : Option Value} {o : Nat} {w : Int32} : mw d 62 Q 65 [x0] (.int w :: .ref o :: st) h = (mg h o 3 ∧ mw d 62 Q 68 [x0] (st) (mh_si h o 5 w)) := (mw_at mj_62_65).trans (z_puti (by decide) (by decide) rfl)
theorem mj_62_68 : mc_P 62 68 = some (.aload_n 0, 1, 0, 0, 0) := by decide +kernel
theorem s_62_68 {w : Value} : mw d 62 Q 68 [some w] (st) h = mv_a w (mw d 62 Q 69 [some w] (w :: st) h) := (mw_at mj_62_68).trans (z_aload_n rfl)
theorem mj_62_69 : mc_P 62 69 = some (.sipush 156, 3, 0, 0, 0) := by decide +kernel
theorem s_62_69 {x0 : Option Value} : mw d 62 Q 69 [x0] (st) h = mw d 62 Q 72 [x0] (.int 156 :: st) h := (mw_at mj_62_69).trans (z_sipush (by decide))
theorem mj_62_72 : mc_P 62 72 = some (.invokevirtual 51, 3, 45, 3, 2) := by decide +kernel
theorem s_62_72 {x0 : Option Value} {o : Nat} {a1 : Value} : mw (d + 1) 62 Q 72 [x0] (a1 :: .ref o :: st) h = (mg h o 3 ∧ mca st 8 ∧ mca [.ref o, a1] 2 ∧ mcall d 45 [.ref o, a1] h (mK (d + 1) 62 Q 75 [x0] st)) := (mw_at mj_62_72).trans ((z_invv (As := [a1]) (by decide) rfl rfl).trans (congrArg (And _) (congrArg (And _) (mC_nl nl_45))))
theorem mj_62_75 : mc_P 62 75 = some (.aload_n 0, 1, 0, 0, 0) := by decide +kernel
theorem s_62_75 {w : Value} : mw d 62 Q 75 [some w] (st) h = mv_a w (mw d 62 Q 76 [some w] (w :: st) h) := (mw_at mj_62_75).trans (z_aload_n rfl)
theorem mj_62_76 : mc_P 62 76 = some (.bipush 59, 2, 0, 0, 0) := by decide +kernel
theorem s_62_76 {x0 : Option Value} : mw d 62 Q 76 [x0] (st) h = mw d 62 Q 78 [x0] (.int 59 :: st) h := (mw_at mj_62_76).trans (z_bipush (by decide))
theorem mj_62_78 : mc_P 62 78 = some (.invokevirtual 51, 3, 45, 3, 2) := by decide +kernel
theorem s_62_78 {x0 : Option Value} {o : Nat} {a1 : Value} : mw (d + 1) 62 Q 78 [x0] (a1 :: .ref o :: st) h = (mg h o 3 ∧ mca st 8 ∧ mca [.ref o, a1] 2 ∧ mcall d 45 [.ref o, a1] h (mK (d + 1) 62 Q 81 [x0] st)) := (mw_at mj_62_78).trans ((z_invv (As := [a1]) (by decide) rfl rfl).trans (congrArg (And _) (congrArg (And _) (mC_nl nl_45))))
theorem mj_62_81 : mc_P 62 81 = some (.aload_n 0, 1, 0, 0, 0) := by decide +kernel
theorem s_62_81 {w : Value} : mw d 62 Q 81 [some w] (st) h = mv_a w (mw d 62 Q 82 [some w] (w :: st) h) := (mw_at mj_62_81).trans (z_aload_n rfl)
theorem mj_62_82 : mc_P 62 82 = some (.sipush 154, 3, 0, 0, 0) := by decide +kernel
theorem s_62_82 {x0 : Option Value} : mw d 62 Q 82 [x0] (st) h = mw d 62 Q 85 [x0] (.int 154 :: st) h := (mw_at mj_62_82).trans (z_sipush (by decide))
theorem mj_62_85 : mc_P 62 85 = some (.invokevirtual 51, 3, 45, 3, 2) := by decide +kernel
theorem s_62_85 {x0 : Option Value} {o : Nat} {a1 : Value} : mw (d + 1) 62 Q 85 [x0] (a1 :: .ref o :: st) h = (mg h o 3 ∧ mca st 8 ∧ mca [.ref o, a1] 2 ∧ mcall d 45 [.ref o, a1] h (mK (d + 1) 62 Q 88 [x0] st)) := (mw_at mj_62_85).trans ((z_invv (As := [a1]) (by decide) rfl rfl).trans (congrArg (And _) (congrArg (And _) (mC_nl nl_45))))
theorem mj_62_88 : mc_P 62 88 = some (.return_, 1, 0, 0, 0) := by decide +kernel
theorem s_62_88 {x0 : Option Value} : mw d 62 Q 88 [x0] ([]) h = Q none h := (mw_at mj_62_88).trans (z_vret)
theorem e_62 {a0 : Nat} : mcall d 62 [.ref a0] h Q = mw d 62 Q 0 [some (.ref a0)] [] h := by
  show mw d 62 Q 0 (me_en (mc_nl 62) _) [] h = _
  rw [nl_62]; rfl

/-! InvariantDesk$Parser.functionMeant()I -/
theorem mj_63_0 : mc_P 63 0 = some (.aload_n 0, 1, 0, 0, 0) := by decide +kernel
theorem s_63_0 {x1 : Option Value} {w : Value} : mw d 63 Q 0 [some w, x1] (st) h = mv_a w (mw d 63 Q 1 [some w, x1] (w :: st) h) := (mw_at mj_63_0).trans (z_aload_n rfl)
theorem mj_63_1 : mc_P 63 1 = some (.getfield 23, 3, 3, 1, 0) := by decide +kernel
theorem s_63_1 {x0 x1 : Option Value} {o : Nat} : mw d 63 Q 1 [x0, x1] (.ref o :: st) h = (mg h o 3 ∧ mw d 63 Q 4 [x0, x1] (va_rf (mh_r h o 1) :: st) h) := (mw_at mj_63_1).trans (z_getr (by decide) (by decide) rfl)
theorem mj_63_4 : mc_P 63 4 = some (.getfield 228, 3, 7, 15, 0) := by decide +kernel
theorem s_63_4 {x0 x1 : Option Value} {o : Nat} : mw d 63 Q 4 [x0, x1] (.ref o :: st) h = (mg h o 7 ∧ mw d 63 Q 7 [x0, x1] (.int (mh_i h o 15) :: st) h) := (mw_at mj_63_4).trans (z_geti (by decide) (by decide) (Or.inl rfl))
theorem mj_63_7 : mc_P 63 7 = some (.iconst 1, 1, 0, 0, 0) := by decide +kernel
theorem s_63_7 {x0 x1 : Option Value} : mw d 63 Q 7 [x0, x1] (st) h = mw d 63 Q 8 [x0, x1] (.int 1 :: st) h := (mw_at mj_63_7).trans (z_iconst (by decide))
theorem mj_63_8 : mc_P 63 8 = some (.isub, 1, 0, 0, 0) := by decide +kernel
theorem s_63_8 {x0 x1 : Option Value} {x w : Int32} : mw d 63 Q 8 [x0, x1] (.int w :: .int x :: st) h = mw d 63 Q 9 [x0, x1] (.int (x - w) :: st) h := (mw_at mj_63_8).trans (z_isub)
theorem mj_63_9 : mc_P 63 9 = some (.istore_n 1, 1, 0, 0, 0) := by decide +kernel
theorem s_63_9 {x0 x1 : Option Value} {w : Int32} : mw d 63 Q 9 [x0, x1] (.int w :: st) h = mw d 63 Q 10 [mk2 x0, some (.int w)] (st) h := (mw_at mj_63_9).trans (z_istore_n (Nat.le_of_ble_eq_true rfl) (me_s1_mk (j := 0) (w := x0) rfl))
theorem mj_63_10 : mc_P 63 10 = some (.iload_n 1, 1, 0, 0, 0) := by decide +kernel
theorem s_63_10 {x0 : Option Value} {w : Value} : mw d 63 Q 10 [x0, some w] (st) h = mv_i w (mw d 63 Q 11 [x0, some w] (w :: st) h) := (mw_at mj_63_10).trans (z_iload_n rfl)
theorem mj_63_11 : mc_P 63 11 = some (.ifCond .lt 34, 3, 0, 0, 0) := by decide +kernel
theorem s_63_11 {x0 x1 : Option Value} {x : Int32} : mw d 63 Q 11 [x0, x1] (.int x :: st) h = mB (x < 0) (mw d 63 Q) 45 14 [x0, x1] st h := (mw_at mj_63_11).trans (z_if_lt (by decide) rfl)
theorem mj_63_14 : mc_P 63 14 = some (.aload_n 0, 1, 0, 0, 0) := by decide +kernel
theorem s_63_14 {x1 : Option Value} {w : Value} : mw d 63 Q 14 [some w, x1] (st) h = mv_a w (mw d 63 Q 15 [some w, x1] (w :: st) h) := (mw_at mj_63_14).trans (z_aload_n rfl)
theorem mj_63_15 : mc_P 63 15 = some (.getfield 19, 3, 3, 0, 0) := by decide +kernel
theorem s_63_15 {x0 x1 : Option Value} {o : Nat} : mw d 63 Q 15 [x0, x1] (.ref o :: st) h = (mg h o 3 ∧ mw d 63 Q 18 [x0, x1] (va_rf (mh_r h o 0) :: st) h) := (mw_at mj_63_15).trans (z_getr (by decide) (by decide) rfl)
theorem mj_63_18 : mc_P 63 18 = some (.aload_n 0, 1, 0, 0, 0) := by decide +kernel
theorem s_63_18 {x1 : Option Value} {w : Value} : mw d 63 Q 18 [some w, x1] (st) h = mv_a w (mw d 63 Q 19 [some w, x1] (w :: st) h) := (mw_at mj_63_18).trans (z_aload_n rfl)
theorem mj_63_19 : mc_P 63 19 = some (.getfield 23, 3, 3, 1, 0) := by decide +kernel
theorem s_63_19 {x0 x1 : Option Value} {o : Nat} : mw d 63 Q 19 [x0, x1] (.ref o :: st) h = (mg h o 3 ∧ mw d 63 Q 22 [x0, x1] (va_rf (mh_r h o 1) :: st) h) := (mw_at mj_63_19).trans (z_getr (by decide) (by decide) rfl)
theorem mj_63_22 : mc_P 63 22 = some (.iload_n 1, 1, 0, 0, 0) := by decide +kernel
theorem s_63_22 {x0 : Option Value} {w : Value} : mw d 63 Q 22 [x0, some w] (st) h = mv_i w (mw d 63 Q 23 [x0, some w] (w :: st) h) := (mw_at mj_63_22).trans (z_iload_n rfl)
theorem mj_63_23 : mc_P 63 23 = some (.iconst 0, 1, 0, 0, 0) := by decide +kernel
theorem s_63_23 {x0 x1 : Option Value} : mw d 63 Q 23 [x0, x1] (st) h = mw d 63 Q 24 [x0, x1] (.int 0 :: st) h := (mw_at mj_63_23).trans (z_iconst (by decide))
theorem mj_63_24 : mc_P 63 24 = some (.invokevirtual 231, 3, 137, 7, 3) := by decide +kernel
theorem s_63_24 {x0 x1 : Option Value} {o : Nat} {a1 a2 : Value} : mw (d + 1) 63 Q 24 [x0, x1] (a2 :: a1 :: .ref o :: st) h = (mg h o 7 ∧ mca st 8 ∧ mca [.ref o, a1, a2] 3 ∧ mcall d 137 [.ref o, a1, a2] h (mK (d + 1) 63 Q 27 [x0, x1] st)) := (mw_at mj_63_24).trans ((z_invv (As := [a1, a2]) (by decide) rfl rfl).trans (congrArg (And _) (congrArg (And _) (mC_nl nl_137))))
theorem mj_63_27 : mc_P 63 27 = some (.aload_n 0, 1, 0, 0, 0) := by decide +kernel
theorem s_63_27 {x1 : Option Value} {w : Value} : mw d 63 Q 27 [some w, x1] (st) h = mv_a w (mw d 63 Q 28 [some w, x1] (w :: st) h) := (mw_at mj_63_27).trans (z_aload_n rfl)
theorem mj_63_28 : mc_P 63 28 = some (.getfield 95, 3, 3, 5, 0) := by decide +kernel
theorem s_63_28 {x0 x1 : Option Value} {o : Nat} : mw d 63 Q 28 [x0, x1] (.ref o :: st) h = (mg h o 3 ∧ mw d 63 Q 31 [x0, x1] (.int (mh_i h o 5) :: st) h) := (mw_at mj_63_28).trans (z_geti (by decide) (by decide) (Or.inl rfl))
theorem mj_63_31 : mc_P 63 31 = some (.invokevirtual 234, 3, 182, 10, 3) := by decide +kernel
theorem s_63_31 {x0 x1 : Option Value} {o : Nat} {a1 a2 : Value} : mw (d + 1) 63 Q 31 [x0, x1] (a2 :: a1 :: .ref o :: st) h = (mg h o 10 ∧ mca st 8 ∧ mca [.ref o, a1, a2] 4 ∧ mcall d 182 [.ref o, a1, a2] h (mK (d + 1) 63 Q 34 [x0, x1] st)) := (mw_at mj_63_31).trans ((z_invv (As := [a1, a2]) (by decide) rfl rfl).trans (congrArg (And _) (congrArg (And _) (mC_nl nl_182))))
theorem mj_63_34 : mc_P 63 34 = some (.ifCond .eq 5, 3, 0, 0, 0) := by decide +kernel
theorem s_63_34 {x0 x1 : Option Value} {x : Int32} : mw d 63 Q 34 [x0, x1] (.int x :: st) h = mB (x = 0) (mw d 63 Q) 39 37 [x0, x1] st h := (mw_at mj_63_34).trans (z_if_eq (by decide) rfl)
theorem mj_63_37 : mc_P 63 37 = some (.iload_n 1, 1, 0, 0, 0) := by decide +kernel
theorem s_63_37 {x0 : Option Value} {w : Value} : mw d 63 Q 37 [x0, some w] (st) h = mv_i w (mw d 63 Q 38 [x0, some w] (w :: st) h) := (mw_at mj_63_37).trans (z_iload_n rfl)
theorem mj_63_38 : mc_P 63 38 = some (.ireturn, 1, 0, 0, 0) := by decide +kernel
theorem s_63_38 {x0 x1 : Option Value} {x : Int32} : mw d 63 Q 38 [x0, x1] ([.int x]) h = (Q (some (.int x)) h) := (mw_at mj_63_38).trans (z_iret)
theorem mj_63_39 : mc_P 63 39 = some (.iinc 1 (-1), 3, 0, 0, 0) := by decide +kernel
theorem s_63_39 {x0 : Option Value} {w : Int32} : mw d 63 Q 39 [x0, some (.int w)] (st) h = mw d 63 Q 42 [mk2 x0, some (.int (w + (-1)))] (st) h := (mw_at mj_63_39).trans (z_iinc rfl (Nat.le_of_ble_eq_true rfl) (by decide) (me_s1_mk (j := 0) (w := x0) rfl))
theorem mj_63_42 : mc_P 63 42 = some (.goto (-32), 3, 0, 0, 0) := by decide +kernel
theorem s_63_42 {x0 x1 : Option Value} : mw d 63 Q 42 [x0, x1] (st) h = mw d 63 Q 10 [x0, x1] (st) h := (mw_at mj_63_42).trans (z_goto (by decide))
theorem mj_63_45 : mc_P 63 45 = some (.iconst (-1), 1, 0, 0, 0) := by decide +kernel
theorem s_63_45 {x0 x1 : Option Value} : mw d 63 Q 45 [x0, x1] (st) h = mw d 63 Q 46 [x0, x1] (.int (-1) :: st) h := (mw_at mj_63_45).trans (z_iconst (by decide))
theorem mj_63_46 : mc_P 63 46 = some (.ireturn, 1, 0, 0, 0) := by decide +kernel
theorem s_63_46 {x0 x1 : Option Value} {x : Int32} : mw d 63 Q 46 [x0, x1] ([.int x]) h = (Q (some (.int x)) h) := (mw_at mj_63_46).trans (z_iret)
theorem e_63 {a0 : Nat} : mcall d 63 [.ref a0] h Q = mw d 63 Q 0 [some (.ref a0), none] [] h := by
  show mw d 63 Q 0 (me_en (mc_nl 63) _) [] h = _
  rw [nl_63]; rfl

/-! InvariantDesk$Parser.numberMeant()I -/
theorem mj_64_0 : mc_P 64 0 = some (.aload_n 0, 1, 0, 0, 0) := by decide +kernel
theorem s_64_0 {x1 : Option Value} {w : Value} : mw d 64 Q 0 [some w, x1] (st) h = mv_a w (mw d 64 Q 1 [some w, x1] (w :: st) h) := (mw_at mj_64_0).trans (z_aload_n rfl)
theorem mj_64_1 : mc_P 64 1 = some (.getfield 32, 3, 3, 2, 0) := by decide +kernel
theorem s_64_1 {x0 x1 : Option Value} {o : Nat} : mw d 64 Q 1 [x0, x1] (.ref o :: st) h = (mg h o 3 ∧ mw d 64 Q 4 [x0, x1] (va_rf (mh_r h o 2) :: st) h) := (mw_at mj_64_1).trans (z_getr (by decide) (by decide) rfl)
theorem mj_64_4 : mc_P 64 4 = some (.aload_n 0, 1, 0, 0, 0) := by decide +kernel
theorem s_64_4 {x1 : Option Value} {w : Value} : mw d 64 Q 4 [some w, x1] (st) h = mv_a w (mw d 64 Q 5 [some w, x1] (w :: st) h) := (mw_at mj_64_4).trans (z_aload_n rfl)
theorem mj_64_5 : mc_P 64 5 = some (.getfield 95, 3, 3, 5, 0) := by decide +kernel
theorem s_64_5 {x0 x1 : Option Value} {o : Nat} : mw d 64 Q 5 [x0, x1] (.ref o :: st) h = (mg h o 3 ∧ mw d 64 Q 8 [x0, x1] (.int (mh_i h o 5) :: st) h) := (mw_at mj_64_5).trans (z_geti (by decide) (by decide) (Or.inl rfl))
theorem mj_64_8 : mc_P 64 8 = some (.invokevirtual 238, 3, 119, 6, 2) := by decide +kernel
theorem s_64_8 {x0 x1 : Option Value} {o : Nat} {a1 : Value} : mw (d + 1) 64 Q 8 [x0, x1] (a1 :: .ref o :: st) h = (mg h o 6 ∧ mca st 8 ∧ mca [.ref o, a1] 3 ∧ mcall d 119 [.ref o, a1] h (mK (d + 1) 64 Q 11 [x0, x1] st)) := (mw_at mj_64_8).trans ((z_invv (As := [a1]) (by decide) rfl rfl).trans (congrArg (And _) (congrArg (And _) (mC_nl nl_119))))
theorem mj_64_11 : mc_P 64 11 = some (.istore_n 1, 1, 0, 0, 0) := by decide +kernel
theorem s_64_11 {x0 x1 : Option Value} {w : Int32} : mw d 64 Q 11 [x0, x1] (.int w :: st) h = mw d 64 Q 12 [mk2 x0, some (.int w)] (st) h := (mw_at mj_64_11).trans (z_istore_n (Nat.le_of_ble_eq_true rfl) (me_s1_mk (j := 0) (w := x0) rfl))
theorem mj_64_12 : mc_P 64 12 = some (.iload_n 1, 1, 0, 0, 0) := by decide +kernel
theorem s_64_12 {x0 : Option Value} {w : Value} : mw d 64 Q 12 [x0, some w] (st) h = mv_i w (mw d 64 Q 13 [x0, some w] (w :: st) h) := (mw_at mj_64_12).trans (z_iload_n rfl)
theorem mj_64_13 : mc_P 64 13 = some (.iconst (-1), 1, 0, 0, 0) := by decide +kernel
theorem s_64_13 {x0 x1 : Option Value} : mw d 64 Q 13 [x0, x1] (st) h = mw d 64 Q 14 [x0, x1] (.int (-1) :: st) h := (mw_at mj_64_13).trans (z_iconst (by decide))
theorem mj_64_14 : mc_P 64 14 = some (.if_icmp .ne 15, 3, 0, 0, 0) := by decide +kernel
theorem s_64_14 {x0 x1 : Option Value} {x w : Int32} : mw d 64 Q 14 [x0, x1] (.int w :: .int x :: st) h = mB (¬ x = w) (mw d 64 Q) 29 17 [x0, x1] st h := (mw_at mj_64_14).trans (z_icmp_ne (by decide) rfl)
theorem mj_64_17 : mc_P 64 17 = some (.aload_n 0, 1, 0, 0, 0) := by decide +kernel
theorem s_64_17 {x1 : Option Value} {w : Value} : mw d 64 Q 17 [some w, x1] (st) h = mv_a w (mw d 64 Q 18 [some w, x1] (w :: st) h) := (mw_at mj_64_17).trans (z_aload_n rfl)
theorem mj_64_18 : mc_P 64 18 = some (.iconst 1, 1, 0, 0, 0) := by decide +kernel
theorem s_64_18 {x0 x1 : Option Value} : mw d 64 Q 18 [x0, x1] (st) h = mw d 64 Q 19 [x0, x1] (.int 1 :: st) h := (mw_at mj_64_18).trans (z_iconst (by decide))
theorem mj_64_19 : mc_P 64 19 = some (.aload_n 0, 1, 0, 0, 0) := by decide +kernel
theorem s_64_19 {x1 : Option Value} {w : Value} : mw d 64 Q 19 [some w, x1] (st) h = mv_a w (mw d 64 Q 20 [some w, x1] (w :: st) h) := (mw_at mj_64_19).trans (z_aload_n rfl)
theorem mj_64_20 : mc_P 64 20 = some (.invokevirtual 104, 3, 49, 3, 1) := by decide +kernel
theorem s_64_20 {x0 x1 : Option Value} {o : Nat} : mw (d + 1) 64 Q 20 [x0, x1] (.ref o :: st) h = (mg h o 3 ∧ mca st 8 ∧ mca [.ref o] 1 ∧ mcall d 49 [.ref o] h (mK (d + 1) 64 Q 23 [x0, x1] st)) := (mw_at mj_64_20).trans ((z_invv (As := []) (by decide) rfl rfl).trans (congrArg (And _) (congrArg (And _) (mC_nl nl_49))))
theorem mj_64_23 : mc_P 64 23 = some (.invokevirtual 221, 3, 53, 3, 3) := by decide +kernel
theorem s_64_23 {x0 x1 : Option Value} {o : Nat} {a1 a2 : Value} : mw (d + 1) 64 Q 23 [x0, x1] (a2 :: a1 :: .ref o :: st) h = (mg h o 3 ∧ mca st 8 ∧ mca [.ref o, a1, a2] 3 ∧ mcall d 53 [.ref o, a1, a2] h (mK (d + 1) 64 Q 26 [x0, x1] st)) := (mw_at mj_64_23).trans ((z_invv (As := [a1, a2]) (by decide) rfl rfl).trans (congrArg (And _) (congrArg (And _) (mC_nl nl_53))))
theorem mj_64_26 : mc_P 64 26 = some (.goto 23, 3, 0, 0, 0) := by decide +kernel
theorem s_64_26 {x0 x1 : Option Value} : mw d 64 Q 26 [x0, x1] (st) h = mw d 64 Q 49 [x0, x1] (st) h := (mw_at mj_64_26).trans (z_goto (by decide))
theorem mj_64_29 : mc_P 64 29 = some (.aload_n 0, 1, 0, 0, 0) := by decide +kernel
theorem s_64_29 {x1 : Option Value} {w : Value} : mw d 64 Q 29 [some w, x1] (st) h = mv_a w (mw d 64 Q 30 [some w, x1] (w :: st) h) := (mw_at mj_64_29).trans (z_aload_n rfl)
theorem mj_64_30 : mc_P 64 30 = some (.getfield 32, 3, 3, 2, 0) := by decide +kernel
theorem s_64_30 {x0 x1 : Option Value} {o : Nat} : mw d 64 Q 30 [x0, x1] (.ref o :: st) h = (mg h o 3 ∧ mw d 64 Q 33 [x0, x1] (va_rf (mh_r h o 2) :: st) h) := (mw_at mj_64_30).trans (z_getr (by decide) (by decide) rfl)
theorem mj_64_33 : mc_P 64 33 = some (.iload_n 1, 1, 0, 0, 0) := by decide +kernel
theorem s_64_33 {x0 : Option Value} {w : Value} : mw d 64 Q 33 [x0, some w] (st) h = mv_i w (mw d 64 Q 34 [x0, some w] (w :: st) h) := (mw_at mj_64_33).trans (z_iload_n rfl)
theorem mj_64_34 : mc_P 64 34 = some (.invokevirtual 241, 3, 122, 6, 2) := by decide +kernel
theorem s_64_34 {x0 x1 : Option Value} {o : Nat} {a1 : Value} : mw (d + 1) 64 Q 34 [x0, x1] (a1 :: .ref o :: st) h = (mg h o 6 ∧ mca st 8 ∧ mca [.ref o, a1] 2 ∧ mcall d 122 [.ref o, a1] h (mK (d + 1) 64 Q 37 [x0, x1] st)) := (mw_at mj_64_34).trans ((z_invv (As := [a1]) (by decide) rfl rfl).trans (congrArg (And _) (congrArg (And _) (mC_nl nl_122))))
theorem mj_64_37 : mc_P 64 37 = some (.ifCond .eq 12, 3, 0, 0, 0) := by decide +kernel
theorem s_64_37 {x0 x1 : Option Value} {x : Int32} : mw d 64 Q 37 [x0, x1] (.int x :: st) h = mB (x = 0) (mw d 64 Q) 49 40 [x0, x1] st h := (mw_at mj_64_37).trans (z_if_eq (by decide) rfl)
theorem mj_64_40 : mc_P 64 40 = some (.aload_n 0, 1, 0, 0, 0) := by decide +kernel
theorem s_64_40 {x1 : Option Value} {w : Value} : mw d 64 Q 40 [some w, x1] (st) h = mv_a w (mw d 64 Q 41 [some w, x1] (w :: st) h) := (mw_at mj_64_40).trans (z_aload_n rfl)
theorem mj_64_41 : mc_P 64 41 = some (.iconst 3, 1, 0, 0, 0) := by decide +kernel
theorem s_64_41 {x0 x1 : Option Value} : mw d 64 Q 41 [x0, x1] (st) h = mw d 64 Q 42 [x0, x1] (.int 3 :: st) h := (mw_at mj_64_41).trans (z_iconst (by decide))
theorem mj_64_42 : mc_P 64 42 = some (.aload_n 0, 1, 0, 0, 0) := by decide +kernel
theorem s_64_42 {x1 : Option Value} {w : Value} : mw d 64 Q 42 [some w, x1] (st) h = mv_a w (mw d 64 Q 43 [some w, x1] (w :: st) h) := (mw_at mj_64_42).trans (z_aload_n rfl)
theorem mj_64_43 : mc_P 64 43 = some (.invokevirtual 104, 3, 49, 3, 1) := by decide +kernel
theorem s_64_43 {x0 x1 : Option Value} {o : Nat} : mw (d + 1) 64 Q 43 [x0, x1] (.ref o :: st) h = (mg h o 3 ∧ mca st 8 ∧ mca [.ref o] 1 ∧ mcall d 49 [.ref o] h (mK (d + 1) 64 Q 46 [x0, x1] st)) := (mw_at mj_64_43).trans ((z_invv (As := []) (by decide) rfl rfl).trans (congrArg (And _) (congrArg (And _) (mC_nl nl_49))))
theorem mj_64_46 : mc_P 64 46 = some (.invokevirtual 221, 3, 53, 3, 3) := by decide +kernel
theorem s_64_46 {x0 x1 : Option Value} {o : Nat} {a1 a2 : Value} : mw (d + 1) 64 Q 46 [x0, x1] (a2 :: a1 :: .ref o :: st) h = (mg h o 3 ∧ mca st 8 ∧ mca [.ref o, a1, a2] 3 ∧ mcall d 53 [.ref o, a1, a2] h (mK (d + 1) 64 Q 49 [x0, x1] st)) := (mw_at mj_64_46).trans ((z_invv (As := [a1, a2]) (by decide) rfl rfl).trans (congrArg (And _) (congrArg (And _) (mC_nl nl_53))))
theorem mj_64_49 : mc_P 64 49 = some (.iload_n 1, 1, 0, 0, 0) := by decide +kernel
theorem s_64_49 {x0 : Option Value} {w : Value} : mw d 64 Q 49 [x0, some w] (st) h = mv_i w (mw d 64 Q 50 [x0, some w] (w :: st) h) := (mw_at mj_64_49).trans (z_iload_n rfl)
theorem mj_64_50 : mc_P 64 50 = some (.iconst (-1), 1, 0, 0, 0) := by decide +kernel
theorem s_64_50 {x0 x1 : Option Value} : mw d 64 Q 50 [x0, x1] (st) h = mw d 64 Q 51 [x0, x1] (.int (-1) :: st) h := (mw_at mj_64_50).trans (z_iconst (by decide))
theorem mj_64_51 : mc_P 64 51 = some (.if_icmp .ne 7, 3, 0, 0, 0) := by decide +kernel
theorem s_64_51 {x0 x1 : Option Value} {x w : Int32} : mw d 64 Q 51 [x0, x1] (.int w :: .int x :: st) h = mB (¬ x = w) (mw d 64 Q) 58 54 [x0, x1] st h := (mw_at mj_64_51).trans (z_icmp_ne (by decide) rfl)
theorem mj_64_54 : mc_P 64 54 = some (.iconst 0, 1, 0, 0, 0) := by decide +kernel
theorem s_64_54 {x0 x1 : Option Value} : mw d 64 Q 54 [x0, x1] (st) h = mw d 64 Q 55 [x0, x1] (.int 0 :: st) h := (mw_at mj_64_54).trans (z_iconst (by decide))
theorem mj_64_55 : mc_P 64 55 = some (.goto 11, 3, 0, 0, 0) := by decide +kernel
theorem s_64_55 {x0 x1 : Option Value} : mw d 64 Q 55 [x0, x1] (st) h = mw d 64 Q 66 [x0, x1] (st) h := (mw_at mj_64_55).trans (z_goto (by decide))
theorem mj_64_58 : mc_P 64 58 = some (.aload_n 0, 1, 0, 0, 0) := by decide +kernel
theorem s_64_58 {x1 : Option Value} {w : Value} : mw d 64 Q 58 [some w, x1] (st) h = mv_a w (mw d 64 Q 59 [some w, x1] (w :: st) h) := (mw_at mj_64_58).trans (z_aload_n rfl)
theorem mj_64_59 : mc_P 64 59 = some (.getfield 32, 3, 3, 2, 0) := by decide +kernel
theorem s_64_59 {x0 x1 : Option Value} {o : Nat} : mw d 64 Q 59 [x0, x1] (.ref o :: st) h = (mg h o 3 ∧ mw d 64 Q 62 [x0, x1] (va_rf (mh_r h o 2) :: st) h) := (mw_at mj_64_59).trans (z_getr (by decide) (by decide) rfl)
theorem mj_64_62 : mc_P 64 62 = some (.iload_n 1, 1, 0, 0, 0) := by decide +kernel
theorem s_64_62 {x0 : Option Value} {w : Value} : mw d 64 Q 62 [x0, some w] (st) h = mv_i w (mw d 64 Q 63 [x0, some w] (w :: st) h) := (mw_at mj_64_62).trans (z_iload_n rfl)
theorem mj_64_63 : mc_P 64 63 = some (.invokevirtual 203, 3, 123, 6, 2) := by decide +kernel
theorem s_64_63 {x0 x1 : Option Value} {o : Nat} {a1 : Value} : mw (d + 1) 64 Q 63 [x0, x1] (a1 :: .ref o :: st) h = (mg h o 6 ∧ mca st 8 ∧ mca [.ref o, a1] 2 ∧ mcall d 123 [.ref o, a1] h (mK (d + 1) 64 Q 66 [x0, x1] st)) := (mw_at mj_64_63).trans ((z_invv (As := [a1]) (by decide) rfl rfl).trans (congrArg (And _) (congrArg (And _) (mC_nl nl_123))))
theorem mj_64_66 : mc_P 64 66 = some (.ireturn, 1, 0, 0, 0) := by decide +kernel
theorem s_64_66 {x0 x1 : Option Value} {x : Int32} : mw d 64 Q 66 [x0, x1] ([.int x]) h = (Q (some (.int x)) h) := (mw_at mj_64_66).trans (z_iret)
theorem e_64 {a0 : Nat} : mcall d 64 [.ref a0] h Q = mw d 64 Q 0 [some (.ref a0), none] [] h := by
  show mw d 64 Q 0 (me_en (mc_nl 64) _) [] h = _
  rw [nl_64]; rfl

/-! InvariantDesk$Parser.arrayMeant()I -/
theorem mj_65_0 : mc_P 65 0 = some (.aload_n 0, 1, 0, 0, 0) := by decide +kernel
theorem s_65_0 {x1 : Option Value} {w : Value} : mw d 65 Q 0 [some w, x1] (st) h = mv_a w (mw d 65 Q 1 [some w, x1] (w :: st) h) := (mw_at mj_65_0).trans (z_aload_n rfl)
theorem mj_65_1 : mc_P 65 1 = some (.getfield 32, 3, 3, 2, 0) := by decide +kernel
theorem s_65_1 {x0 x1 : Option Value} {o : Nat} : mw d 65 Q 1 [x0, x1] (.ref o :: st) h = (mg h o 3 ∧ mw d 65 Q 4 [x0, x1] (va_rf (mh_r h o 2) :: st) h) := (mw_at mj_65_1).trans (z_getr (by decide) (by decide) rfl)
theorem mj_65_4 : mc_P 65 4 = some (.aload_n 0, 1, 0, 0, 0) := by decide +kernel
theorem s_65_4 {x1 : Option Value} {w : Value} : mw d 65 Q 4 [some w, x1] (st) h = mv_a w (mw d 65 Q 5 [some w, x1] (w :: st) h) := (mw_at mj_65_4).trans (z_aload_n rfl)
theorem mj_65_5 : mc_P 65 5 = some (.getfield 95, 3, 3, 5, 0) := by decide +kernel
theorem s_65_5 {x0 x1 : Option Value} {o : Nat} : mw d 65 Q 5 [x0, x1] (.ref o :: st) h = (mg h o 3 ∧ mw d 65 Q 8 [x0, x1] (.int (mh_i h o 5) :: st) h) := (mw_at mj_65_5).trans (z_geti (by decide) (by decide) (Or.inl rfl))
theorem mj_65_8 : mc_P 65 8 = some (.invokevirtual 238, 3, 119, 6, 2) := by decide +kernel
theorem s_65_8 {x0 x1 : Option Value} {o : Nat} {a1 : Value} : mw (d + 1) 65 Q 8 [x0, x1] (a1 :: .ref o :: st) h = (mg h o 6 ∧ mca st 8 ∧ mca [.ref o, a1] 3 ∧ mcall d 119 [.ref o, a1] h (mK (d + 1) 65 Q 11 [x0, x1] st)) := (mw_at mj_65_8).trans ((z_invv (As := [a1]) (by decide) rfl rfl).trans (congrArg (And _) (congrArg (And _) (mC_nl nl_119))))
theorem mj_65_11 : mc_P 65 11 = some (.istore_n 1, 1, 0, 0, 0) := by decide +kernel
theorem s_65_11 {x0 x1 : Option Value} {w : Int32} : mw d 65 Q 11 [x0, x1] (.int w :: st) h = mw d 65 Q 12 [mk2 x0, some (.int w)] (st) h := (mw_at mj_65_11).trans (z_istore_n (Nat.le_of_ble_eq_true rfl) (me_s1_mk (j := 0) (w := x0) rfl))
theorem mj_65_12 : mc_P 65 12 = some (.iload_n 1, 1, 0, 0, 0) := by decide +kernel
theorem s_65_12 {x0 : Option Value} {w : Value} : mw d 65 Q 12 [x0, some w] (st) h = mv_i w (mw d 65 Q 13 [x0, some w] (w :: st) h) := (mw_at mj_65_12).trans (z_iload_n rfl)
theorem mj_65_13 : mc_P 65 13 = some (.iconst (-1), 1, 0, 0, 0) := by decide +kernel
theorem s_65_13 {x0 x1 : Option Value} : mw d 65 Q 13 [x0, x1] (st) h = mw d 65 Q 14 [x0, x1] (.int (-1) :: st) h := (mw_at mj_65_13).trans (z_iconst (by decide))
theorem mj_65_14 : mc_P 65 14 = some (.if_icmp .ne 15, 3, 0, 0, 0) := by decide +kernel
theorem s_65_14 {x0 x1 : Option Value} {x w : Int32} : mw d 65 Q 14 [x0, x1] (.int w :: .int x :: st) h = mB (¬ x = w) (mw d 65 Q) 29 17 [x0, x1] st h := (mw_at mj_65_14).trans (z_icmp_ne (by decide) rfl)
theorem mj_65_17 : mc_P 65 17 = some (.aload_n 0, 1, 0, 0, 0) := by decide +kernel
theorem s_65_17 {x1 : Option Value} {w : Value} : mw d 65 Q 17 [some w, x1] (st) h = mv_a w (mw d 65 Q 18 [some w, x1] (w :: st) h) := (mw_at mj_65_17).trans (z_aload_n rfl)
theorem mj_65_18 : mc_P 65 18 = some (.iconst 1, 1, 0, 0, 0) := by decide +kernel
theorem s_65_18 {x0 x1 : Option Value} : mw d 65 Q 18 [x0, x1] (st) h = mw d 65 Q 19 [x0, x1] (.int 1 :: st) h := (mw_at mj_65_18).trans (z_iconst (by decide))
theorem mj_65_19 : mc_P 65 19 = some (.aload_n 0, 1, 0, 0, 0) := by decide +kernel
theorem s_65_19 {x1 : Option Value} {w : Value} : mw d 65 Q 19 [some w, x1] (st) h = mv_a w (mw d 65 Q 20 [some w, x1] (w :: st) h) := (mw_at mj_65_19).trans (z_aload_n rfl)
theorem mj_65_20 : mc_P 65 20 = some (.invokevirtual 104, 3, 49, 3, 1) := by decide +kernel
theorem s_65_20 {x0 x1 : Option Value} {o : Nat} : mw (d + 1) 65 Q 20 [x0, x1] (.ref o :: st) h = (mg h o 3 ∧ mca st 8 ∧ mca [.ref o] 1 ∧ mcall d 49 [.ref o] h (mK (d + 1) 65 Q 23 [x0, x1] st)) := (mw_at mj_65_20).trans ((z_invv (As := []) (by decide) rfl rfl).trans (congrArg (And _) (congrArg (And _) (mC_nl nl_49))))
theorem mj_65_23 : mc_P 65 23 = some (.invokevirtual 221, 3, 53, 3, 3) := by decide +kernel
theorem s_65_23 {x0 x1 : Option Value} {o : Nat} {a1 a2 : Value} : mw (d + 1) 65 Q 23 [x0, x1] (a2 :: a1 :: .ref o :: st) h = (mg h o 3 ∧ mca st 8 ∧ mca [.ref o, a1, a2] 3 ∧ mcall d 53 [.ref o, a1, a2] h (mK (d + 1) 65 Q 26 [x0, x1] st)) := (mw_at mj_65_23).trans ((z_invv (As := [a1, a2]) (by decide) rfl rfl).trans (congrArg (And _) (congrArg (And _) (mC_nl nl_53))))
theorem mj_65_26 : mc_P 65 26 = some (.goto 25, 3, 0, 0, 0) := by decide +kernel
theorem s_65_26 {x0 x1 : Option Value} : mw d 65 Q 26 [x0, x1] (st) h = mw d 65 Q 51 [x0, x1] (st) h := (mw_at mj_65_26).trans (z_goto (by decide))
theorem mj_65_29 : mc_P 65 29 = some (.aload_n 0, 1, 0, 0, 0) := by decide +kernel
theorem s_65_29 {x1 : Option Value} {w : Value} : mw d 65 Q 29 [some w, x1] (st) h = mv_a w (mw d 65 Q 30 [some w, x1] (w :: st) h) := (mw_at mj_65_29).trans (z_aload_n rfl)
theorem mj_65_30 : mc_P 65 30 = some (.getfield 32, 3, 3, 2, 0) := by decide +kernel
theorem s_65_30 {x0 x1 : Option Value} {o : Nat} : mw d 65 Q 30 [x0, x1] (.ref o :: st) h = (mg h o 3 ∧ mw d 65 Q 33 [x0, x1] (va_rf (mh_r h o 2) :: st) h) := (mw_at mj_65_30).trans (z_getr (by decide) (by decide) rfl)
theorem mj_65_33 : mc_P 65 33 = some (.iload_n 1, 1, 0, 0, 0) := by decide +kernel
theorem s_65_33 {x0 : Option Value} {w : Value} : mw d 65 Q 33 [x0, some w] (st) h = mv_i w (mw d 65 Q 34 [x0, some w] (w :: st) h) := (mw_at mj_65_33).trans (z_iload_n rfl)
theorem mj_65_34 : mc_P 65 34 = some (.invokevirtual 241, 3, 122, 6, 2) := by decide +kernel
theorem s_65_34 {x0 x1 : Option Value} {o : Nat} {a1 : Value} : mw (d + 1) 65 Q 34 [x0, x1] (a1 :: .ref o :: st) h = (mg h o 6 ∧ mca st 8 ∧ mca [.ref o, a1] 2 ∧ mcall d 122 [.ref o, a1] h (mK (d + 1) 65 Q 37 [x0, x1] st)) := (mw_at mj_65_34).trans ((z_invv (As := [a1]) (by decide) rfl rfl).trans (congrArg (And _) (congrArg (And _) (mC_nl nl_122))))
theorem mj_65_37 : mc_P 65 37 = some (.ifCond .ne 14, 3, 0, 0, 0) := by decide +kernel
theorem s_65_37 {x0 x1 : Option Value} {x : Int32} : mw d 65 Q 37 [x0, x1] (.int x :: st) h = mB (¬ x = 0) (mw d 65 Q) 51 40 [x0, x1] st h := (mw_at mj_65_37).trans (z_if_ne (by decide) rfl)
theorem mj_65_40 : mc_P 65 40 = some (.aload_n 0, 1, 0, 0, 0) := by decide +kernel
theorem s_65_40 {x1 : Option Value} {w : Value} : mw d 65 Q 40 [some w, x1] (st) h = mv_a w (mw d 65 Q 41 [some w, x1] (w :: st) h) := (mw_at mj_65_40).trans (z_aload_n rfl)
theorem mj_65_41 : mc_P 65 41 = some (.iconst 3, 1, 0, 0, 0) := by decide +kernel
theorem s_65_41 {x0 x1 : Option Value} : mw d 65 Q 41 [x0, x1] (st) h = mw d 65 Q 42 [x0, x1] (.int 3 :: st) h := (mw_at mj_65_41).trans (z_iconst (by decide))
theorem mj_65_42 : mc_P 65 42 = some (.aload_n 0, 1, 0, 0, 0) := by decide +kernel
theorem s_65_42 {x1 : Option Value} {w : Value} : mw d 65 Q 42 [some w, x1] (st) h = mv_a w (mw d 65 Q 43 [some w, x1] (w :: st) h) := (mw_at mj_65_42).trans (z_aload_n rfl)
theorem mj_65_43 : mc_P 65 43 = some (.invokevirtual 104, 3, 49, 3, 1) := by decide +kernel
theorem s_65_43 {x0 x1 : Option Value} {o : Nat} : mw (d + 1) 65 Q 43 [x0, x1] (.ref o :: st) h = (mg h o 3 ∧ mca st 8 ∧ mca [.ref o] 1 ∧ mcall d 49 [.ref o] h (mK (d + 1) 65 Q 46 [x0, x1] st)) := (mw_at mj_65_43).trans ((z_invv (As := []) (by decide) rfl rfl).trans (congrArg (And _) (congrArg (And _) (mC_nl nl_49))))
theorem mj_65_46 : mc_P 65 46 = some (.invokevirtual 221, 3, 53, 3, 3) := by decide +kernel
theorem s_65_46 {x0 x1 : Option Value} {o : Nat} {a1 a2 : Value} : mw (d + 1) 65 Q 46 [x0, x1] (a2 :: a1 :: .ref o :: st) h = (mg h o 3 ∧ mca st 8 ∧ mca [.ref o, a1, a2] 3 ∧ mcall d 53 [.ref o, a1, a2] h (mK (d + 1) 65 Q 49 [x0, x1] st)) := (mw_at mj_65_46).trans ((z_invv (As := [a1, a2]) (by decide) rfl rfl).trans (congrArg (And _) (congrArg (And _) (mC_nl nl_53))))
theorem mj_65_49 : mc_P 65 49 = some (.iconst (-1), 1, 0, 0, 0) := by decide +kernel
theorem s_65_49 {x0 x1 : Option Value} : mw d 65 Q 49 [x0, x1] (st) h = mw d 65 Q 50 [x0, x1] (.int (-1) :: st) h := (mw_at mj_65_49).trans (z_iconst (by decide))
theorem mj_65_50 : mc_P 65 50 = some (.istore_n 1, 1, 0, 0, 0) := by decide +kernel
theorem s_65_50 {x0 x1 : Option Value} {w : Int32} : mw d 65 Q 50 [x0, x1] (.int w :: st) h = mw d 65 Q 51 [mk2 x0, some (.int w)] (st) h := (mw_at mj_65_50).trans (z_istore_n (Nat.le_of_ble_eq_true rfl) (me_s1_mk (j := 0) (w := x0) rfl))
theorem mj_65_51 : mc_P 65 51 = some (.iload_n 1, 1, 0, 0, 0) := by decide +kernel
theorem s_65_51 {x0 : Option Value} {w : Value} : mw d 65 Q 51 [x0, some w] (st) h = mv_i w (mw d 65 Q 52 [x0, some w] (w :: st) h) := (mw_at mj_65_51).trans (z_iload_n rfl)
theorem mj_65_52 : mc_P 65 52 = some (.ireturn, 1, 0, 0, 0) := by decide +kernel
theorem s_65_52 {x0 x1 : Option Value} {x : Int32} : mw d 65 Q 52 [x0, x1] ([.int x]) h = (Q (some (.int x)) h) := (mw_at mj_65_52).trans (z_iret)
theorem e_65 {a0 : Nat} : mcall d 65 [.ref a0] h Q = mw d 65 Q 0 [some (.ref a0), none] [] h := by
  show mw d 65 Q 0 (me_en (mc_nl 65) _) [] h = _
  rw [nl_65]; rfl

/-! InvariantDesk$Parser.readStatement(I)V -/
theorem mj_66_0 : mc_P 66 0 = some (.iload_n 1, 1, 0, 0, 0) := by decide +kernel
theorem s_66_0 {x0 x2 x3 : Option Value} {w : Value} : mw d 66 Q 0 [x0, some w, x2, x3] (st) h = mv_i w (mw d 66 Q 1 [x0, some w, x2, x3] (w :: st) h) := (mw_at mj_66_0).trans (z_iload_n rfl)
theorem mj_66_1 : mc_P 66 1 = some (.tableswitch 270 150 156 #[43, 85, 92, 155, 179, 218, 263], 43, 0, 0, 0) := by decide +kernel
theorem s_66_1 {x0 x1 x2 x3 : Option Value} {x : Int32} : mw d 66 Q 1 [x0, x1, x2, x3] (.int x :: st) h = mS x (mw d 66 Q) 271 [x0, x1, x2, x3] st h [(150, 44), (151, 86), (152, 93), (153, 156), (154, 180), (155, 219), (156, 264)] := (mw_at mj_66_1).trans (z_tab (by decide) (by decide) (by decide +kernel))
theorem mj_66_44 : mc_P 66 44 = some (.aload_n 0, 1, 0, 0, 0) := by decide +kernel
theorem s_66_44 {x1 x2 x3 : Option Value} {w : Value} : mw d 66 Q 44 [some w, x1, x2, x3] (st) h = mv_a w (mw d 66 Q 45 [some w, x1, x2, x3] (w :: st) h) := (mw_at mj_66_44).trans (z_aload_n rfl)
theorem mj_66_45 : mc_P 66 45 = some (.getfield 32, 3, 3, 2, 0) := by decide +kernel
theorem s_66_45 {x0 x1 x2 x3 : Option Value} {o : Nat} : mw d 66 Q 45 [x0, x1, x2, x3] (.ref o :: st) h = (mg h o 3 ∧ mw d 66 Q 48 [x0, x1, x2, x3] (va_rf (mh_r h o 2) :: st) h) := (mw_at mj_66_45).trans (z_getr (by decide) (by decide) rfl)
theorem mj_66_48 : mc_P 66 48 = some (.aload_n 0, 1, 0, 0, 0) := by decide +kernel
theorem s_66_48 {x1 x2 x3 : Option Value} {w : Value} : mw d 66 Q 48 [some w, x1, x2, x3] (st) h = mv_a w (mw d 66 Q 49 [some w, x1, x2, x3] (w :: st) h) := (mw_at mj_66_48).trans (z_aload_n rfl)
theorem mj_66_49 : mc_P 66 49 = some (.getfield 95, 3, 3, 5, 0) := by decide +kernel
theorem s_66_49 {x0 x1 x2 x3 : Option Value} {o : Nat} : mw d 66 Q 49 [x0, x1, x2, x3] (.ref o :: st) h = (mg h o 3 ∧ mw d 66 Q 52 [x0, x1, x2, x3] (.int (mh_i h o 5) :: st) h) := (mw_at mj_66_49).trans (z_geti (by decide) (by decide) (Or.inl rfl))
theorem mj_66_52 : mc_P 66 52 = some (.invokevirtual 138, 3, 120, 6, 2) := by decide +kernel
theorem s_66_52 {x0 x1 x2 x3 : Option Value} {o : Nat} {a1 : Value} : mw (d + 1) 66 Q 52 [x0, x1, x2, x3] (a1 :: .ref o :: st) h = (mg h o 6 ∧ mca st 8 ∧ mca [.ref o, a1] 2 ∧ mcall d 120 [.ref o, a1] h (mK (d + 1) 66 Q 55 [x0, x1, x2, x3] st)) := (mw_at mj_66_52).trans ((z_invv (As := [a1]) (by decide) rfl rfl).trans (congrArg (And _) (congrArg (And _) (mC_nl nl_120))))
theorem mj_66_55 : mc_P 66 55 = some (.ifCond .eq 12, 3, 0, 0, 0) := by decide +kernel
theorem s_66_55 {x0 x1 x2 x3 : Option Value} {x : Int32} : mw d 66 Q 55 [x0, x1, x2, x3] (.int x :: st) h = mB (x = 0) (mw d 66 Q) 67 58 [x0, x1, x2, x3] st h := (mw_at mj_66_55).trans (z_if_eq (by decide) rfl)
theorem mj_66_58 : mc_P 66 58 = some (.aload_n 0, 1, 0, 0, 0) := by decide +kernel
theorem s_66_58 {x1 x2 x3 : Option Value} {w : Value} : mw d 66 Q 58 [some w, x1, x2, x3] (st) h = mv_a w (mw d 66 Q 59 [some w, x1, x2, x3] (w :: st) h) := (mw_at mj_66_58).trans (z_aload_n rfl)
theorem mj_66_59 : mc_P 66 59 = some (.iconst 2, 1, 0, 0, 0) := by decide +kernel
theorem s_66_59 {x0 x1 x2 x3 : Option Value} : mw d 66 Q 59 [x0, x1, x2, x3] (st) h = mw d 66 Q 60 [x0, x1, x2, x3] (.int 2 :: st) h := (mw_at mj_66_59).trans (z_iconst (by decide))
theorem mj_66_60 : mc_P 66 60 = some (.aload_n 0, 1, 0, 0, 0) := by decide +kernel
theorem s_66_60 {x1 x2 x3 : Option Value} {w : Value} : mw d 66 Q 60 [some w, x1, x2, x3] (st) h = mv_a w (mw d 66 Q 61 [some w, x1, x2, x3] (w :: st) h) := (mw_at mj_66_60).trans (z_aload_n rfl)
theorem mj_66_61 : mc_P 66 61 = some (.invokevirtual 104, 3, 49, 3, 1) := by decide +kernel
theorem s_66_61 {x0 x1 x2 x3 : Option Value} {o : Nat} : mw (d + 1) 66 Q 61 [x0, x1, x2, x3] (.ref o :: st) h = (mg h o 3 ∧ mca st 8 ∧ mca [.ref o] 1 ∧ mcall d 49 [.ref o] h (mK (d + 1) 66 Q 64 [x0, x1, x2, x3] st)) := (mw_at mj_66_61).trans ((z_invv (As := []) (by decide) rfl rfl).trans (congrArg (And _) (congrArg (And _) (mC_nl nl_49))))
theorem mj_66_64 : mc_P 66 64 = some (.invokevirtual 221, 3, 53, 3, 3) := by decide +kernel
theorem s_66_64 {x0 x1 x2 x3 : Option Value} {o : Nat} {a1 a2 : Value} : mw (d + 1) 66 Q 64 [x0, x1, x2, x3] (a2 :: a1 :: .ref o :: st) h = (mg h o 3 ∧ mca st 8 ∧ mca [.ref o, a1, a2] 3 ∧ mcall d 53 [.ref o, a1, a2] h (mK (d + 1) 66 Q 67 [x0, x1, x2, x3] st)) := (mw_at mj_66_64).trans ((z_invv (As := [a1, a2]) (by decide) rfl rfl).trans (congrArg (And _) (congrArg (And _) (mC_nl nl_53))))
theorem mj_66_67 : mc_P 66 67 = some (.aload_n 0, 1, 0, 0, 0) := by decide +kernel
theorem s_66_67 {x1 x2 x3 : Option Value} {w : Value} : mw d 66 Q 67 [some w, x1, x2, x3] (st) h = mv_a w (mw d 66 Q 68 [some w, x1, x2, x3] (w :: st) h) := (mw_at mj_66_67).trans (z_aload_n rfl)
theorem mj_66_68 : mc_P 66 68 = some (.getfield 117, 3, 3, 8, 0) := by decide +kernel
theorem s_66_68 {x0 x1 x2 x3 : Option Value} {o : Nat} : mw d 66 Q 68 [x0, x1, x2, x3] (.ref o :: st) h = (mg h o 3 ∧ mw d 66 Q 71 [x0, x1, x2, x3] (va_rf (mh_r h o 8) :: st) h) := (mw_at mj_66_68).trans (z_getr (by decide) (by decide) rfl)
theorem mj_66_71 : mc_P 66 71 = some (.aload_n 0, 1, 0, 0, 0) := by decide +kernel
theorem s_66_71 {x1 x2 x3 : Option Value} {w : Value} : mw d 66 Q 71 [some w, x1, x2, x3] (st) h = mv_a w (mw d 66 Q 72 [some w, x1, x2, x3] (w :: st) h) := (mw_at mj_66_71).trans (z_aload_n rfl)
theorem mj_66_72 : mc_P 66 72 = some (.getfield 95, 3, 3, 5, 0) := by decide +kernel
theorem s_66_72 {x0 x1 x2 x3 : Option Value} {o : Nat} : mw d 66 Q 72 [x0, x1, x2, x3] (.ref o :: st) h = (mg h o 3 ∧ mw d 66 Q 75 [x0, x1, x2, x3] (.int (mh_i h o 5) :: st) h) := (mw_at mj_66_72).trans (z_geti (by decide) (by decide) (Or.inl rfl))
theorem mj_66_75 : mc_P 66 75 = some (.putfield 244, 3, 9, 7, 0) := by decide +kernel
theorem s_66_75 {x0 x1 x2 x3 : Option Value} {o : Nat} {w : Int32} : mw d 66 Q 75 [x0, x1, x2, x3] (.int w :: .ref o :: st) h = (mg h o 9 ∧ mw d 66 Q 78 [x0, x1, x2, x3] (st) (mh_si h o 7 w)) := (mw_at mj_66_75).trans (z_puti (by decide) (by decide) rfl)
theorem mj_66_78 : mc_P 66 78 = some (.aload_n 0, 1, 0, 0, 0) := by decide +kernel
theorem s_66_78 {x1 x2 x3 : Option Value} {w : Value} : mw d 66 Q 78 [some w, x1, x2, x3] (st) h = mv_a w (mw d 66 Q 79 [some w, x1, x2, x3] (w :: st) h) := (mw_at mj_66_78).trans (z_aload_n rfl)
theorem mj_66_79 : mc_P 66 79 = some (.iconst 2, 1, 0, 0, 0) := by decide +kernel
theorem s_66_79 {x0 x1 x2 x3 : Option Value} : mw d 66 Q 79 [x0, x1, x2, x3] (st) h = mw d 66 Q 80 [x0, x1, x2, x3] (.int 2 :: st) h := (mw_at mj_66_79).trans (z_iconst (by decide))
theorem mj_66_80 : mc_P 66 80 = some (.invokevirtual 59, 3, 51, 3, 2) := by decide +kernel
theorem s_66_80 {x0 x1 x2 x3 : Option Value} {o : Nat} {a1 : Value} : mw (d + 1) 66 Q 80 [x0, x1, x2, x3] (a1 :: .ref o :: st) h = (mg h o 3 ∧ mca st 8 ∧ mca [.ref o, a1] 2 ∧ mcall d 51 [.ref o, a1] h (mK (d + 1) 66 Q 83 [x0, x1, x2, x3] st)) := (mw_at mj_66_80).trans ((z_invv (As := [a1]) (by decide) rfl rfl).trans (congrArg (And _) (congrArg (And _) (mC_nl nl_51))))
theorem mj_66_83 : mc_P 66 83 = some (.goto 193, 3, 0, 0, 0) := by decide +kernel
theorem s_66_83 {x0 x1 x2 x3 : Option Value} : mw d 66 Q 83 [x0, x1, x2, x3] (st) h = mw d 66 Q 276 [x0, x1, x2, x3] (st) h := (mw_at mj_66_83).trans (z_goto (by decide))
theorem mj_66_86 : mc_P 66 86 = some (.aload_n 0, 1, 0, 0, 0) := by decide +kernel
theorem s_66_86 {x1 x2 x3 : Option Value} {w : Value} : mw d 66 Q 86 [some w, x1, x2, x3] (st) h = mv_a w (mw d 66 Q 87 [some w, x1, x2, x3] (w :: st) h) := (mw_at mj_66_86).trans (z_aload_n rfl)
theorem mj_66_87 : mc_P 66 87 = some (.invokevirtual 247, 3, 67, 3, 1) := by decide +kernel
theorem s_66_87 {x0 x1 x2 x3 : Option Value} {o : Nat} : mw (d + 1) 66 Q 87 [x0, x1, x2, x3] (.ref o :: st) h = (mg h o 3 ∧ mca st 8 ∧ mca [.ref o] 2 ∧ mcall d 67 [.ref o] h (mK (d + 1) 66 Q 90 [x0, x1, x2, x3] st)) := (mw_at mj_66_87).trans ((z_invv (As := []) (by decide) rfl rfl).trans (congrArg (And _) (congrArg (And _) (mC_nl nl_67))))
theorem mj_66_90 : mc_P 66 90 = some (.goto 186, 3, 0, 0, 0) := by decide +kernel
theorem s_66_90 {x0 x1 x2 x3 : Option Value} : mw d 66 Q 90 [x0, x1, x2, x3] (st) h = mw d 66 Q 276 [x0, x1, x2, x3] (st) h := (mw_at mj_66_90).trans (z_goto (by decide))
theorem mj_66_93 : mc_P 66 93 = some (.aload_n 0, 1, 0, 0, 0) := by decide +kernel
theorem s_66_93 {x1 x2 x3 : Option Value} {w : Value} : mw d 66 Q 93 [some w, x1, x2, x3] (st) h = mv_a w (mw d 66 Q 94 [some w, x1, x2, x3] (w :: st) h) := (mw_at mj_66_93).trans (z_aload_n rfl)
theorem mj_66_94 : mc_P 66 94 = some (.getfield 19, 3, 3, 0, 0) := by decide +kernel
theorem s_66_94 {x0 x1 x2 x3 : Option Value} {o : Nat} : mw d 66 Q 94 [x0, x1, x2, x3] (.ref o :: st) h = (mg h o 3 ∧ mw d 66 Q 97 [x0, x1, x2, x3] (va_rf (mh_r h o 0) :: st) h) := (mw_at mj_66_94).trans (z_getr (by decide) (by decide) rfl)
theorem mj_66_97 : mc_P 66 97 = some (.aload_n 0, 1, 0, 0, 0) := by decide +kernel
theorem s_66_97 {x1 x2 x3 : Option Value} {w : Value} : mw d 66 Q 97 [some w, x1, x2, x3] (st) h = mv_a w (mw d 66 Q 98 [some w, x1, x2, x3] (w :: st) h) := (mw_at mj_66_97).trans (z_aload_n rfl)
theorem mj_66_98 : mc_P 66 98 = some (.invokevirtual 104, 3, 49, 3, 1) := by decide +kernel
theorem s_66_98 {x0 x1 x2 x3 : Option Value} {o : Nat} : mw (d + 1) 66 Q 98 [x0, x1, x2, x3] (.ref o :: st) h = (mg h o 3 ∧ mca st 8 ∧ mca [.ref o] 1 ∧ mcall d 49 [.ref o] h (mK (d + 1) 66 Q 101 [x0, x1, x2, x3] st)) := (mw_at mj_66_98).trans ((z_invv (As := []) (by decide) rfl rfl).trans (congrArg (And _) (congrArg (And _) (mC_nl nl_49))))
theorem mj_66_101 : mc_P 66 101 = some (.invokevirtual 250, 3, 177, 10, 2) := by decide +kernel
theorem s_66_101 {x0 x1 x2 x3 : Option Value} {o : Nat} {a1 : Value} : mw (d + 1) 66 Q 101 [x0, x1, x2, x3] (a1 :: .ref o :: st) h = (mg h o 10 ∧ mca st 8 ∧ mca [.ref o, a1] 5 ∧ mcall d 177 [.ref o, a1] h (mK (d + 1) 66 Q 104 [x0, x1, x2, x3] st)) := (mw_at mj_66_101).trans ((z_invv (As := [a1]) (by decide) rfl rfl).trans (congrArg (And _) (congrArg (And _) (mC_nl nl_177))))
theorem mj_66_104 : mc_P 66 104 = some (.lstore_n 2, 1, 0, 0, 0) := by decide +kernel
theorem s_66_104 {x0 x1 x2 x3 : Option Value} {w : Int64} : mw d 66 Q 104 [x0, x1, x2, x3] (.long w :: st) h = mw d 66 Q 105 [x0, mk2 x1, some (.long w), none] (st) h := (mw_at mj_66_104).trans (z_lstore_n (Nat.le_of_ble_eq_true rfl) (me_s2_mk (j := 1) (w := x1) rfl))
theorem mj_66_105 : mc_P 66 105 = some (.lload_n 2, 1, 0, 0, 0) := by decide +kernel
theorem s_66_105 {x0 x1 x3 : Option Value} {w : Value} : mw d 66 Q 105 [x0, x1, some w, x3] (st) h = mv_l w (mw d 66 Q 106 [x0, x1, some w, x3] (w :: st) h) := (mw_at mj_66_105).trans (z_lload_n rfl)
theorem mj_66_106 : mc_P 66 106 = some (.lconst 1, 1, 0, 0, 0) := by decide +kernel
theorem s_66_106 {x0 x1 x2 x3 : Option Value} : mw d 66 Q 106 [x0, x1, x2, x3] (st) h = mw d 66 Q 107 [x0, x1, x2, x3] (.long 1 :: st) h := (mw_at mj_66_106).trans (z_lconst (by decide))
theorem mj_66_107 : mc_P 66 107 = some (.lcmp, 1, 0, 0, 0) := by decide +kernel
theorem s_66_107 {x0 x1 x2 x3 : Option Value} {x w : Int64} : mw d 66 Q 107 [x0, x1, x2, x3] (.long w :: .long x :: st) h = mw d 66 Q 108 [x0, x1, x2, x3] (.int (lg_cmp x w) :: st) h := (mw_at mj_66_107).trans (z_lcmp)
theorem mj_66_108 : mc_P 66 108 = some (.ifCond .lt 11, 3, 0, 0, 0) := by decide +kernel
theorem s_66_108 {x0 x1 x2 x3 : Option Value} {x : Int32} : mw d 66 Q 108 [x0, x1, x2, x3] (.int x :: st) h = mB (x < 0) (mw d 66 Q) 119 111 [x0, x1, x2, x3] st h := (mw_at mj_66_108).trans (z_if_lt (by decide) rfl)
theorem mj_66_111 : mc_P 66 111 = some (.lload_n 2, 1, 0, 0, 0) := by decide +kernel
theorem s_66_111 {x0 x1 x3 : Option Value} {w : Value} : mw d 66 Q 111 [x0, x1, some w, x3] (st) h = mv_l w (mw d 66 Q 112 [x0, x1, some w, x3] (w :: st) h) := (mw_at mj_66_111).trans (z_lload_n rfl)
theorem mj_66_112 : mc_P 66 112 = some (.ldc2_w 254, 3, 0, 0, 64) := by decide +kernel
theorem s_66_112 {x0 x1 x2 x3 : Option Value} : mw d 66 Q 112 [x0, x1, x2, x3] (st) h = mw d 66 Q 115 [x0, x1, x2, x3] (.long 64 :: st) h := (mw_at mj_66_112).trans (z_ldc2 (by decide))
theorem mj_66_115 : mc_P 66 115 = some (.lcmp, 1, 0, 0, 0) := by decide +kernel
theorem s_66_115 {x0 x1 x2 x3 : Option Value} {x w : Int64} : mw d 66 Q 115 [x0, x1, x2, x3] (.long w :: .long x :: st) h = mw d 66 Q 116 [x0, x1, x2, x3] (.int (lg_cmp x w) :: st) h := (mw_at mj_66_115).trans (z_lcmp)
theorem mj_66_116 : mc_P 66 116 = some (.ifCond .le 13, 3, 0, 0, 0) := by decide +kernel
theorem s_66_116 {x0 x1 x2 x3 : Option Value} {x : Int32} : mw d 66 Q 116 [x0, x1, x2, x3] (.int x :: st) h = mB (x ≤ 0) (mw d 66 Q) 129 119 [x0, x1, x2, x3] st h := (mw_at mj_66_116).trans (z_if_le (by decide) rfl)
theorem mj_66_119 : mc_P 66 119 = some (.aload_n 0, 1, 0, 0, 0) := by decide +kernel
theorem s_66_119 {x1 x2 x3 : Option Value} {w : Value} : mw d 66 Q 119 [some w, x1, x2, x3] (st) h = mv_a w (mw d 66 Q 120 [some w, x1, x2, x3] (w :: st) h) := (mw_at mj_66_119).trans (z_aload_n rfl)
theorem mj_66_120 : mc_P 66 120 = some (.bipush 9, 2, 0, 0, 0) := by decide +kernel
theorem s_66_120 {x0 x1 x2 x3 : Option Value} : mw d 66 Q 120 [x0, x1, x2, x3] (st) h = mw d 66 Q 122 [x0, x1, x2, x3] (.int 9 :: st) h := (mw_at mj_66_120).trans (z_bipush (by decide))
theorem mj_66_122 : mc_P 66 122 = some (.aload_n 0, 1, 0, 0, 0) := by decide +kernel
theorem s_66_122 {x1 x2 x3 : Option Value} {w : Value} : mw d 66 Q 122 [some w, x1, x2, x3] (st) h = mv_a w (mw d 66 Q 123 [some w, x1, x2, x3] (w :: st) h) := (mw_at mj_66_122).trans (z_aload_n rfl)
theorem mj_66_123 : mc_P 66 123 = some (.invokevirtual 104, 3, 49, 3, 1) := by decide +kernel
theorem s_66_123 {x0 x1 x2 x3 : Option Value} {o : Nat} : mw (d + 1) 66 Q 123 [x0, x1, x2, x3] (.ref o :: st) h = (mg h o 3 ∧ mca st 8 ∧ mca [.ref o] 1 ∧ mcall d 49 [.ref o] h (mK (d + 1) 66 Q 126 [x0, x1, x2, x3] st)) := (mw_at mj_66_123).trans ((z_invv (As := []) (by decide) rfl rfl).trans (congrArg (And _) (congrArg (And _) (mC_nl nl_49))))
theorem mj_66_126 : mc_P 66 126 = some (.invokevirtual 221, 3, 53, 3, 3) := by decide +kernel
theorem s_66_126 {x0 x1 x2 x3 : Option Value} {o : Nat} {a1 a2 : Value} : mw (d + 1) 66 Q 126 [x0, x1, x2, x3] (a2 :: a1 :: .ref o :: st) h = (mg h o 3 ∧ mca st 8 ∧ mca [.ref o, a1, a2] 3 ∧ mcall d 53 [.ref o, a1, a2] h (mK (d + 1) 66 Q 129 [x0, x1, x2, x3] st)) := (mw_at mj_66_126).trans ((z_invv (As := [a1, a2]) (by decide) rfl rfl).trans (congrArg (And _) (congrArg (And _) (mC_nl nl_53))))
theorem mj_66_129 : mc_P 66 129 = some (.aload_n 0, 1, 0, 0, 0) := by decide +kernel
theorem s_66_129 {x1 x2 x3 : Option Value} {w : Value} : mw d 66 Q 129 [some w, x1, x2, x3] (st) h = mv_a w (mw d 66 Q 130 [some w, x1, x2, x3] (w :: st) h) := (mw_at mj_66_129).trans (z_aload_n rfl)
theorem mj_66_130 : mc_P 66 130 = some (.getfield 117, 3, 3, 8, 0) := by decide +kernel
theorem s_66_130 {x0 x1 x2 x3 : Option Value} {o : Nat} : mw d 66 Q 130 [x0, x1, x2, x3] (.ref o :: st) h = (mg h o 3 ∧ mw d 66 Q 133 [x0, x1, x2, x3] (va_rf (mh_r h o 8) :: st) h) := (mw_at mj_66_130).trans (z_getr (by decide) (by decide) rfl)
theorem mj_66_133 : mc_P 66 133 = some (.lload_n 2, 1, 0, 0, 0) := by decide +kernel
theorem s_66_133 {x0 x1 x3 : Option Value} {w : Value} : mw d 66 Q 133 [x0, x1, some w, x3] (st) h = mv_l w (mw d 66 Q 134 [x0, x1, some w, x3] (w :: st) h) := (mw_at mj_66_133).trans (z_lload_n rfl)
theorem mj_66_134 : mc_P 66 134 = some (.lconst 1, 1, 0, 0, 0) := by decide +kernel
theorem s_66_134 {x0 x1 x2 x3 : Option Value} : mw d 66 Q 134 [x0, x1, x2, x3] (st) h = mw d 66 Q 135 [x0, x1, x2, x3] (.long 1 :: st) h := (mw_at mj_66_134).trans (z_lconst (by decide))
theorem mj_66_135 : mc_P 66 135 = some (.lcmp, 1, 0, 0, 0) := by decide +kernel
theorem s_66_135 {x0 x1 x2 x3 : Option Value} {x w : Int64} : mw d 66 Q 135 [x0, x1, x2, x3] (.long w :: .long x :: st) h = mw d 66 Q 136 [x0, x1, x2, x3] (.int (lg_cmp x w) :: st) h := (mw_at mj_66_135).trans (z_lcmp)
theorem mj_66_136 : mc_P 66 136 = some (.ifCond .ge 7, 3, 0, 0, 0) := by decide +kernel
theorem s_66_136 {x0 x1 x2 x3 : Option Value} {x : Int32} : mw d 66 Q 136 [x0, x1, x2, x3] (.int x :: st) h = mB (0 ≤ x) (mw d 66 Q) 143 139 [x0, x1, x2, x3] st h := (mw_at mj_66_136).trans (z_if_ge (by decide) rfl)
theorem mj_66_139 : mc_P 66 139 = some (.iconst 1, 1, 0, 0, 0) := by decide +kernel
theorem s_66_139 {x0 x1 x2 x3 : Option Value} : mw d 66 Q 139 [x0, x1, x2, x3] (st) h = mw d 66 Q 140 [x0, x1, x2, x3] (.int 1 :: st) h := (mw_at mj_66_139).trans (z_iconst (by decide))
theorem mj_66_140 : mc_P 66 140 = some (.goto 5, 3, 0, 0, 0) := by decide +kernel
theorem s_66_140 {x0 x1 x2 x3 : Option Value} : mw d 66 Q 140 [x0, x1, x2, x3] (st) h = mw d 66 Q 145 [x0, x1, x2, x3] (st) h := (mw_at mj_66_140).trans (z_goto (by decide))
theorem mj_66_143 : mc_P 66 143 = some (.lload_n 2, 1, 0, 0, 0) := by decide +kernel
theorem s_66_143 {x0 x1 x3 : Option Value} {w : Value} : mw d 66 Q 143 [x0, x1, some w, x3] (st) h = mv_l w (mw d 66 Q 144 [x0, x1, some w, x3] (w :: st) h) := (mw_at mj_66_143).trans (z_lload_n rfl)
theorem mj_66_144 : mc_P 66 144 = some (.l2i, 1, 0, 0, 0) := by decide +kernel
theorem s_66_144 {x0 x1 x2 x3 : Option Value} {x : Int64} : mw d 66 Q 144 [x0, x1, x2, x3] (.long x :: st) h = mw d 66 Q 145 [x0, x1, x2, x3] (.int x.toInt32 :: st) h := (mw_at mj_66_144).trans (z_l2i)
theorem mj_66_145 : mc_P 66 145 = some (.putfield 209, 3, 9, 9, 0) := by decide +kernel
theorem s_66_145 {x0 x1 x2 x3 : Option Value} {o : Nat} {w : Int32} : mw d 66 Q 145 [x0, x1, x2, x3] (.int w :: .ref o :: st) h = (mg h o 9 ∧ mw d 66 Q 148 [x0, x1, x2, x3] (st) (mh_si h o 9 w)) := (mw_at mj_66_145).trans (z_puti (by decide) (by decide) rfl)
theorem mj_66_148 : mc_P 66 148 = some (.aload_n 0, 1, 0, 0, 0) := by decide +kernel
theorem s_66_148 {x1 x2 x3 : Option Value} {w : Value} : mw d 66 Q 148 [some w, x1, x2, x3] (st) h = mv_a w (mw d 66 Q 149 [some w, x1, x2, x3] (w :: st) h) := (mw_at mj_66_148).trans (z_aload_n rfl)
theorem mj_66_149 : mc_P 66 149 = some (.iconst 3, 1, 0, 0, 0) := by decide +kernel
theorem s_66_149 {x0 x1 x2 x3 : Option Value} : mw d 66 Q 149 [x0, x1, x2, x3] (st) h = mw d 66 Q 150 [x0, x1, x2, x3] (.int 3 :: st) h := (mw_at mj_66_149).trans (z_iconst (by decide))
theorem mj_66_150 : mc_P 66 150 = some (.invokevirtual 59, 3, 51, 3, 2) := by decide +kernel
theorem s_66_150 {x0 x1 x2 x3 : Option Value} {o : Nat} {a1 : Value} : mw (d + 1) 66 Q 150 [x0, x1, x2, x3] (a1 :: .ref o :: st) h = (mg h o 3 ∧ mca st 8 ∧ mca [.ref o, a1] 2 ∧ mcall d 51 [.ref o, a1] h (mK (d + 1) 66 Q 153 [x0, x1, x2, x3] st)) := (mw_at mj_66_150).trans ((z_invv (As := [a1]) (by decide) rfl rfl).trans (congrArg (And _) (congrArg (And _) (mC_nl nl_51))))
theorem mj_66_153 : mc_P 66 153 = some (.goto 123, 3, 0, 0, 0) := by decide +kernel
theorem s_66_153 {x0 x1 x2 x3 : Option Value} : mw d 66 Q 153 [x0, x1, x2, x3] (st) h = mw d 66 Q 276 [x0, x1, x2, x3] (st) h := (mw_at mj_66_153).trans (z_goto (by decide))
theorem mj_66_156 : mc_P 66 156 = some (.aload_n 0, 1, 0, 0, 0) := by decide +kernel
theorem s_66_156 {x1 x2 x3 : Option Value} {w : Value} : mw d 66 Q 156 [some w, x1, x2, x3] (st) h = mv_a w (mw d 66 Q 157 [some w, x1, x2, x3] (w :: st) h) := (mw_at mj_66_156).trans (z_aload_n rfl)
theorem mj_66_157 : mc_P 66 157 = some (.getfield 32, 3, 3, 2, 0) := by decide +kernel
theorem s_66_157 {x0 x1 x2 x3 : Option Value} {o : Nat} : mw d 66 Q 157 [x0, x1, x2, x3] (.ref o :: st) h = (mg h o 3 ∧ mw d 66 Q 160 [x0, x1, x2, x3] (va_rf (mh_r h o 2) :: st) h) := (mw_at mj_66_157).trans (z_getr (by decide) (by decide) rfl)
theorem mj_66_160 : mc_P 66 160 = some (.aload_n 0, 1, 0, 0, 0) := by decide +kernel
theorem s_66_160 {x1 x2 x3 : Option Value} {w : Value} : mw d 66 Q 160 [some w, x1, x2, x3] (st) h = mv_a w (mw d 66 Q 161 [some w, x1, x2, x3] (w :: st) h) := (mw_at mj_66_160).trans (z_aload_n rfl)
theorem mj_66_161 : mc_P 66 161 = some (.getfield 117, 3, 3, 8, 0) := by decide +kernel
theorem s_66_161 {x0 x1 x2 x3 : Option Value} {o : Nat} : mw d 66 Q 161 [x0, x1, x2, x3] (.ref o :: st) h = (mg h o 3 ∧ mw d 66 Q 164 [x0, x1, x2, x3] (va_rf (mh_r h o 8) :: st) h) := (mw_at mj_66_161).trans (z_getr (by decide) (by decide) rfl)
theorem mj_66_164 : mc_P 66 164 = some (.getfield 244, 3, 9, 7, 0) := by decide +kernel
theorem s_66_164 {x0 x1 x2 x3 : Option Value} {o : Nat} : mw d 66 Q 164 [x0, x1, x2, x3] (.ref o :: st) h = (mg h o 9 ∧ mw d 66 Q 167 [x0, x1, x2, x3] (.int (mh_i h o 7) :: st) h) := (mw_at mj_66_164).trans (z_geti (by decide) (by decide) (Or.inl rfl))
theorem mj_66_167 : mc_P 66 167 = some (.aload_n 0, 1, 0, 0, 0) := by decide +kernel
theorem s_66_167 {x1 x2 x3 : Option Value} {w : Value} : mw d 66 Q 167 [some w, x1, x2, x3] (st) h = mv_a w (mw d 66 Q 168 [some w, x1, x2, x3] (w :: st) h) := (mw_at mj_66_167).trans (z_aload_n rfl)
theorem mj_66_168 : mc_P 66 168 = some (.getfield 117, 3, 3, 8, 0) := by decide +kernel
theorem s_66_168 {x0 x1 x2 x3 : Option Value} {o : Nat} : mw d 66 Q 168 [x0, x1, x2, x3] (.ref o :: st) h = (mg h o 3 ∧ mw d 66 Q 171 [x0, x1, x2, x3] (va_rf (mh_r h o 8) :: st) h) := (mw_at mj_66_168).trans (z_getr (by decide) (by decide) rfl)
theorem mj_66_171 : mc_P 66 171 = some (.getfield 209, 3, 9, 9, 0) := by decide +kernel
theorem s_66_171 {x0 x1 x2 x3 : Option Value} {o : Nat} : mw d 66 Q 171 [x0, x1, x2, x3] (.ref o :: st) h = (mg h o 9 ∧ mw d 66 Q 174 [x0, x1, x2, x3] (.int (mh_i h o 9) :: st) h) := (mw_at mj_66_171).trans (z_geti (by decide) (by decide) (Or.inl rfl))
theorem mj_66_174 : mc_P 66 174 = some (.invokevirtual 146, 3, 121, 6, 3) := by decide +kernel
theorem s_66_174 {x0 x1 x2 x3 : Option Value} {o : Nat} {a1 a2 : Value} : mw (d + 1) 66 Q 174 [x0, x1, x2, x3] (a2 :: a1 :: .ref o :: st) h = (mg h o 6 ∧ mca st 8 ∧ mca [.ref o, a1, a2] 3 ∧ mcall d 121 [.ref o, a1, a2] h (mK (d + 1) 66 Q 177 [x0, x1, x2, x3] st)) := (mw_at mj_66_174).trans ((z_invv (As := [a1, a2]) (by decide) rfl rfl).trans (congrArg (And _) (congrArg (And _) (mC_nl nl_121))))
theorem mj_66_177 : mc_P 66 177 = some (.goto 99, 3, 0, 0, 0) := by decide +kernel
theorem s_66_177 {x0 x1 x2 x3 : Option Value} : mw d 66 Q 177 [x0, x1, x2, x3] (st) h = mw d 66 Q 276 [x0, x1, x2, x3] (st) h := (mw_at mj_66_177).trans (z_goto (by decide))
theorem mj_66_180 : mc_P 66 180 = some (.aload_n 0, 1, 0, 0, 0) := by decide +kernel
theorem s_66_180 {x1 x2 x3 : Option Value} {w : Value} : mw d 66 Q 180 [some w, x1, x2, x3] (st) h = mv_a w (mw d 66 Q 181 [some w, x1, x2, x3] (w :: st) h) := (mw_at mj_66_180).trans (z_aload_n rfl)
theorem mj_66_181 : mc_P 66 181 = some (.invokevirtual 108, 3, 47, 3, 1) := by decide +kernel
theorem s_66_181 {x0 x1 x2 x3 : Option Value} {o : Nat} : mw (d + 1) 66 Q 181 [x0, x1, x2, x3] (.ref o :: st) h = (mg h o 3 ∧ mca st 8 ∧ mca [.ref o] 1 ∧ mcall d 47 [.ref o] h (mK (d + 1) 66 Q 184 [x0, x1, x2, x3] st)) := (mw_at mj_66_181).trans ((z_invv (As := []) (by decide) rfl rfl).trans (congrArg (And _) (congrArg (And _) (mC_nl nl_47))))
theorem mj_66_184 : mc_P 66 184 = some (.bipush 41, 2, 0, 0, 0) := by decide +kernel
theorem s_66_184 {x0 x1 x2 x3 : Option Value} : mw d 66 Q 184 [x0, x1, x2, x3] (st) h = mw d 66 Q 186 [x0, x1, x2, x3] (.int 41 :: st) h := (mw_at mj_66_184).trans (z_bipush (by decide))
theorem mj_66_186 : mc_P 66 186 = some (.if_icmp .ne 16, 3, 0, 0, 0) := by decide +kernel
theorem s_66_186 {x0 x1 x2 x3 : Option Value} {x w : Int32} : mw d 66 Q 186 [x0, x1, x2, x3] (.int w :: .int x :: st) h = mB (¬ x = w) (mw d 66 Q) 202 189 [x0, x1, x2, x3] st h := (mw_at mj_66_186).trans (z_icmp_ne (by decide) rfl)
theorem mj_66_189 : mc_P 66 189 = some (.aload_n 0, 1, 0, 0, 0) := by decide +kernel
theorem s_66_189 {x1 x2 x3 : Option Value} {w : Value} : mw d 66 Q 189 [some w, x1, x2, x3] (st) h = mv_a w (mw d 66 Q 190 [some w, x1, x2, x3] (w :: st) h) := (mw_at mj_66_189).trans (z_aload_n rfl)
theorem mj_66_190 : mc_P 66 190 = some (.dup, 1, 0, 0, 0) := by decide +kernel
theorem s_66_190 {x0 x1 x2 x3 : Option Value} {w : Value} : mw d 66 Q 190 [x0, x1, x2, x3] (w :: st) h = (w.category = 1 ∧ mw d 66 Q 191 [x0, x1, x2, x3] (w :: w :: st) h) := (mw_at mj_66_190).trans (z_dup)
theorem mj_66_191 : mc_P 66 191 = some (.getfield 95, 3, 3, 5, 0) := by decide +kernel
theorem s_66_191 {x0 x1 x2 x3 : Option Value} {o : Nat} : mw d 66 Q 191 [x0, x1, x2, x3] (.ref o :: st) h = (mg h o 3 ∧ mw d 66 Q 194 [x0, x1, x2, x3] (.int (mh_i h o 5) :: st) h) := (mw_at mj_66_191).trans (z_geti (by decide) (by decide) (Or.inl rfl))
theorem mj_66_194 : mc_P 66 194 = some (.iconst 1, 1, 0, 0, 0) := by decide +kernel
theorem s_66_194 {x0 x1 x2 x3 : Option Value} : mw d 66 Q 194 [x0, x1, x2, x3] (st) h = mw d 66 Q 195 [x0, x1, x2, x3] (.int 1 :: st) h := (mw_at mj_66_194).trans (z_iconst (by decide))
theorem mj_66_195 : mc_P 66 195 = some (.iadd, 1, 0, 0, 0) := by decide +kernel
theorem s_66_195 {x0 x1 x2 x3 : Option Value} {x w : Int32} : mw d 66 Q 195 [x0, x1, x2, x3] (.int w :: .int x :: st) h = mw d 66 Q 196 [x0, x1, x2, x3] (.int (x + w) :: st) h := (mw_at mj_66_195).trans (z_iadd)
theorem mj_66_196 : mc_P 66 196 = some (.putfield 95, 3, 3, 5, 0) := by decide +kernel
theorem s_66_196 {x0 x1 x2 x3 : Option Value} {o : Nat} {w : Int32} : mw d 66 Q 196 [x0, x1, x2, x3] (.int w :: .ref o :: st) h = (mg h o 3 ∧ mw d 66 Q 199 [x0, x1, x2, x3] (st) (mh_si h o 5 w)) := (mw_at mj_66_196).trans (z_puti (by decide) (by decide) rfl)
theorem mj_66_199 : mc_P 66 199 = some (.goto 77, 3, 0, 0, 0) := by decide +kernel
theorem s_66_199 {x0 x1 x2 x3 : Option Value} : mw d 66 Q 199 [x0, x1, x2, x3] (st) h = mw d 66 Q 276 [x0, x1, x2, x3] (st) h := (mw_at mj_66_199).trans (z_goto (by decide))
theorem mj_66_202 : mc_P 66 202 = some (.aload_n 0, 1, 0, 0, 0) := by decide +kernel
theorem s_66_202 {x1 x2 x3 : Option Value} {w : Value} : mw d 66 Q 202 [some w, x1, x2, x3] (st) h = mv_a w (mw d 66 Q 203 [some w, x1, x2, x3] (w :: st) h) := (mw_at mj_66_202).trans (z_aload_n rfl)
theorem mj_66_203 : mc_P 66 203 = some (.sipush 155, 3, 0, 0, 0) := by decide +kernel
theorem s_66_203 {x0 x1 x2 x3 : Option Value} : mw d 66 Q 203 [x0, x1, x2, x3] (st) h = mw d 66 Q 206 [x0, x1, x2, x3] (.int 155 :: st) h := (mw_at mj_66_203).trans (z_sipush (by decide))
theorem mj_66_206 : mc_P 66 206 = some (.invokevirtual 51, 3, 45, 3, 2) := by decide +kernel
theorem s_66_206 {x0 x1 x2 x3 : Option Value} {o : Nat} {a1 : Value} : mw (d + 1) 66 Q 206 [x0, x1, x2, x3] (a1 :: .ref o :: st) h = (mg h o 3 ∧ mca st 8 ∧ mca [.ref o, a1] 2 ∧ mcall d 45 [.ref o, a1] h (mK (d + 1) 66 Q 209 [x0, x1, x2, x3] st)) := (mw_at mj_66_206).trans ((z_invv (As := [a1]) (by decide) rfl rfl).trans (congrArg (And _) (congrArg (And _) (mC_nl nl_45))))
theorem mj_66_209 : mc_P 66 209 = some (.aload_n 0, 1, 0, 0, 0) := by decide +kernel
theorem s_66_209 {x1 x2 x3 : Option Value} {w : Value} : mw d 66 Q 209 [some w, x1, x2, x3] (st) h = mv_a w (mw d 66 Q 210 [some w, x1, x2, x3] (w :: st) h) := (mw_at mj_66_209).trans (z_aload_n rfl)
theorem mj_66_210 : mc_P 66 210 = some (.sipush 161, 3, 0, 0, 0) := by decide +kernel
theorem s_66_210 {x0 x1 x2 x3 : Option Value} : mw d 66 Q 210 [x0, x1, x2, x3] (st) h = mw d 66 Q 213 [x0, x1, x2, x3] (.int 161 :: st) h := (mw_at mj_66_210).trans (z_sipush (by decide))
theorem mj_66_213 : mc_P 66 213 = some (.invokevirtual 51, 3, 45, 3, 2) := by decide +kernel
theorem s_66_213 {x0 x1 x2 x3 : Option Value} {o : Nat} {a1 : Value} : mw (d + 1) 66 Q 213 [x0, x1, x2, x3] (a1 :: .ref o :: st) h = (mg h o 3 ∧ mca st 8 ∧ mca [.ref o, a1] 2 ∧ mcall d 45 [.ref o, a1] h (mK (d + 1) 66 Q 216 [x0, x1, x2, x3] st)) := (mw_at mj_66_213).trans ((z_invv (As := [a1]) (by decide) rfl rfl).trans (congrArg (And _) (congrArg (And _) (mC_nl nl_45))))
theorem mj_66_216 : mc_P 66 216 = some (.goto 60, 3, 0, 0, 0) := by decide +kernel
theorem s_66_216 {x0 x1 x2 x3 : Option Value} : mw d 66 Q 216 [x0, x1, x2, x3] (st) h = mw d 66 Q 276 [x0, x1, x2, x3] (st) h := (mw_at mj_66_216).trans (z_goto (by decide))
theorem mj_66_219 : mc_P 66 219 = some (.aload_n 0, 1, 0, 0, 0) := by decide +kernel
theorem s_66_219 {x1 x2 x3 : Option Value} {w : Value} : mw d 66 Q 219 [some w, x1, x2, x3] (st) h = mv_a w (mw d 66 Q 220 [some w, x1, x2, x3] (w :: st) h) := (mw_at mj_66_219).trans (z_aload_n rfl)
theorem mj_66_220 : mc_P 66 220 = some (.invokevirtual 108, 3, 47, 3, 1) := by decide +kernel
theorem s_66_220 {x0 x1 x2 x3 : Option Value} {o : Nat} : mw (d + 1) 66 Q 220 [x0, x1, x2, x3] (.ref o :: st) h = (mg h o 3 ∧ mca st 8 ∧ mca [.ref o] 1 ∧ mcall d 47 [.ref o] h (mK (d + 1) 66 Q 223 [x0, x1, x2, x3] st)) := (mw_at mj_66_220).trans ((z_invv (As := []) (by decide) rfl rfl).trans (congrArg (And _) (congrArg (And _) (mC_nl nl_47))))
theorem mj_66_223 : mc_P 66 223 = some (.bipush 44, 2, 0, 0, 0) := by decide +kernel
theorem s_66_223 {x0 x1 x2 x3 : Option Value} : mw d 66 Q 223 [x0, x1, x2, x3] (st) h = mw d 66 Q 225 [x0, x1, x2, x3] (.int 44 :: st) h := (mw_at mj_66_223).trans (z_bipush (by decide))
theorem mj_66_225 : mc_P 66 225 = some (.if_icmp .ne 30, 3, 0, 0, 0) := by decide +kernel
theorem s_66_225 {x0 x1 x2 x3 : Option Value} {x w : Int32} : mw d 66 Q 225 [x0, x1, x2, x3] (.int w :: .int x :: st) h = mB (¬ x = w) (mw d 66 Q) 255 228 [x0, x1, x2, x3] st h := (mw_at mj_66_225).trans (z_icmp_ne (by decide) rfl)
theorem mj_66_228 : mc_P 66 228 = some (.aload_n 0, 1, 0, 0, 0) := by decide +kernel
theorem s_66_228 {x1 x2 x3 : Option Value} {w : Value} : mw d 66 Q 228 [some w, x1, x2, x3] (st) h = mv_a w (mw d 66 Q 229 [some w, x1, x2, x3] (w :: st) h) := (mw_at mj_66_228).trans (z_aload_n rfl)
theorem mj_66_229 : mc_P 66 229 = some (.dup, 1, 0, 0, 0) := by decide +kernel
theorem s_66_229 {x0 x1 x2 x3 : Option Value} {w : Value} : mw d 66 Q 229 [x0, x1, x2, x3] (w :: st) h = (w.category = 1 ∧ mw d 66 Q 230 [x0, x1, x2, x3] (w :: w :: st) h) := (mw_at mj_66_229).trans (z_dup)
theorem mj_66_230 : mc_P 66 230 = some (.getfield 95, 3, 3, 5, 0) := by decide +kernel
theorem s_66_230 {x0 x1 x2 x3 : Option Value} {o : Nat} : mw d 66 Q 230 [x0, x1, x2, x3] (.ref o :: st) h = (mg h o 3 ∧ mw d 66 Q 233 [x0, x1, x2, x3] (.int (mh_i h o 5) :: st) h) := (mw_at mj_66_230).trans (z_geti (by decide) (by decide) (Or.inl rfl))
theorem mj_66_233 : mc_P 66 233 = some (.iconst 1, 1, 0, 0, 0) := by decide +kernel
theorem s_66_233 {x0 x1 x2 x3 : Option Value} : mw d 66 Q 233 [x0, x1, x2, x3] (st) h = mw d 66 Q 234 [x0, x1, x2, x3] (.int 1 :: st) h := (mw_at mj_66_233).trans (z_iconst (by decide))
theorem mj_66_234 : mc_P 66 234 = some (.iadd, 1, 0, 0, 0) := by decide +kernel
theorem s_66_234 {x0 x1 x2 x3 : Option Value} {x w : Int32} : mw d 66 Q 234 [x0, x1, x2, x3] (.int w :: .int x :: st) h = mw d 66 Q 235 [x0, x1, x2, x3] (.int (x + w) :: st) h := (mw_at mj_66_234).trans (z_iadd)
theorem mj_66_235 : mc_P 66 235 = some (.putfield 95, 3, 3, 5, 0) := by decide +kernel
theorem s_66_235 {x0 x1 x2 x3 : Option Value} {o : Nat} {w : Int32} : mw d 66 Q 235 [x0, x1, x2, x3] (.int w :: .ref o :: st) h = (mg h o 3 ∧ mw d 66 Q 238 [x0, x1, x2, x3] (st) (mh_si h o 5 w)) := (mw_at mj_66_235).trans (z_puti (by decide) (by decide) rfl)
theorem mj_66_238 : mc_P 66 238 = some (.aload_n 0, 1, 0, 0, 0) := by decide +kernel
theorem s_66_238 {x1 x2 x3 : Option Value} {w : Value} : mw d 66 Q 238 [some w, x1, x2, x3] (st) h = mv_a w (mw d 66 Q 239 [some w, x1, x2, x3] (w :: st) h) := (mw_at mj_66_238).trans (z_aload_n rfl)
theorem mj_66_239 : mc_P 66 239 = some (.sipush 155, 3, 0, 0, 0) := by decide +kernel
theorem s_66_239 {x0 x1 x2 x3 : Option Value} : mw d 66 Q 239 [x0, x1, x2, x3] (st) h = mw d 66 Q 242 [x0, x1, x2, x3] (.int 155 :: st) h := (mw_at mj_66_239).trans (z_sipush (by decide))
theorem mj_66_242 : mc_P 66 242 = some (.invokevirtual 51, 3, 45, 3, 2) := by decide +kernel
theorem s_66_242 {x0 x1 x2 x3 : Option Value} {o : Nat} {a1 : Value} : mw (d + 1) 66 Q 242 [x0, x1, x2, x3] (a1 :: .ref o :: st) h = (mg h o 3 ∧ mca st 8 ∧ mca [.ref o, a1] 2 ∧ mcall d 45 [.ref o, a1] h (mK (d + 1) 66 Q 245 [x0, x1, x2, x3] st)) := (mw_at mj_66_242).trans ((z_invv (As := [a1]) (by decide) rfl rfl).trans (congrArg (And _) (congrArg (And _) (mC_nl nl_45))))
theorem mj_66_245 : mc_P 66 245 = some (.aload_n 0, 1, 0, 0, 0) := by decide +kernel
theorem s_66_245 {x1 x2 x3 : Option Value} {w : Value} : mw d 66 Q 245 [some w, x1, x2, x3] (st) h = mv_a w (mw d 66 Q 246 [some w, x1, x2, x3] (w :: st) h) := (mw_at mj_66_245).trans (z_aload_n rfl)
theorem mj_66_246 : mc_P 66 246 = some (.sipush 161, 3, 0, 0, 0) := by decide +kernel
theorem s_66_246 {x0 x1 x2 x3 : Option Value} : mw d 66 Q 246 [x0, x1, x2, x3] (st) h = mw d 66 Q 249 [x0, x1, x2, x3] (.int 161 :: st) h := (mw_at mj_66_246).trans (z_sipush (by decide))
theorem mj_66_249 : mc_P 66 249 = some (.invokevirtual 51, 3, 45, 3, 2) := by decide +kernel
theorem s_66_249 {x0 x1 x2 x3 : Option Value} {o : Nat} {a1 : Value} : mw (d + 1) 66 Q 249 [x0, x1, x2, x3] (a1 :: .ref o :: st) h = (mg h o 3 ∧ mca st 8 ∧ mca [.ref o, a1] 2 ∧ mcall d 45 [.ref o, a1] h (mK (d + 1) 66 Q 252 [x0, x1, x2, x3] st)) := (mw_at mj_66_249).trans ((z_invv (As := [a1]) (by decide) rfl rfl).trans (congrArg (And _) (congrArg (And _) (mC_nl nl_45))))
theorem mj_66_252 : mc_P 66 252 = some (.goto 24, 3, 0, 0, 0) := by decide +kernel
theorem s_66_252 {x0 x1 x2 x3 : Option Value} : mw d 66 Q 252 [x0, x1, x2, x3] (st) h = mw d 66 Q 276 [x0, x1, x2, x3] (st) h := (mw_at mj_66_252).trans (z_goto (by decide))
theorem mj_66_255 : mc_P 66 255 = some (.aload_n 0, 1, 0, 0, 0) := by decide +kernel
theorem s_66_255 {x1 x2 x3 : Option Value} {w : Value} : mw d 66 Q 255 [some w, x1, x2, x3] (st) h = mv_a w (mw d 66 Q 256 [some w, x1, x2, x3] (w :: st) h) := (mw_at mj_66_255).trans (z_aload_n rfl)
theorem mj_66_256 : mc_P 66 256 = some (.bipush 41, 2, 0, 0, 0) := by decide +kernel
theorem s_66_256 {x0 x1 x2 x3 : Option Value} : mw d 66 Q 256 [x0, x1, x2, x3] (st) h = mw d 66 Q 258 [x0, x1, x2, x3] (.int 41 :: st) h := (mw_at mj_66_256).trans (z_bipush (by decide))
theorem mj_66_258 : mc_P 66 258 = some (.invokevirtual 59, 3, 51, 3, 2) := by decide +kernel
theorem s_66_258 {x0 x1 x2 x3 : Option Value} {o : Nat} {a1 : Value} : mw (d + 1) 66 Q 258 [x0, x1, x2, x3] (a1 :: .ref o :: st) h = (mg h o 3 ∧ mca st 8 ∧ mca [.ref o, a1] 2 ∧ mcall d 51 [.ref o, a1] h (mK (d + 1) 66 Q 261 [x0, x1, x2, x3] st)) := (mw_at mj_66_258).trans ((z_invv (As := [a1]) (by decide) rfl rfl).trans (congrArg (And _) (congrArg (And _) (mC_nl nl_51))))
theorem mj_66_261 : mc_P 66 261 = some (.goto 15, 3, 0, 0, 0) := by decide +kernel
theorem s_66_261 {x0 x1 x2 x3 : Option Value} : mw d 66 Q 261 [x0, x1, x2, x3] (st) h = mw d 66 Q 276 [x0, x1, x2, x3] (st) h := (mw_at mj_66_261).trans (z_goto (by decide))
theorem mj_66_264 : mc_P 66 264 = some (.aload_n 0, 1, 0, 0, 0) := by decide +kernel
theorem s_66_264 {x1 x2 x3 : Option Value} {w : Value} : mw d 66 Q 264 [some w, x1, x2, x3] (st) h = mv_a w (mw d 66 Q 265 [some w, x1, x2, x3] (w :: st) h) := (mw_at mj_66_264).trans (z_aload_n rfl)
theorem mj_66_265 : mc_P 66 265 = some (.invokevirtual 256, 3, 68, 3, 1) := by decide +kernel
theorem s_66_265 {x0 x1 x2 x3 : Option Value} {o : Nat} : mw (d + 1) 66 Q 265 [x0, x1, x2, x3] (.ref o :: st) h = (mg h o 3 ∧ mca st 8 ∧ mca [.ref o] 1 ∧ mcall d 68 [.ref o] h (mK (d + 1) 66 Q 268 [x0, x1, x2, x3] st)) := (mw_at mj_66_265).trans ((z_invv (As := []) (by decide) rfl rfl).trans (congrArg (And _) (congrArg (And _) (mC_nl nl_68))))
theorem mj_66_268 : mc_P 66 268 = some (.goto 8, 3, 0, 0, 0) := by decide +kernel
theorem s_66_268 {x0 x1 x2 x3 : Option Value} : mw d 66 Q 268 [x0, x1, x2, x3] (st) h = mw d 66 Q 276 [x0, x1, x2, x3] (st) h := (mw_at mj_66_268).trans (z_goto (by decide))
theorem mj_66_271 : mc_P 66 271 = some (.aload_n 0, 1, 0, 0, 0) := by decide +kernel
theorem s_66_271 {x1 x2 x3 : Option Value} {w : Value} : mw d 66 Q 271 [some w, x1, x2, x3] (st) h = mv_a w (mw d 66 Q 272 [some w, x1, x2, x3] (w :: st) h) := (mw_at mj_66_271).trans (z_aload_n rfl)
theorem mj_66_272 : mc_P 66 272 = some (.iload_n 1, 1, 0, 0, 0) := by decide +kernel
theorem s_66_272 {x0 x2 x3 : Option Value} {w : Value} : mw d 66 Q 272 [x0, some w, x2, x3] (st) h = mv_i w (mw d 66 Q 273 [x0, some w, x2, x3] (w :: st) h) := (mw_at mj_66_272).trans (z_iload_n rfl)
theorem mj_66_273 : mc_P 66 273 = some (.invokevirtual 259, 3, 69, 3, 2) := by decide +kernel
theorem s_66_273 {x0 x1 x2 x3 : Option Value} {o : Nat} {a1 : Value} : mw (d + 1) 66 Q 273 [x0, x1, x2, x3] (a1 :: .ref o :: st) h = (mg h o 3 ∧ mca st 8 ∧ mca [.ref o, a1] 3 ∧ mcall d 69 [.ref o, a1] h (mK (d + 1) 66 Q 276 [x0, x1, x2, x3] st)) := (mw_at mj_66_273).trans ((z_invv (As := [a1]) (by decide) rfl rfl).trans (congrArg (And _) (congrArg (And _) (mC_nl nl_69))))
theorem mj_66_276 : mc_P 66 276 = some (.return_, 1, 0, 0, 0) := by decide +kernel
theorem s_66_276 {x0 x1 x2 x3 : Option Value} : mw d 66 Q 276 [x0, x1, x2, x3] ([]) h = Q none h := (mw_at mj_66_276).trans (z_vret)
theorem e_66 {a0 : Nat} {a1 : Int32} : mcall d 66 [.ref a0, .int a1] h Q = mw d 66 Q 0 [some (.ref a0), some (.int a1), none, none] [] h := by
  show mw d 66 Q 0 (me_en (mc_nl 66) _) [] h = _
  rw [nl_66]; rfl

/-! InvariantDesk$Parser.readVarRest()V -/
theorem mj_67_0 : mc_P 67 0 = some (.aload_n 0, 1, 0, 0, 0) := by decide +kernel
theorem s_67_0 {x1 : Option Value} {w : Value} : mw d 67 Q 0 [some w, x1] (st) h = mv_a w (mw d 67 Q 1 [some w, x1] (w :: st) h) := (mw_at mj_67_0).trans (z_aload_n rfl)
theorem mj_67_1 : mc_P 67 1 = some (.invokevirtual 108, 3, 47, 3, 1) := by decide +kernel
theorem s_67_1 {x0 x1 : Option Value} {o : Nat} : mw (d + 1) 67 Q 1 [x0, x1] (.ref o :: st) h = (mg h o 3 ∧ mca st 8 ∧ mca [.ref o] 1 ∧ mcall d 47 [.ref o] h (mK (d + 1) 67 Q 4 [x0, x1] st)) := (mw_at mj_67_1).trans ((z_invv (As := []) (by decide) rfl rfl).trans (congrArg (And _) (congrArg (And _) (mC_nl nl_47))))
theorem mj_67_4 : mc_P 67 4 = some (.istore_n 1, 1, 0, 0, 0) := by decide +kernel
theorem s_67_4 {x0 x1 : Option Value} {w : Int32} : mw d 67 Q 4 [x0, x1] (.int w :: st) h = mw d 67 Q 5 [mk2 x0, some (.int w)] (st) h := (mw_at mj_67_4).trans (z_istore_n (Nat.le_of_ble_eq_true rfl) (me_s1_mk (j := 0) (w := x0) rfl))
theorem mj_67_5 : mc_P 67 5 = some (.iload_n 1, 1, 0, 0, 0) := by decide +kernel
theorem s_67_5 {x0 : Option Value} {w : Value} : mw d 67 Q 5 [x0, some w] (st) h = mv_i w (mw d 67 Q 6 [x0, some w] (w :: st) h) := (mw_at mj_67_5).trans (z_iload_n rfl)
theorem mj_67_6 : mc_P 67 6 = some (.bipush 59, 2, 0, 0, 0) := by decide +kernel
theorem s_67_6 {x0 x1 : Option Value} : mw d 67 Q 6 [x0, x1] (st) h = mw d 67 Q 8 [x0, x1] (.int 59 :: st) h := (mw_at mj_67_6).trans (z_bipush (by decide))
theorem mj_67_8 : mc_P 67 8 = some (.if_icmp .eq 20, 3, 0, 0, 0) := by decide +kernel
theorem s_67_8 {x0 x1 : Option Value} {x w : Int32} : mw d 67 Q 8 [x0, x1] (.int w :: .int x :: st) h = mB (x = w) (mw d 67 Q) 28 11 [x0, x1] st h := (mw_at mj_67_8).trans (z_icmp_eq (by decide) rfl)
theorem mj_67_11 : mc_P 67 11 = some (.iload_n 1, 1, 0, 0, 0) := by decide +kernel
theorem s_67_11 {x0 : Option Value} {w : Value} : mw d 67 Q 11 [x0, some w] (st) h = mv_i w (mw d 67 Q 12 [x0, some w] (w :: st) h) := (mw_at mj_67_11).trans (z_iload_n rfl)
theorem mj_67_12 : mc_P 67 12 = some (.bipush 61, 2, 0, 0, 0) := by decide +kernel
theorem s_67_12 {x0 x1 : Option Value} : mw d 67 Q 12 [x0, x1] (st) h = mw d 67 Q 14 [x0, x1] (.int 61 :: st) h := (mw_at mj_67_12).trans (z_bipush (by decide))
theorem mj_67_14 : mc_P 67 14 = some (.if_icmp .eq 14, 3, 0, 0, 0) := by decide +kernel
theorem s_67_14 {x0 x1 : Option Value} {x w : Int32} : mw d 67 Q 14 [x0, x1] (.int w :: .int x :: st) h = mB (x = w) (mw d 67 Q) 28 17 [x0, x1] st h := (mw_at mj_67_14).trans (z_icmp_eq (by decide) rfl)
theorem mj_67_17 : mc_P 67 17 = some (.iload_n 1, 1, 0, 0, 0) := by decide +kernel
theorem s_67_17 {x0 : Option Value} {w : Value} : mw d 67 Q 17 [x0, some w] (st) h = mv_i w (mw d 67 Q 18 [x0, some w] (w :: st) h) := (mw_at mj_67_17).trans (z_iload_n rfl)
theorem mj_67_18 : mc_P 67 18 = some (.bipush 91, 2, 0, 0, 0) := by decide +kernel
theorem s_67_18 {x0 x1 : Option Value} : mw d 67 Q 18 [x0, x1] (st) h = mw d 67 Q 20 [x0, x1] (.int 91 :: st) h := (mw_at mj_67_18).trans (z_bipush (by decide))
theorem mj_67_20 : mc_P 67 20 = some (.if_icmp .eq 8, 3, 0, 0, 0) := by decide +kernel
theorem s_67_20 {x0 x1 : Option Value} {x w : Int32} : mw d 67 Q 20 [x0, x1] (.int w :: .int x :: st) h = mB (x = w) (mw d 67 Q) 28 23 [x0, x1] st h := (mw_at mj_67_20).trans (z_icmp_eq (by decide) rfl)
theorem mj_67_23 : mc_P 67 23 = some (.aload_n 0, 1, 0, 0, 0) := by decide +kernel
theorem s_67_23 {x1 : Option Value} {w : Value} : mw d 67 Q 23 [some w, x1] (st) h = mv_a w (mw d 67 Q 24 [some w, x1] (w :: st) h) := (mw_at mj_67_23).trans (z_aload_n rfl)
theorem mj_67_24 : mc_P 67 24 = some (.invokevirtual 111, 3, 50, 3, 1) := by decide +kernel
theorem s_67_24 {x0 x1 : Option Value} {o : Nat} : mw (d + 1) 67 Q 24 [x0, x1] (.ref o :: st) h = (mg h o 3 ∧ mca st 8 ∧ mca [.ref o] 1 ∧ mcall d 50 [.ref o] h (mK (d + 1) 67 Q 27 [x0, x1] st)) := (mw_at mj_67_24).trans ((z_invv (As := []) (by decide) rfl rfl).trans (congrArg (And _) (congrArg (And _) (mC_nl nl_50))))
theorem mj_67_27 : mc_P 67 27 = some (.return_, 1, 0, 0, 0) := by decide +kernel
theorem s_67_27 {x0 x1 : Option Value} : mw d 67 Q 27 [x0, x1] ([]) h = Q none h := (mw_at mj_67_27).trans (z_vret)
theorem mj_67_28 : mc_P 67 28 = some (.aload_n 0, 1, 0, 0, 0) := by decide +kernel
theorem s_67_28 {x1 : Option Value} {w : Value} : mw d 67 Q 28 [some w, x1] (st) h = mv_a w (mw d 67 Q 29 [some w, x1] (w :: st) h) := (mw_at mj_67_28).trans (z_aload_n rfl)
theorem mj_67_29 : mc_P 67 29 = some (.dup, 1, 0, 0, 0) := by decide +kernel
theorem s_67_29 {x0 x1 : Option Value} {w : Value} : mw d 67 Q 29 [x0, x1] (w :: st) h = (w.category = 1 ∧ mw d 67 Q 30 [x0, x1] (w :: w :: st) h) := (mw_at mj_67_29).trans (z_dup)
theorem mj_67_30 : mc_P 67 30 = some (.getfield 95, 3, 3, 5, 0) := by decide +kernel
theorem s_67_30 {x0 x1 : Option Value} {o : Nat} : mw d 67 Q 30 [x0, x1] (.ref o :: st) h = (mg h o 3 ∧ mw d 67 Q 33 [x0, x1] (.int (mh_i h o 5) :: st) h) := (mw_at mj_67_30).trans (z_geti (by decide) (by decide) (Or.inl rfl))
theorem mj_67_33 : mc_P 67 33 = some (.iconst 1, 1, 0, 0, 0) := by decide +kernel
theorem s_67_33 {x0 x1 : Option Value} : mw d 67 Q 33 [x0, x1] (st) h = mw d 67 Q 34 [x0, x1] (.int 1 :: st) h := (mw_at mj_67_33).trans (z_iconst (by decide))
theorem mj_67_34 : mc_P 67 34 = some (.iadd, 1, 0, 0, 0) := by decide +kernel
theorem s_67_34 {x0 x1 : Option Value} {x w : Int32} : mw d 67 Q 34 [x0, x1] (.int w :: .int x :: st) h = mw d 67 Q 35 [x0, x1] (.int (x + w) :: st) h := (mw_at mj_67_34).trans (z_iadd)
theorem mj_67_35 : mc_P 67 35 = some (.putfield 95, 3, 3, 5, 0) := by decide +kernel
theorem s_67_35 {x0 x1 : Option Value} {o : Nat} {w : Int32} : mw d 67 Q 35 [x0, x1] (.int w :: .ref o :: st) h = (mg h o 3 ∧ mw d 67 Q 38 [x0, x1] (st) (mh_si h o 5 w)) := (mw_at mj_67_35).trans (z_puti (by decide) (by decide) rfl)
theorem mj_67_38 : mc_P 67 38 = some (.aload_n 0, 1, 0, 0, 0) := by decide +kernel
theorem s_67_38 {x1 : Option Value} {w : Value} : mw d 67 Q 38 [some w, x1] (st) h = mv_a w (mw d 67 Q 39 [some w, x1] (w :: st) h) := (mw_at mj_67_38).trans (z_aload_n rfl)
theorem mj_67_39 : mc_P 67 39 = some (.sipush 153, 3, 0, 0, 0) := by decide +kernel
theorem s_67_39 {x0 x1 : Option Value} : mw d 67 Q 39 [x0, x1] (st) h = mw d 67 Q 42 [x0, x1] (.int 153 :: st) h := (mw_at mj_67_39).trans (z_sipush (by decide))
theorem mj_67_42 : mc_P 67 42 = some (.invokevirtual 51, 3, 45, 3, 2) := by decide +kernel
theorem s_67_42 {x0 x1 : Option Value} {o : Nat} {a1 : Value} : mw (d + 1) 67 Q 42 [x0, x1] (a1 :: .ref o :: st) h = (mg h o 3 ∧ mca st 8 ∧ mca [.ref o, a1] 2 ∧ mcall d 45 [.ref o, a1] h (mK (d + 1) 67 Q 45 [x0, x1] st)) := (mw_at mj_67_42).trans ((z_invv (As := [a1]) (by decide) rfl rfl).trans (congrArg (And _) (congrArg (And _) (mC_nl nl_45))))
theorem mj_67_45 : mc_P 67 45 = some (.iload_n 1, 1, 0, 0, 0) := by decide +kernel
theorem s_67_45 {x0 : Option Value} {w : Value} : mw d 67 Q 45 [x0, some w] (st) h = mv_i w (mw d 67 Q 46 [x0, some w] (w :: st) h) := (mw_at mj_67_45).trans (z_iload_n rfl)
theorem mj_67_46 : mc_P 67 46 = some (.bipush 61, 2, 0, 0, 0) := by decide +kernel
theorem s_67_46 {x0 x1 : Option Value} : mw d 67 Q 46 [x0, x1] (st) h = mw d 67 Q 48 [x0, x1] (.int 61 :: st) h := (mw_at mj_67_46).trans (z_bipush (by decide))
theorem mj_67_48 : mc_P 67 48 = some (.if_icmp .ne 19, 3, 0, 0, 0) := by decide +kernel
theorem s_67_48 {x0 x1 : Option Value} {x w : Int32} : mw d 67 Q 48 [x0, x1] (.int w :: .int x :: st) h = mB (¬ x = w) (mw d 67 Q) 67 51 [x0, x1] st h := (mw_at mj_67_48).trans (z_icmp_ne (by decide) rfl)
theorem mj_67_51 : mc_P 67 51 = some (.aload_n 0, 1, 0, 0, 0) := by decide +kernel
theorem s_67_51 {x1 : Option Value} {w : Value} : mw d 67 Q 51 [some w, x1] (st) h = mv_a w (mw d 67 Q 52 [some w, x1] (w :: st) h) := (mw_at mj_67_51).trans (z_aload_n rfl)
theorem mj_67_52 : mc_P 67 52 = some (.bipush 59, 2, 0, 0, 0) := by decide +kernel
theorem s_67_52 {x0 x1 : Option Value} : mw d 67 Q 52 [x0, x1] (st) h = mw d 67 Q 54 [x0, x1] (.int 59 :: st) h := (mw_at mj_67_52).trans (z_bipush (by decide))
theorem mj_67_54 : mc_P 67 54 = some (.invokevirtual 51, 3, 45, 3, 2) := by decide +kernel
theorem s_67_54 {x0 x1 : Option Value} {o : Nat} {a1 : Value} : mw (d + 1) 67 Q 54 [x0, x1] (a1 :: .ref o :: st) h = (mg h o 3 ∧ mca st 8 ∧ mca [.ref o, a1] 2 ∧ mcall d 45 [.ref o, a1] h (mK (d + 1) 67 Q 57 [x0, x1] st)) := (mw_at mj_67_54).trans ((z_invv (As := [a1]) (by decide) rfl rfl).trans (congrArg (And _) (congrArg (And _) (mC_nl nl_45))))
theorem mj_67_57 : mc_P 67 57 = some (.aload_n 0, 1, 0, 0, 0) := by decide +kernel
theorem s_67_57 {x1 : Option Value} {w : Value} : mw d 67 Q 57 [some w, x1] (st) h = mv_a w (mw d 67 Q 58 [some w, x1] (w :: st) h) := (mw_at mj_67_57).trans (z_aload_n rfl)
theorem mj_67_58 : mc_P 67 58 = some (.sipush 161, 3, 0, 0, 0) := by decide +kernel
theorem s_67_58 {x0 x1 : Option Value} : mw d 67 Q 58 [x0, x1] (st) h = mw d 67 Q 61 [x0, x1] (.int 161 :: st) h := (mw_at mj_67_58).trans (z_sipush (by decide))
theorem mj_67_61 : mc_P 67 61 = some (.invokevirtual 51, 3, 45, 3, 2) := by decide +kernel
theorem s_67_61 {x0 x1 : Option Value} {o : Nat} {a1 : Value} : mw (d + 1) 67 Q 61 [x0, x1] (a1 :: .ref o :: st) h = (mg h o 3 ∧ mca st 8 ∧ mca [.ref o, a1] 2 ∧ mcall d 45 [.ref o, a1] h (mK (d + 1) 67 Q 64 [x0, x1] st)) := (mw_at mj_67_61).trans ((z_invv (As := [a1]) (by decide) rfl rfl).trans (congrArg (And _) (congrArg (And _) (mC_nl nl_45))))
theorem mj_67_64 : mc_P 67 64 = some (.goto 28, 3, 0, 0, 0) := by decide +kernel
theorem s_67_64 {x0 x1 : Option Value} : mw d 67 Q 64 [x0, x1] (st) h = mw d 67 Q 92 [x0, x1] (st) h := (mw_at mj_67_64).trans (z_goto (by decide))
theorem mj_67_67 : mc_P 67 67 = some (.iload_n 1, 1, 0, 0, 0) := by decide +kernel
theorem s_67_67 {x0 : Option Value} {w : Value} : mw d 67 Q 67 [x0, some w] (st) h = mv_i w (mw d 67 Q 68 [x0, some w] (w :: st) h) := (mw_at mj_67_67).trans (z_iload_n rfl)
theorem mj_67_68 : mc_P 67 68 = some (.bipush 91, 2, 0, 0, 0) := by decide +kernel
theorem s_67_68 {x0 x1 : Option Value} : mw d 67 Q 68 [x0, x1] (st) h = mw d 67 Q 70 [x0, x1] (.int 91 :: st) h := (mw_at mj_67_68).trans (z_bipush (by decide))
theorem mj_67_70 : mc_P 67 70 = some (.if_icmp .ne 22, 3, 0, 0, 0) := by decide +kernel
theorem s_67_70 {x0 x1 : Option Value} {x w : Int32} : mw d 67 Q 70 [x0, x1] (.int w :: .int x :: st) h = mB (¬ x = w) (mw d 67 Q) 92 73 [x0, x1] st h := (mw_at mj_67_70).trans (z_icmp_ne (by decide) rfl)
theorem mj_67_73 : mc_P 67 73 = some (.aload_n 0, 1, 0, 0, 0) := by decide +kernel
theorem s_67_73 {x1 : Option Value} {w : Value} : mw d 67 Q 73 [some w, x1] (st) h = mv_a w (mw d 67 Q 74 [some w, x1] (w :: st) h) := (mw_at mj_67_73).trans (z_aload_n rfl)
theorem mj_67_74 : mc_P 67 74 = some (.bipush 59, 2, 0, 0, 0) := by decide +kernel
theorem s_67_74 {x0 x1 : Option Value} : mw d 67 Q 74 [x0, x1] (st) h = mw d 67 Q 76 [x0, x1] (.int 59 :: st) h := (mw_at mj_67_74).trans (z_bipush (by decide))
theorem mj_67_76 : mc_P 67 76 = some (.invokevirtual 51, 3, 45, 3, 2) := by decide +kernel
theorem s_67_76 {x0 x1 : Option Value} {o : Nat} {a1 : Value} : mw (d + 1) 67 Q 76 [x0, x1] (a1 :: .ref o :: st) h = (mg h o 3 ∧ mca st 8 ∧ mca [.ref o, a1] 2 ∧ mcall d 45 [.ref o, a1] h (mK (d + 1) 67 Q 79 [x0, x1] st)) := (mw_at mj_67_76).trans ((z_invv (As := [a1]) (by decide) rfl rfl).trans (congrArg (And _) (congrArg (And _) (mC_nl nl_45))))
theorem mj_67_79 : mc_P 67 79 = some (.aload_n 0, 1, 0, 0, 0) := by decide +kernel
theorem s_67_79 {x1 : Option Value} {w : Value} : mw d 67 Q 79 [some w, x1] (st) h = mv_a w (mw d 67 Q 80 [some w, x1] (w :: st) h) := (mw_at mj_67_79).trans (z_aload_n rfl)
theorem mj_67_80 : mc_P 67 80 = some (.bipush 93, 2, 0, 0, 0) := by decide +kernel
theorem s_67_80 {x0 x1 : Option Value} : mw d 67 Q 80 [x0, x1] (st) h = mw d 67 Q 82 [x0, x1] (.int 93 :: st) h := (mw_at mj_67_80).trans (z_bipush (by decide))
theorem mj_67_82 : mc_P 67 82 = some (.invokevirtual 51, 3, 45, 3, 2) := by decide +kernel
theorem s_67_82 {x0 x1 : Option Value} {o : Nat} {a1 : Value} : mw (d + 1) 67 Q 82 [x0, x1] (a1 :: .ref o :: st) h = (mg h o 3 ∧ mca st 8 ∧ mca [.ref o, a1] 2 ∧ mcall d 45 [.ref o, a1] h (mK (d + 1) 67 Q 85 [x0, x1] st)) := (mw_at mj_67_82).trans ((z_invv (As := [a1]) (by decide) rfl rfl).trans (congrArg (And _) (congrArg (And _) (mC_nl nl_45))))
theorem mj_67_85 : mc_P 67 85 = some (.aload_n 0, 1, 0, 0, 0) := by decide +kernel
theorem s_67_85 {x1 : Option Value} {w : Value} : mw d 67 Q 85 [some w, x1] (st) h = mv_a w (mw d 67 Q 86 [some w, x1] (w :: st) h) := (mw_at mj_67_85).trans (z_aload_n rfl)
theorem mj_67_86 : mc_P 67 86 = some (.sipush 152, 3, 0, 0, 0) := by decide +kernel
theorem s_67_86 {x0 x1 : Option Value} : mw d 67 Q 86 [x0, x1] (st) h = mw d 67 Q 89 [x0, x1] (.int 152 :: st) h := (mw_at mj_67_86).trans (z_sipush (by decide))
theorem mj_67_89 : mc_P 67 89 = some (.invokevirtual 51, 3, 45, 3, 2) := by decide +kernel
theorem s_67_89 {x0 x1 : Option Value} {o : Nat} {a1 : Value} : mw (d + 1) 67 Q 89 [x0, x1] (a1 :: .ref o :: st) h = (mg h o 3 ∧ mca st 8 ∧ mca [.ref o, a1] 2 ∧ mcall d 45 [.ref o, a1] h (mK (d + 1) 67 Q 92 [x0, x1] st)) := (mw_at mj_67_89).trans ((z_invv (As := [a1]) (by decide) rfl rfl).trans (congrArg (And _) (congrArg (And _) (mC_nl nl_45))))
theorem mj_67_92 : mc_P 67 92 = some (.return_, 1, 0, 0, 0) := by decide +kernel
theorem s_67_92 {x0 x1 : Option Value} : mw d 67 Q 92 [x0, x1] ([]) h = Q none h := (mw_at mj_67_92).trans (z_vret)
theorem e_67 {a0 : Nat} : mcall d 67 [.ref a0] h Q = mw d 67 Q 0 [some (.ref a0), none] [] h := by
  show mw d 67 Q 0 (me_en (mc_nl 67) _) [] h = _
  rw [nl_67]; rfl

/-! InvariantDesk$Parser.finishCall()V -/
theorem mj_68_0 : mc_P 68 0 = some (.aload_n 0, 1, 0, 0, 0) := by decide +kernel
theorem s_68_0 {w : Value} : mw d 68 Q 0 [some w] (st) h = mv_a w (mw d 68 Q 1 [some w] (w :: st) h) := (mw_at mj_68_0).trans (z_aload_n rfl)
theorem mj_68_1 : mc_P 68 1 = some (.getfield 224, 3, 3, 13, 0) := by decide +kernel
theorem s_68_1 {x0 : Option Value} {o : Nat} : mw d 68 Q 1 [x0] (.ref o :: st) h = (mg h o 3 ∧ mw d 68 Q 4 [x0] (.int (mh_i h o 13) :: st) h) := (mw_at mj_68_1).trans (z_geti (by decide) (by decide) (Or.inr rfl))
theorem mj_68_4 : mc_P 68 4 = some (.ifCond .eq 4, 3, 0, 0, 0) := by decide +kernel
theorem s_68_4 {x0 : Option Value} {x : Int32} : mw d 68 Q 4 [x0] (.int x :: st) h = mB (x = 0) (mw d 68 Q) 8 7 [x0] st h := (mw_at mj_68_4).trans (z_if_eq (by decide) rfl)
theorem mj_68_7 : mc_P 68 7 = some (.return_, 1, 0, 0, 0) := by decide +kernel
theorem s_68_7 {x0 : Option Value} : mw d 68 Q 7 [x0] ([]) h = Q none h := (mw_at mj_68_7).trans (z_vret)
theorem mj_68_8 : mc_P 68 8 = some (.aload_n 0, 1, 0, 0, 0) := by decide +kernel
theorem s_68_8 {w : Value} : mw d 68 Q 8 [some w] (st) h = mv_a w (mw d 68 Q 9 [some w] (w :: st) h) := (mw_at mj_68_8).trans (z_aload_n rfl)
theorem mj_68_9 : mc_P 68 9 = some (.getfield 117, 3, 3, 8, 0) := by decide +kernel
theorem s_68_9 {x0 : Option Value} {o : Nat} : mw d 68 Q 9 [x0] (.ref o :: st) h = (mg h o 3 ∧ mw d 68 Q 12 [x0] (va_rf (mh_r h o 8) :: st) h) := (mw_at mj_68_9).trans (z_getr (by decide) (by decide) rfl)
theorem mj_68_12 : mc_P 68 12 = some (.getfield 262, 3, 9, 11, 0) := by decide +kernel
theorem s_68_12 {x0 : Option Value} {o : Nat} : mw d 68 Q 12 [x0] (.ref o :: st) h = (mg h o 9 ∧ mw d 68 Q 15 [x0] (.int (mh_i h o 11) :: st) h) := (mw_at mj_68_12).trans (z_geti (by decide) (by decide) (Or.inl rfl))
theorem mj_68_15 : mc_P 68 15 = some (.aload_n 0, 1, 0, 0, 0) := by decide +kernel
theorem s_68_15 {w : Value} : mw d 68 Q 15 [some w] (st) h = mv_a w (mw d 68 Q 16 [some w] (w :: st) h) := (mw_at mj_68_15).trans (z_aload_n rfl)
theorem mj_68_16 : mc_P 68 16 = some (.getfield 23, 3, 3, 1, 0) := by decide +kernel
theorem s_68_16 {x0 : Option Value} {o : Nat} : mw d 68 Q 16 [x0] (.ref o :: st) h = (mg h o 3 ∧ mw d 68 Q 19 [x0] (va_rf (mh_r h o 1) :: st) h) := (mw_at mj_68_16).trans (z_getr (by decide) (by decide) rfl)
theorem mj_68_19 : mc_P 68 19 = some (.aload_n 0, 1, 0, 0, 0) := by decide +kernel
theorem s_68_19 {w : Value} : mw d 68 Q 19 [some w] (st) h = mv_a w (mw d 68 Q 20 [some w] (w :: st) h) := (mw_at mj_68_19).trans (z_aload_n rfl)
theorem mj_68_20 : mc_P 68 20 = some (.getfield 117, 3, 3, 8, 0) := by decide +kernel
theorem s_68_20 {x0 : Option Value} {o : Nat} : mw d 68 Q 20 [x0] (.ref o :: st) h = (mg h o 3 ∧ mw d 68 Q 23 [x0] (va_rf (mh_r h o 8) :: st) h) := (mw_at mj_68_20).trans (z_getr (by decide) (by decide) rfl)
theorem mj_68_23 : mc_P 68 23 = some (.getfield 218, 3, 9, 14, 0) := by decide +kernel
theorem s_68_23 {x0 : Option Value} {o : Nat} : mw d 68 Q 23 [x0] (.ref o :: st) h = (mg h o 9 ∧ mw d 68 Q 26 [x0] (.int (mh_i h o 14) :: st) h) := (mw_at mj_68_23).trans (z_geti (by decide) (by decide) (Or.inl rfl))
theorem mj_68_26 : mc_P 68 26 = some (.iconst 1, 1, 0, 0, 0) := by decide +kernel
theorem s_68_26 {x0 : Option Value} : mw d 68 Q 26 [x0] (st) h = mw d 68 Q 27 [x0] (.int 1 :: st) h := (mw_at mj_68_26).trans (z_iconst (by decide))
theorem mj_68_27 : mc_P 68 27 = some (.invokevirtual 231, 3, 137, 7, 3) := by decide +kernel
theorem s_68_27 {x0 : Option Value} {o : Nat} {a1 a2 : Value} : mw (d + 1) 68 Q 27 [x0] (a2 :: a1 :: .ref o :: st) h = (mg h o 7 ∧ mca st 8 ∧ mca [.ref o, a1, a2] 3 ∧ mcall d 137 [.ref o, a1, a2] h (mK (d + 1) 68 Q 30 [x0] st)) := (mw_at mj_68_27).trans ((z_invv (As := [a1, a2]) (by decide) rfl rfl).trans (congrArg (And _) (congrArg (And _) (mC_nl nl_137))))
theorem mj_68_30 : mc_P 68 30 = some (.if_icmp .eq 15, 3, 0, 0, 0) := by decide +kernel
theorem s_68_30 {x0 : Option Value} {x w : Int32} : mw d 68 Q 30 [x0] (.int w :: .int x :: st) h = mB (x = w) (mw d 68 Q) 45 33 [x0] st h := (mw_at mj_68_30).trans (z_icmp_eq (by decide) rfl)
theorem mj_68_33 : mc_P 68 33 = some (.aload_n 0, 1, 0, 0, 0) := by decide +kernel
theorem s_68_33 {w : Value} : mw d 68 Q 33 [some w] (st) h = mv_a w (mw d 68 Q 34 [some w] (w :: st) h) := (mw_at mj_68_33).trans (z_aload_n rfl)
theorem mj_68_34 : mc_P 68 34 = some (.iconst 5, 1, 0, 0, 0) := by decide +kernel
theorem s_68_34 {x0 : Option Value} : mw d 68 Q 34 [x0] (st) h = mw d 68 Q 35 [x0] (.int 5 :: st) h := (mw_at mj_68_34).trans (z_iconst (by decide))
theorem mj_68_35 : mc_P 68 35 = some (.aload_n 0, 1, 0, 0, 0) := by decide +kernel
theorem s_68_35 {w : Value} : mw d 68 Q 35 [some w] (st) h = mv_a w (mw d 68 Q 36 [some w] (w :: st) h) := (mw_at mj_68_35).trans (z_aload_n rfl)
theorem mj_68_36 : mc_P 68 36 = some (.getfield 212, 3, 3, 12, 0) := by decide +kernel
theorem s_68_36 {x0 : Option Value} {o : Nat} : mw d 68 Q 36 [x0] (.ref o :: st) h = (mg h o 3 ∧ mw d 68 Q 39 [x0] (.int (mh_i h o 12) :: st) h) := (mw_at mj_68_36).trans (z_geti (by decide) (by decide) (Or.inl rfl))
theorem mj_68_39 : mc_P 68 39 = some (.invokevirtual 126, 3, 54, 3, 3) := by decide +kernel
theorem s_68_39 {x0 : Option Value} {o : Nat} {a1 a2 : Value} : mw (d + 1) 68 Q 39 [x0] (a2 :: a1 :: .ref o :: st) h = (mg h o 3 ∧ mca st 8 ∧ mca [.ref o, a1, a2] 3 ∧ mcall d 54 [.ref o, a1, a2] h (mK (d + 1) 68 Q 42 [x0] st)) := (mw_at mj_68_39).trans ((z_invv (As := [a1, a2]) (by decide) rfl rfl).trans (congrArg (And _) (congrArg (And _) (mC_nl nl_54))))
theorem mj_68_42 : mc_P 68 42 = some (.goto 43, 3, 0, 0, 0) := by decide +kernel
theorem s_68_42 {x0 : Option Value} : mw d 68 Q 42 [x0] (st) h = mw d 68 Q 85 [x0] (st) h := (mw_at mj_68_42).trans (z_goto (by decide))
theorem mj_68_45 : mc_P 68 45 = some (.aload_n 0, 1, 0, 0, 0) := by decide +kernel
theorem s_68_45 {w : Value} : mw d 68 Q 45 [some w] (st) h = mv_a w (mw d 68 Q 46 [some w] (w :: st) h) := (mw_at mj_68_45).trans (z_aload_n rfl)
theorem mj_68_46 : mc_P 68 46 = some (.getfield 117, 3, 3, 8, 0) := by decide +kernel
theorem s_68_46 {x0 : Option Value} {o : Nat} : mw d 68 Q 46 [x0] (.ref o :: st) h = (mg h o 3 ∧ mw d 68 Q 49 [x0] (va_rf (mh_r h o 8) :: st) h) := (mw_at mj_68_46).trans (z_getr (by decide) (by decide) rfl)
theorem mj_68_49 : mc_P 68 49 = some (.getfield 197, 3, 9, 8, 0) := by decide +kernel
theorem s_68_49 {x0 : Option Value} {o : Nat} : mw d 68 Q 49 [x0] (.ref o :: st) h = (mg h o 9 ∧ mw d 68 Q 52 [x0] (.int (mh_i h o 8) :: st) h) := (mw_at mj_68_49).trans (z_geti (by decide) (by decide) (Or.inl rfl))
theorem mj_68_52 : mc_P 68 52 = some (.iconst (-1), 1, 0, 0, 0) := by decide +kernel
theorem s_68_52 {x0 : Option Value} : mw d 68 Q 52 [x0] (st) h = mw d 68 Q 53 [x0] (.int (-1) :: st) h := (mw_at mj_68_52).trans (z_iconst (by decide))
theorem mj_68_53 : mc_P 68 53 = some (.if_icmp .eq 32, 3, 0, 0, 0) := by decide +kernel
theorem s_68_53 {x0 : Option Value} {x w : Int32} : mw d 68 Q 53 [x0] (.int w :: .int x :: st) h = mB (x = w) (mw d 68 Q) 85 56 [x0] st h := (mw_at mj_68_53).trans (z_icmp_eq (by decide) rfl)
theorem mj_68_56 : mc_P 68 56 = some (.aload_n 0, 1, 0, 0, 0) := by decide +kernel
theorem s_68_56 {w : Value} : mw d 68 Q 56 [some w] (st) h = mv_a w (mw d 68 Q 57 [some w] (w :: st) h) := (mw_at mj_68_56).trans (z_aload_n rfl)
theorem mj_68_57 : mc_P 68 57 = some (.getfield 23, 3, 3, 1, 0) := by decide +kernel
theorem s_68_57 {x0 : Option Value} {o : Nat} : mw d 68 Q 57 [x0] (.ref o :: st) h = (mg h o 3 ∧ mw d 68 Q 60 [x0] (va_rf (mh_r h o 1) :: st) h) := (mw_at mj_68_57).trans (z_getr (by decide) (by decide) rfl)
theorem mj_68_60 : mc_P 68 60 = some (.aload_n 0, 1, 0, 0, 0) := by decide +kernel
theorem s_68_60 {w : Value} : mw d 68 Q 60 [some w] (st) h = mv_a w (mw d 68 Q 61 [some w] (w :: st) h) := (mw_at mj_68_60).trans (z_aload_n rfl)
theorem mj_68_61 : mc_P 68 61 = some (.getfield 117, 3, 3, 8, 0) := by decide +kernel
theorem s_68_61 {x0 : Option Value} {o : Nat} : mw d 68 Q 61 [x0] (.ref o :: st) h = (mg h o 3 ∧ mw d 68 Q 64 [x0] (va_rf (mh_r h o 8) :: st) h) := (mw_at mj_68_61).trans (z_getr (by decide) (by decide) rfl)
theorem mj_68_64 : mc_P 68 64 = some (.getfield 218, 3, 9, 14, 0) := by decide +kernel
theorem s_68_64 {x0 : Option Value} {o : Nat} : mw d 68 Q 64 [x0] (.ref o :: st) h = (mg h o 9 ∧ mw d 68 Q 67 [x0] (.int (mh_i h o 14) :: st) h) := (mw_at mj_68_64).trans (z_geti (by decide) (by decide) (Or.inl rfl))
theorem mj_68_67 : mc_P 68 67 = some (.iconst 5, 1, 0, 0, 0) := by decide +kernel
theorem s_68_67 {x0 : Option Value} : mw d 68 Q 67 [x0] (st) h = mw d 68 Q 68 [x0] (.int 5 :: st) h := (mw_at mj_68_67).trans (z_iconst (by decide))
theorem mj_68_68 : mc_P 68 68 = some (.invokevirtual 231, 3, 137, 7, 3) := by decide +kernel
theorem s_68_68 {x0 : Option Value} {o : Nat} {a1 a2 : Value} : mw (d + 1) 68 Q 68 [x0] (a2 :: a1 :: .ref o :: st) h = (mg h o 7 ∧ mca st 8 ∧ mca [.ref o, a1, a2] 3 ∧ mcall d 137 [.ref o, a1, a2] h (mK (d + 1) 68 Q 71 [x0] st)) := (mw_at mj_68_68).trans ((z_invv (As := [a1, a2]) (by decide) rfl rfl).trans (congrArg (And _) (congrArg (And _) (mC_nl nl_137))))
theorem mj_68_71 : mc_P 68 71 = some (.iconst (-1), 1, 0, 0, 0) := by decide +kernel
theorem s_68_71 {x0 : Option Value} : mw d 68 Q 71 [x0] (st) h = mw d 68 Q 72 [x0] (.int (-1) :: st) h := (mw_at mj_68_71).trans (z_iconst (by decide))
theorem mj_68_72 : mc_P 68 72 = some (.if_icmp .ne 13, 3, 0, 0, 0) := by decide +kernel
theorem s_68_72 {x0 : Option Value} {x w : Int32} : mw d 68 Q 72 [x0] (.int w :: .int x :: st) h = mB (¬ x = w) (mw d 68 Q) 85 75 [x0] st h := (mw_at mj_68_72).trans (z_icmp_ne (by decide) rfl)
theorem mj_68_75 : mc_P 68 75 = some (.aload_n 0, 1, 0, 0, 0) := by decide +kernel
theorem s_68_75 {w : Value} : mw d 68 Q 75 [some w] (st) h = mv_a w (mw d 68 Q 76 [some w] (w :: st) h) := (mw_at mj_68_75).trans (z_aload_n rfl)
theorem mj_68_76 : mc_P 68 76 = some (.bipush 6, 2, 0, 0, 0) := by decide +kernel
theorem s_68_76 {x0 : Option Value} : mw d 68 Q 76 [x0] (st) h = mw d 68 Q 78 [x0] (.int 6 :: st) h := (mw_at mj_68_76).trans (z_bipush (by decide))
theorem mj_68_78 : mc_P 68 78 = some (.aload_n 0, 1, 0, 0, 0) := by decide +kernel
theorem s_68_78 {w : Value} : mw d 68 Q 78 [some w] (st) h = mv_a w (mw d 68 Q 79 [some w] (w :: st) h) := (mw_at mj_68_78).trans (z_aload_n rfl)
theorem mj_68_79 : mc_P 68 79 = some (.getfield 212, 3, 3, 12, 0) := by decide +kernel
theorem s_68_79 {x0 : Option Value} {o : Nat} : mw d 68 Q 79 [x0] (.ref o :: st) h = (mg h o 3 ∧ mw d 68 Q 82 [x0] (.int (mh_i h o 12) :: st) h) := (mw_at mj_68_79).trans (z_geti (by decide) (by decide) (Or.inl rfl))
theorem mj_68_82 : mc_P 68 82 = some (.invokevirtual 126, 3, 54, 3, 3) := by decide +kernel
theorem s_68_82 {x0 : Option Value} {o : Nat} {a1 a2 : Value} : mw (d + 1) 68 Q 82 [x0] (a2 :: a1 :: .ref o :: st) h = (mg h o 3 ∧ mca st 8 ∧ mca [.ref o, a1, a2] 3 ∧ mcall d 54 [.ref o, a1, a2] h (mK (d + 1) 68 Q 85 [x0] st)) := (mw_at mj_68_82).trans ((z_invv (As := [a1, a2]) (by decide) rfl rfl).trans (congrArg (And _) (congrArg (And _) (mC_nl nl_54))))
theorem mj_68_85 : mc_P 68 85 = some (.return_, 1, 0, 0, 0) := by decide +kernel
theorem s_68_85 {x0 : Option Value} : mw d 68 Q 85 [x0] ([]) h = Q none h := (mw_at mj_68_85).trans (z_vret)
theorem e_68 {a0 : Nat} : mcall d 68 [.ref a0] h Q = mw d 68 Q 0 [some (.ref a0)] [] h := by
  show mw d 68 Q 0 (me_en (mc_nl 68) _) [] h = _
  rw [nl_68]; rfl

/-! InvariantDesk$Parser.finishStatement(I)V -/
theorem mj_69_0 : mc_P 69 0 = some (.iload_n 1, 1, 0, 0, 0) := by decide +kernel
theorem s_69_0 {x0 x2 : Option Value} {w : Value} : mw d 69 Q 0 [x0, some w, x2] (st) h = mv_i w (mw d 69 Q 1 [x0, some w, x2] (w :: st) h) := (mw_at mj_69_0).trans (z_iload_n rfl)
theorem mj_69_1 : mc_P 69 1 = some (.sipush 157, 3, 0, 0, 0) := by decide +kernel
theorem s_69_1 {x0 x1 x2 : Option Value} : mw d 69 Q 1 [x0, x1, x2] (st) h = mw d 69 Q 4 [x0, x1, x2] (.int 157 :: st) h := (mw_at mj_69_1).trans (z_sipush (by decide))
theorem mj_69_4 : mc_P 69 4 = some (.if_icmp .ne 20, 3, 0, 0, 0) := by decide +kernel
theorem s_69_4 {x0 x1 x2 : Option Value} {x w : Int32} : mw d 69 Q 4 [x0, x1, x2] (.int w :: .int x :: st) h = mB (¬ x = w) (mw d 69 Q) 24 7 [x0, x1, x2] st h := (mw_at mj_69_4).trans (z_icmp_ne (by decide) rfl)
theorem mj_69_7 : mc_P 69 7 = some (.aload_n 0, 1, 0, 0, 0) := by decide +kernel
theorem s_69_7 {x1 x2 : Option Value} {w : Value} : mw d 69 Q 7 [some w, x1, x2] (st) h = mv_a w (mw d 69 Q 8 [some w, x1, x2] (w :: st) h) := (mw_at mj_69_7).trans (z_aload_n rfl)
theorem mj_69_8 : mc_P 69 8 = some (.getfield 117, 3, 3, 8, 0) := by decide +kernel
theorem s_69_8 {x0 x1 x2 : Option Value} {o : Nat} : mw d 69 Q 8 [x0, x1, x2] (.ref o :: st) h = (mg h o 3 ∧ mw d 69 Q 11 [x0, x1, x2] (va_rf (mh_r h o 8) :: st) h) := (mw_at mj_69_8).trans (z_getr (by decide) (by decide) rfl)
theorem mj_69_11 : mc_P 69 11 = some (.aload_n 0, 1, 0, 0, 0) := by decide +kernel
theorem s_69_11 {x1 x2 : Option Value} {w : Value} : mw d 69 Q 11 [some w, x1, x2] (st) h = mv_a w (mw d 69 Q 12 [some w, x1, x2] (w :: st) h) := (mw_at mj_69_11).trans (z_aload_n rfl)
theorem mj_69_12 : mc_P 69 12 = some (.getfield 23, 3, 3, 1, 0) := by decide +kernel
theorem s_69_12 {x0 x1 x2 : Option Value} {o : Nat} : mw d 69 Q 12 [x0, x1, x2] (.ref o :: st) h = (mg h o 3 ∧ mw d 69 Q 15 [x0, x1, x2] (va_rf (mh_r h o 1) :: st) h) := (mw_at mj_69_12).trans (z_getr (by decide) (by decide) rfl)
theorem mj_69_15 : mc_P 69 15 = some (.getfield 265, 3, 7, 11, 0) := by decide +kernel
theorem s_69_15 {x0 x1 x2 : Option Value} {o : Nat} : mw d 69 Q 15 [x0, x1, x2] (.ref o :: st) h = (mg h o 7 ∧ mw d 69 Q 18 [x0, x1, x2] (.int (mh_i h o 11) :: st) h) := (mw_at mj_69_15).trans (z_geti (by decide) (by decide) (Or.inl rfl))
theorem mj_69_18 : mc_P 69 18 = some (.putfield 268, 3, 9, 13, 0) := by decide +kernel
theorem s_69_18 {x0 x1 x2 : Option Value} {o : Nat} {w : Int32} : mw d 69 Q 18 [x0, x1, x2] (.int w :: .ref o :: st) h = (mg h o 9 ∧ mw d 69 Q 21 [x0, x1, x2] (st) (mh_si h o 13 w)) := (mw_at mj_69_18).trans (z_puti (by decide) (by decide) rfl)
theorem mj_69_21 : mc_P 69 21 = some (.goto 165, 3, 0, 0, 0) := by decide +kernel
theorem s_69_21 {x0 x1 x2 : Option Value} : mw d 69 Q 21 [x0, x1, x2] (st) h = mw d 69 Q 186 [x0, x1, x2] (st) h := (mw_at mj_69_21).trans (z_goto (by decide))
theorem mj_69_24 : mc_P 69 24 = some (.iload_n 1, 1, 0, 0, 0) := by decide +kernel
theorem s_69_24 {x0 x2 : Option Value} {w : Value} : mw d 69 Q 24 [x0, some w, x2] (st) h = mv_i w (mw d 69 Q 25 [x0, some w, x2] (w :: st) h) := (mw_at mj_69_24).trans (z_iload_n rfl)
theorem mj_69_25 : mc_P 69 25 = some (.sipush 160, 3, 0, 0, 0) := by decide +kernel
theorem s_69_25 {x0 x1 x2 : Option Value} : mw d 69 Q 25 [x0, x1, x2] (st) h = mw d 69 Q 28 [x0, x1, x2] (.int 160 :: st) h := (mw_at mj_69_25).trans (z_sipush (by decide))
theorem mj_69_28 : mc_P 69 28 = some (.if_icmp .ne 56, 3, 0, 0, 0) := by decide +kernel
theorem s_69_28 {x0 x1 x2 : Option Value} {x w : Int32} : mw d 69 Q 28 [x0, x1, x2] (.int w :: .int x :: st) h = mB (¬ x = w) (mw d 69 Q) 84 31 [x0, x1, x2] st h := (mw_at mj_69_28).trans (z_icmp_ne (by decide) rfl)
theorem mj_69_31 : mc_P 69 31 = some (.aload_n 0, 1, 0, 0, 0) := by decide +kernel
theorem s_69_31 {x1 x2 : Option Value} {w : Value} : mw d 69 Q 31 [some w, x1, x2] (st) h = mv_a w (mw d 69 Q 32 [some w, x1, x2] (w :: st) h) := (mw_at mj_69_31).trans (z_aload_n rfl)
theorem mj_69_32 : mc_P 69 32 = some (.getfield 32, 3, 3, 2, 0) := by decide +kernel
theorem s_69_32 {x0 x1 x2 : Option Value} {o : Nat} : mw d 69 Q 32 [x0, x1, x2] (.ref o :: st) h = (mg h o 3 ∧ mw d 69 Q 35 [x0, x1, x2] (va_rf (mh_r h o 2) :: st) h) := (mw_at mj_69_32).trans (z_getr (by decide) (by decide) rfl)
theorem mj_69_35 : mc_P 69 35 = some (.getfield 271, 3, 6, 6, 0) := by decide +kernel
theorem s_69_35 {x0 x1 x2 : Option Value} {o : Nat} : mw d 69 Q 35 [x0, x1, x2] (.ref o :: st) h = (mg h o 6 ∧ mw d 69 Q 38 [x0, x1, x2] (.int (mh_i h o 6) :: st) h) := (mw_at mj_69_35).trans (z_geti (by decide) (by decide) (Or.inl rfl))
theorem mj_69_38 : mc_P 69 38 = some (.iconst 1, 1, 0, 0, 0) := by decide +kernel
theorem s_69_38 {x0 x1 x2 : Option Value} : mw d 69 Q 38 [x0, x1, x2] (st) h = mw d 69 Q 39 [x0, x1, x2] (.int 1 :: st) h := (mw_at mj_69_38).trans (z_iconst (by decide))
theorem mj_69_39 : mc_P 69 39 = some (.if_icmp .ne 29, 3, 0, 0, 0) := by decide +kernel
theorem s_69_39 {x0 x1 x2 : Option Value} {x w : Int32} : mw d 69 Q 39 [x0, x1, x2] (.int w :: .int x :: st) h = mB (¬ x = w) (mw d 69 Q) 68 42 [x0, x1, x2] st h := (mw_at mj_69_39).trans (z_icmp_ne (by decide) rfl)
theorem mj_69_42 : mc_P 69 42 = some (.aload_n 0, 1, 0, 0, 0) := by decide +kernel
theorem s_69_42 {x1 x2 : Option Value} {w : Value} : mw d 69 Q 42 [some w, x1, x2] (st) h = mv_a w (mw d 69 Q 43 [some w, x1, x2] (w :: st) h) := (mw_at mj_69_42).trans (z_aload_n rfl)
theorem mj_69_43 : mc_P 69 43 = some (.invokevirtual 108, 3, 47, 3, 1) := by decide +kernel
theorem s_69_43 {x0 x1 x2 : Option Value} {o : Nat} : mw (d + 1) 69 Q 43 [x0, x1, x2] (.ref o :: st) h = (mg h o 3 ∧ mca st 8 ∧ mca [.ref o] 1 ∧ mcall d 47 [.ref o] h (mK (d + 1) 69 Q 46 [x0, x1, x2] st)) := (mw_at mj_69_43).trans ((z_invv (As := []) (by decide) rfl rfl).trans (congrArg (And _) (congrArg (And _) (mC_nl nl_47))))
theorem mj_69_46 : mc_P 69 46 = some (.bipush 125, 2, 0, 0, 0) := by decide +kernel
theorem s_69_46 {x0 x1 x2 : Option Value} : mw d 69 Q 46 [x0, x1, x2] (st) h = mw d 69 Q 48 [x0, x1, x2] (.int 125 :: st) h := (mw_at mj_69_46).trans (z_bipush (by decide))
theorem mj_69_48 : mc_P 69 48 = some (.if_icmp .ne 20, 3, 0, 0, 0) := by decide +kernel
theorem s_69_48 {x0 x1 x2 : Option Value} {x w : Int32} : mw d 69 Q 48 [x0, x1, x2] (.int w :: .int x :: st) h = mB (¬ x = w) (mw d 69 Q) 68 51 [x0, x1, x2] st h := (mw_at mj_69_48).trans (z_icmp_ne (by decide) rfl)
theorem mj_69_51 : mc_P 69 51 = some (.aload_n 0, 1, 0, 0, 0) := by decide +kernel
theorem s_69_51 {x1 x2 : Option Value} {w : Value} : mw d 69 Q 51 [some w, x1, x2] (st) h = mv_a w (mw d 69 Q 52 [some w, x1, x2] (w :: st) h) := (mw_at mj_69_51).trans (z_aload_n rfl)
theorem mj_69_52 : mc_P 69 52 = some (.getfield 23, 3, 3, 1, 0) := by decide +kernel
theorem s_69_52 {x0 x1 x2 : Option Value} {o : Nat} : mw d 69 Q 52 [x0, x1, x2] (.ref o :: st) h = (mg h o 3 ∧ mw d 69 Q 55 [x0, x1, x2] (va_rf (mh_r h o 1) :: st) h) := (mw_at mj_69_52).trans (z_getr (by decide) (by decide) rfl)
theorem mj_69_55 : mc_P 69 55 = some (.aload_n 0, 1, 0, 0, 0) := by decide +kernel
theorem s_69_55 {x1 x2 : Option Value} {w : Value} : mw d 69 Q 55 [some w, x1, x2] (st) h = mv_a w (mw d 69 Q 56 [some w, x1, x2] (w :: st) h) := (mw_at mj_69_55).trans (z_aload_n rfl)
theorem mj_69_56 : mc_P 69 56 = some (.getfield 117, 3, 3, 8, 0) := by decide +kernel
theorem s_69_56 {x0 x1 x2 : Option Value} {o : Nat} : mw d 69 Q 56 [x0, x1, x2] (.ref o :: st) h = (mg h o 3 ∧ mw d 69 Q 59 [x0, x1, x2] (va_rf (mh_r h o 8) :: st) h) := (mw_at mj_69_56).trans (z_getr (by decide) (by decide) rfl)
theorem mj_69_59 : mc_P 69 59 = some (.getfield 184, 3, 9, 1, 0) := by decide +kernel
theorem s_69_59 {x0 x1 x2 : Option Value} {o : Nat} : mw d 69 Q 59 [x0, x1, x2] (.ref o :: st) h = (mg h o 9 ∧ mw d 69 Q 62 [x0, x1, x2] (.int (mh_i h o 1) :: st) h) := (mw_at mj_69_59).trans (z_geti (by decide) (by decide) (Or.inl rfl))
theorem mj_69_62 : mc_P 69 62 = some (.invokevirtual 274, 3, 135, 7, 2) := by decide +kernel
theorem s_69_62 {x0 x1 x2 : Option Value} {o : Nat} {a1 : Value} : mw (d + 1) 69 Q 62 [x0, x1, x2] (a1 :: .ref o :: st) h = (mg h o 7 ∧ mca st 8 ∧ mca [.ref o, a1] 2 ∧ mcall d 135 [.ref o, a1] h (mK (d + 1) 69 Q 65 [x0, x1, x2] st)) := (mw_at mj_69_62).trans ((z_invv (As := [a1]) (by decide) rfl rfl).trans (congrArg (And _) (congrArg (And _) (mC_nl nl_135))))
theorem mj_69_65 : mc_P 69 65 = some (.goto 121, 3, 0, 0, 0) := by decide +kernel
theorem s_69_65 {x0 x1 x2 : Option Value} : mw d 69 Q 65 [x0, x1, x2] (st) h = mw d 69 Q 186 [x0, x1, x2] (st) h := (mw_at mj_69_65).trans (z_goto (by decide))
theorem mj_69_68 : mc_P 69 68 = some (.aload_n 0, 1, 0, 0, 0) := by decide +kernel
theorem s_69_68 {x1 x2 : Option Value} {w : Value} : mw d 69 Q 68 [some w, x1, x2] (st) h = mv_a w (mw d 69 Q 69 [some w, x1, x2] (w :: st) h) := (mw_at mj_69_68).trans (z_aload_n rfl)
theorem mj_69_69 : mc_P 69 69 = some (.bipush 6, 2, 0, 0, 0) := by decide +kernel
theorem s_69_69 {x0 x1 x2 : Option Value} : mw d 69 Q 69 [x0, x1, x2] (st) h = mw d 69 Q 71 [x0, x1, x2] (.int 6 :: st) h := (mw_at mj_69_69).trans (z_bipush (by decide))
theorem mj_69_71 : mc_P 69 71 = some (.aload_n 0, 1, 0, 0, 0) := by decide +kernel
theorem s_69_71 {x1 x2 : Option Value} {w : Value} : mw d 69 Q 71 [some w, x1, x2] (st) h = mv_a w (mw d 69 Q 72 [some w, x1, x2] (w :: st) h) := (mw_at mj_69_71).trans (z_aload_n rfl)
theorem mj_69_72 : mc_P 69 72 = some (.getfield 117, 3, 3, 8, 0) := by decide +kernel
theorem s_69_72 {x0 x1 x2 : Option Value} {o : Nat} : mw d 69 Q 72 [x0, x1, x2] (.ref o :: st) h = (mg h o 3 ∧ mw d 69 Q 75 [x0, x1, x2] (va_rf (mh_r h o 8) :: st) h) := (mw_at mj_69_72).trans (z_getr (by decide) (by decide) rfl)
theorem mj_69_75 : mc_P 69 75 = some (.getfield 277, 3, 9, 2, 0) := by decide +kernel
theorem s_69_75 {x0 x1 x2 : Option Value} {o : Nat} : mw d 69 Q 75 [x0, x1, x2] (.ref o :: st) h = (mg h o 9 ∧ mw d 69 Q 78 [x0, x1, x2] (.int (mh_i h o 2) :: st) h) := (mw_at mj_69_75).trans (z_geti (by decide) (by decide) (Or.inl rfl))
theorem mj_69_78 : mc_P 69 78 = some (.invokevirtual 126, 3, 54, 3, 3) := by decide +kernel
theorem s_69_78 {x0 x1 x2 : Option Value} {o : Nat} {a1 a2 : Value} : mw (d + 1) 69 Q 78 [x0, x1, x2] (a2 :: a1 :: .ref o :: st) h = (mg h o 3 ∧ mca st 8 ∧ mca [.ref o, a1, a2] 3 ∧ mcall d 54 [.ref o, a1, a2] h (mK (d + 1) 69 Q 81 [x0, x1, x2] st)) := (mw_at mj_69_78).trans ((z_invv (As := [a1, a2]) (by decide) rfl rfl).trans (congrArg (And _) (congrArg (And _) (mC_nl nl_54))))
theorem mj_69_81 : mc_P 69 81 = some (.goto 105, 3, 0, 0, 0) := by decide +kernel
theorem s_69_81 {x0 x1 x2 : Option Value} : mw d 69 Q 81 [x0, x1, x2] (st) h = mw d 69 Q 186 [x0, x1, x2] (st) h := (mw_at mj_69_81).trans (z_goto (by decide))
theorem mj_69_84 : mc_P 69 84 = some (.aload_n 0, 1, 0, 0, 0) := by decide +kernel
theorem s_69_84 {x1 x2 : Option Value} {w : Value} : mw d 69 Q 84 [some w, x1, x2] (st) h = mv_a w (mw d 69 Q 85 [some w, x1, x2] (w :: st) h) := (mw_at mj_69_84).trans (z_aload_n rfl)
theorem mj_69_85 : mc_P 69 85 = some (.getfield 181, 3, 3, 10, 0) := by decide +kernel
theorem s_69_85 {x0 x1 x2 : Option Value} {o : Nat} : mw d 69 Q 85 [x0, x1, x2] (.ref o :: st) h = (mg h o 3 ∧ mw d 69 Q 88 [x0, x1, x2] (.int (mh_i h o 10) :: st) h) := (mw_at mj_69_85).trans (z_geti (by decide) (by decide) (Or.inl rfl))
theorem mj_69_88 : mc_P 69 88 = some (.ifCond .le 98, 3, 0, 0, 0) := by decide +kernel
theorem s_69_88 {x0 x1 x2 : Option Value} {x : Int32} : mw d 69 Q 88 [x0, x1, x2] (.int x :: st) h = mB (x ≤ 0) (mw d 69 Q) 186 91 [x0, x1, x2] st h := (mw_at mj_69_88).trans (z_if_le (by decide) rfl)
theorem mj_69_91 : mc_P 69 91 = some (.aload_n 0, 1, 0, 0, 0) := by decide +kernel
theorem s_69_91 {x1 x2 : Option Value} {w : Value} : mw d 69 Q 91 [some w, x1, x2] (st) h = mv_a w (mw d 69 Q 92 [some w, x1, x2] (w :: st) h) := (mw_at mj_69_91).trans (z_aload_n rfl)
theorem mj_69_92 : mc_P 69 92 = some (.getfield 23, 3, 3, 1, 0) := by decide +kernel
theorem s_69_92 {x0 x1 x2 : Option Value} {o : Nat} : mw d 69 Q 92 [x0, x1, x2] (.ref o :: st) h = (mg h o 3 ∧ mw d 69 Q 95 [x0, x1, x2] (va_rf (mh_r h o 1) :: st) h) := (mw_at mj_69_92).trans (z_getr (by decide) (by decide) rfl)
theorem mj_69_95 : mc_P 69 95 = some (.getfield 280, 3, 7, 12, 0) := by decide +kernel
theorem s_69_95 {x0 x1 x2 : Option Value} {o : Nat} : mw d 69 Q 95 [x0, x1, x2] (.ref o :: st) h = (mg h o 7 ∧ mw d 69 Q 98 [x0, x1, x2] (va_rf (mh_r h o 12) :: st) h) := (mw_at mj_69_95).trans (z_getr (by decide) (by decide) rfl)
theorem mj_69_98 : mc_P 69 98 = some (.aload_n 0, 1, 0, 0, 0) := by decide +kernel
theorem s_69_98 {x1 x2 : Option Value} {w : Value} : mw d 69 Q 98 [some w, x1, x2] (st) h = mv_a w (mw d 69 Q 99 [some w, x1, x2] (w :: st) h) := (mw_at mj_69_98).trans (z_aload_n rfl)
theorem mj_69_99 : mc_P 69 99 = some (.getfield 15, 3, 3, 9, 0) := by decide +kernel
theorem s_69_99 {x0 x1 x2 : Option Value} {o : Nat} : mw d 69 Q 99 [x0, x1, x2] (.ref o :: st) h = (mg h o 3 ∧ mw d 69 Q 102 [x0, x1, x2] (va_rf (mh_r h o 9) :: st) h) := (mw_at mj_69_99).trans (z_getr (by decide) (by decide) rfl)
theorem mj_69_102 : mc_P 69 102 = some (.aload_n 0, 1, 0, 0, 0) := by decide +kernel
theorem s_69_102 {x1 x2 : Option Value} {w : Value} : mw d 69 Q 102 [some w, x1, x2] (st) h = mv_a w (mw d 69 Q 103 [some w, x1, x2] (w :: st) h) := (mw_at mj_69_102).trans (z_aload_n rfl)
theorem mj_69_103 : mc_P 69 103 = some (.getfield 181, 3, 3, 10, 0) := by decide +kernel
theorem s_69_103 {x0 x1 x2 : Option Value} {o : Nat} : mw d 69 Q 103 [x0, x1, x2] (.ref o :: st) h = (mg h o 3 ∧ mw d 69 Q 106 [x0, x1, x2] (.int (mh_i h o 10) :: st) h) := (mw_at mj_69_103).trans (z_geti (by decide) (by decide) (Or.inl rfl))
theorem mj_69_106 : mc_P 69 106 = some (.iconst 1, 1, 0, 0, 0) := by decide +kernel
theorem s_69_106 {x0 x1 x2 : Option Value} : mw d 69 Q 106 [x0, x1, x2] (st) h = mw d 69 Q 107 [x0, x1, x2] (.int 1 :: st) h := (mw_at mj_69_106).trans (z_iconst (by decide))
theorem mj_69_107 : mc_P 69 107 = some (.isub, 1, 0, 0, 0) := by decide +kernel
theorem s_69_107 {x0 x1 x2 : Option Value} {x w : Int32} : mw d 69 Q 107 [x0, x1, x2] (.int w :: .int x :: st) h = mw d 69 Q 108 [x0, x1, x2] (.int (x - w) :: st) h := (mw_at mj_69_107).trans (z_isub)
theorem mj_69_108 : mc_P 69 108 = some (.iaload, 1, 0, 0, 0) := by decide +kernel
theorem s_69_108 {x0 x1 x2 : Option Value} {o : Nat} {i : Int32} : mw d 69 Q 108 [x0, x1, x2] (.int i :: .ref o :: st) h = (mg h o 100 ∧ mx i (mh_l h o) ∧ mw d 69 Q 109 [x0, x1, x2] (.int (mh_i h o i.toNatClampNeg) :: st) h) := (mw_at mj_69_108).trans (z_iald)
theorem s_69_108x {x0 x1 x2 : Option Value} {i : Int32} : mw d 69 Q 108 [x0, x1, x2] (.int i :: .retAddr 2 :: st) h = (mx i 24 ∧ mw d 69 Q 109 [x0, x1, x2] (.int (mx_row.getD i.toNatClampNeg 0) :: st) h) := (mw_at mj_69_108).trans (z_iaX)
theorem mj_69_109 : mc_P 69 109 = some (.aaload, 1, 0, 0, 0) := by decide +kernel
theorem s_69_109 {x0 x1 x2 : Option Value} {o : Nat} {i : Int32} : mw d 69 Q 109 [x0, x1, x2] (.int i :: .ref o :: st) h = (mgr h o ∧ mx i (mh_l h o) ∧ mw d 69 Q 110 [x0, x1, x2] (mrd (mh_k h o) h o i.toNatClampNeg :: st) h) := (mw_at mj_69_109).trans (z_aald)
theorem mj_69_110 : mc_P 69 110 = some (.astore_n 2, 1, 0, 0, 0) := by decide +kernel
theorem s_69_110 {x0 x1 x2 : Option Value} {w : Nat} : mw d 69 Q 110 [x0, x1, x2] (.ref w :: st) h = mw d 69 Q 111 [x0, mk2 x1, some (.ref w)] (st) h := (mw_at mj_69_110).trans (z_astore_n (Nat.le_of_ble_eq_true rfl) (me_s1_mk (j := 1) (w := x1) rfl))
theorem s_69_110n {x0 x1 x2 : Option Value} : mw d 69 Q 110 [x0, x1, x2] (.null :: st) h = mw d 69 Q 111 [x0, mk2 x1, some (.null)] (st) h := (mw_at mj_69_110).trans (z_astoreN_n (Nat.le_of_ble_eq_true rfl) (me_s1_mk (j := 1) (w := x1) rfl))
theorem s_69_110x {x0 x1 x2 : Option Value} {w : Nat} : mw d 69 Q 110 [x0, x1, x2] (.retAddr w :: st) h = mw d 69 Q 111 [x0, mk2 x1, some (.retAddr w)] (st) h := (mw_at mj_69_110).trans (z_astoreX_n (Nat.le_of_ble_eq_true rfl) (me_s1_mk (j := 1) (w := x1) rfl))
theorem mj_69_111 : mc_P 69 111 = some (.iload_n 1, 1, 0, 0, 0) := by decide +kernel
theorem s_69_111 {x0 x2 : Option Value} {w : Value} : mw d 69 Q 111 [x0, some w, x2] (st) h = mv_i w (mw d 69 Q 112 [x0, some w, x2] (w :: st) h) := (mw_at mj_69_111).trans (z_iload_n rfl)
theorem mj_69_112 : mc_P 69 112 = some (.sipush 158, 3, 0, 0, 0) := by decide +kernel
theorem s_69_112 {x0 x1 x2 : Option Value} : mw d 69 Q 112 [x0, x1, x2] (st) h = mw d 69 Q 115 [x0, x1, x2] (.int 158 :: st) h := (mw_at mj_69_112).trans (z_sipush (by decide))
theorem mj_69_115 : mc_P 69 115 = some (.if_icmp .ne 50, 3, 0, 0, 0) := by decide +kernel
theorem s_69_115 {x0 x1 x2 : Option Value} {x w : Int32} : mw d 69 Q 115 [x0, x1, x2] (.int w :: .int x :: st) h = mB (¬ x = w) (mw d 69 Q) 165 118 [x0, x1, x2] st h := (mw_at mj_69_115).trans (z_icmp_ne (by decide) rfl)
theorem mj_69_118 : mc_P 69 118 = some (.aload_n 2, 1, 0, 0, 0) := by decide +kernel
theorem s_69_118 {x0 x1 : Option Value} {w : Value} : mw d 69 Q 118 [x0, x1, some w] (st) h = mv_a w (mw d 69 Q 119 [x0, x1, some w] (w :: st) h) := (mw_at mj_69_118).trans (z_aload_n rfl)
theorem mj_69_119 : mc_P 69 119 = some (.aload_n 0, 1, 0, 0, 0) := by decide +kernel
theorem s_69_119 {x1 x2 : Option Value} {w : Value} : mw d 69 Q 119 [some w, x1, x2] (st) h = mv_a w (mw d 69 Q 120 [some w, x1, x2] (w :: st) h) := (mw_at mj_69_119).trans (z_aload_n rfl)
theorem mj_69_120 : mc_P 69 120 = some (.getfield 23, 3, 3, 1, 0) := by decide +kernel
theorem s_69_120 {x0 x1 x2 : Option Value} {o : Nat} : mw d 69 Q 120 [x0, x1, x2] (.ref o :: st) h = (mg h o 3 ∧ mw d 69 Q 123 [x0, x1, x2] (va_rf (mh_r h o 1) :: st) h) := (mw_at mj_69_120).trans (z_getr (by decide) (by decide) rfl)
theorem mj_69_123 : mc_P 69 123 = some (.getfield 284, 3, 7, 13, 0) := by decide +kernel
theorem s_69_123 {x0 x1 x2 : Option Value} {o : Nat} : mw d 69 Q 123 [x0, x1, x2] (.ref o :: st) h = (mg h o 7 ∧ mw d 69 Q 126 [x0, x1, x2] (.int (mh_i h o 13) :: st) h) := (mw_at mj_69_123).trans (z_geti (by decide) (by decide) (Or.inl rfl))
theorem mj_69_126 : mc_P 69 126 = some (.putfield 285, 3, 9, 15, 0) := by decide +kernel
theorem s_69_126 {x0 x1 x2 : Option Value} {o : Nat} {w : Int32} : mw d 69 Q 126 [x0, x1, x2] (.int w :: .ref o :: st) h = (mg h o 9 ∧ mw d 69 Q 129 [x0, x1, x2] (st) (mh_si h o 15 w)) := (mw_at mj_69_126).trans (z_puti (by decide) (by decide) rfl)
theorem mj_69_129 : mc_P 69 129 = some (.aload_n 0, 1, 0, 0, 0) := by decide +kernel
theorem s_69_129 {x1 x2 : Option Value} {w : Value} : mw d 69 Q 129 [some w, x1, x2] (st) h = mv_a w (mw d 69 Q 130 [some w, x1, x2] (w :: st) h) := (mw_at mj_69_129).trans (z_aload_n rfl)
theorem mj_69_130 : mc_P 69 130 = some (.sipush 159, 3, 0, 0, 0) := by decide +kernel
theorem s_69_130 {x0 x1 x2 : Option Value} : mw d 69 Q 130 [x0, x1, x2] (st) h = mw d 69 Q 133 [x0, x1, x2] (.int 159 :: st) h := (mw_at mj_69_130).trans (z_sipush (by decide))
theorem mj_69_133 : mc_P 69 133 = some (.invokevirtual 51, 3, 45, 3, 2) := by decide +kernel
theorem s_69_133 {x0 x1 x2 : Option Value} {o : Nat} {a1 : Value} : mw (d + 1) 69 Q 133 [x0, x1, x2] (a1 :: .ref o :: st) h = (mg h o 3 ∧ mca st 8 ∧ mca [.ref o, a1] 2 ∧ mcall d 45 [.ref o, a1] h (mK (d + 1) 69 Q 136 [x0, x1, x2] st)) := (mw_at mj_69_133).trans ((z_invv (As := [a1]) (by decide) rfl rfl).trans (congrArg (And _) (congrArg (And _) (mC_nl nl_45))))
theorem mj_69_136 : mc_P 69 136 = some (.aload_n 0, 1, 0, 0, 0) := by decide +kernel
theorem s_69_136 {x1 x2 : Option Value} {w : Value} : mw d 69 Q 136 [some w, x1, x2] (st) h = mv_a w (mw d 69 Q 137 [some w, x1, x2] (w :: st) h) := (mw_at mj_69_136).trans (z_aload_n rfl)
theorem mj_69_137 : mc_P 69 137 = some (.invokevirtual 108, 3, 47, 3, 1) := by decide +kernel
theorem s_69_137 {x0 x1 x2 : Option Value} {o : Nat} : mw (d + 1) 69 Q 137 [x0, x1, x2] (.ref o :: st) h = (mg h o 3 ∧ mca st 8 ∧ mca [.ref o] 1 ∧ mcall d 47 [.ref o] h (mK (d + 1) 69 Q 140 [x0, x1, x2] st)) := (mw_at mj_69_137).trans ((z_invv (As := []) (by decide) rfl rfl).trans (congrArg (And _) (congrArg (And _) (mC_nl nl_47))))
theorem mj_69_140 : mc_P 69 140 = some (.bipush 7, 2, 0, 0, 0) := by decide +kernel
theorem s_69_140 {x0 x1 x2 : Option Value} : mw d 69 Q 140 [x0, x1, x2] (st) h = mw d 69 Q 142 [x0, x1, x2] (.int 7 :: st) h := (mw_at mj_69_140).trans (z_bipush (by decide))
theorem mj_69_142 : mc_P 69 142 = some (.if_icmp .ne 44, 3, 0, 0, 0) := by decide +kernel
theorem s_69_142 {x0 x1 x2 : Option Value} {x w : Int32} : mw d 69 Q 142 [x0, x1, x2] (.int w :: .int x :: st) h = mB (¬ x = w) (mw d 69 Q) 186 145 [x0, x1, x2] st h := (mw_at mj_69_142).trans (z_icmp_ne (by decide) rfl)
theorem mj_69_145 : mc_P 69 145 = some (.aload_n 0, 1, 0, 0, 0) := by decide +kernel
theorem s_69_145 {x1 x2 : Option Value} {w : Value} : mw d 69 Q 145 [some w, x1, x2] (st) h = mv_a w (mw d 69 Q 146 [some w, x1, x2] (w :: st) h) := (mw_at mj_69_145).trans (z_aload_n rfl)
theorem mj_69_146 : mc_P 69 146 = some (.dup, 1, 0, 0, 0) := by decide +kernel
theorem s_69_146 {x0 x1 x2 : Option Value} {w : Value} : mw d 69 Q 146 [x0, x1, x2] (w :: st) h = (w.category = 1 ∧ mw d 69 Q 147 [x0, x1, x2] (w :: w :: st) h) := (mw_at mj_69_146).trans (z_dup)
theorem mj_69_147 : mc_P 69 147 = some (.getfield 95, 3, 3, 5, 0) := by decide +kernel
theorem s_69_147 {x0 x1 x2 : Option Value} {o : Nat} : mw d 69 Q 147 [x0, x1, x2] (.ref o :: st) h = (mg h o 3 ∧ mw d 69 Q 150 [x0, x1, x2] (.int (mh_i h o 5) :: st) h) := (mw_at mj_69_147).trans (z_geti (by decide) (by decide) (Or.inl rfl))
theorem mj_69_150 : mc_P 69 150 = some (.iconst 1, 1, 0, 0, 0) := by decide +kernel
theorem s_69_150 {x0 x1 x2 : Option Value} : mw d 69 Q 150 [x0, x1, x2] (st) h = mw d 69 Q 151 [x0, x1, x2] (.int 1 :: st) h := (mw_at mj_69_150).trans (z_iconst (by decide))
theorem mj_69_151 : mc_P 69 151 = some (.iadd, 1, 0, 0, 0) := by decide +kernel
theorem s_69_151 {x0 x1 x2 : Option Value} {x w : Int32} : mw d 69 Q 151 [x0, x1, x2] (.int w :: .int x :: st) h = mw d 69 Q 152 [x0, x1, x2] (.int (x + w) :: st) h := (mw_at mj_69_151).trans (z_iadd)
theorem mj_69_152 : mc_P 69 152 = some (.putfield 95, 3, 3, 5, 0) := by decide +kernel
theorem s_69_152 {x0 x1 x2 : Option Value} {o : Nat} {w : Int32} : mw d 69 Q 152 [x0, x1, x2] (.int w :: .ref o :: st) h = (mg h o 3 ∧ mw d 69 Q 155 [x0, x1, x2] (st) (mh_si h o 5 w)) := (mw_at mj_69_152).trans (z_puti (by decide) (by decide) rfl)
theorem mj_69_155 : mc_P 69 155 = some (.aload_n 0, 1, 0, 0, 0) := by decide +kernel
theorem s_69_155 {x1 x2 : Option Value} {w : Value} : mw d 69 Q 155 [some w, x1, x2] (st) h = mv_a w (mw d 69 Q 156 [some w, x1, x2] (w :: st) h) := (mw_at mj_69_155).trans (z_aload_n rfl)
theorem mj_69_156 : mc_P 69 156 = some (.sipush 147, 3, 0, 0, 0) := by decide +kernel
theorem s_69_156 {x0 x1 x2 : Option Value} : mw d 69 Q 156 [x0, x1, x2] (st) h = mw d 69 Q 159 [x0, x1, x2] (.int 147 :: st) h := (mw_at mj_69_156).trans (z_sipush (by decide))
theorem mj_69_159 : mc_P 69 159 = some (.invokevirtual 51, 3, 45, 3, 2) := by decide +kernel
theorem s_69_159 {x0 x1 x2 : Option Value} {o : Nat} {a1 : Value} : mw (d + 1) 69 Q 159 [x0, x1, x2] (a1 :: .ref o :: st) h = (mg h o 3 ∧ mca st 8 ∧ mca [.ref o, a1] 2 ∧ mcall d 45 [.ref o, a1] h (mK (d + 1) 69 Q 162 [x0, x1, x2] st)) := (mw_at mj_69_159).trans ((z_invv (As := [a1]) (by decide) rfl rfl).trans (congrArg (And _) (congrArg (And _) (mC_nl nl_45))))
theorem mj_69_162 : mc_P 69 162 = some (.goto 24, 3, 0, 0, 0) := by decide +kernel
theorem s_69_162 {x0 x1 x2 : Option Value} : mw d 69 Q 162 [x0, x1, x2] (st) h = mw d 69 Q 186 [x0, x1, x2] (st) h := (mw_at mj_69_162).trans (z_goto (by decide))
theorem mj_69_165 : mc_P 69 165 = some (.aload_n 2, 1, 0, 0, 0) := by decide +kernel
theorem s_69_165 {x0 x1 : Option Value} {w : Value} : mw d 69 Q 165 [x0, x1, some w] (st) h = mv_a w (mw d 69 Q 166 [x0, x1, some w] (w :: st) h) := (mw_at mj_69_165).trans (z_aload_n rfl)
theorem mj_69_166 : mc_P 69 166 = some (.aload_n 0, 1, 0, 0, 0) := by decide +kernel
theorem s_69_166 {x1 x2 : Option Value} {w : Value} : mw d 69 Q 166 [some w, x1, x2] (st) h = mv_a w (mw d 69 Q 167 [some w, x1, x2] (w :: st) h) := (mw_at mj_69_166).trans (z_aload_n rfl)
theorem mj_69_167 : mc_P 69 167 = some (.getfield 23, 3, 3, 1, 0) := by decide +kernel
theorem s_69_167 {x0 x1 x2 : Option Value} {o : Nat} : mw d 69 Q 167 [x0, x1, x2] (.ref o :: st) h = (mg h o 3 ∧ mw d 69 Q 170 [x0, x1, x2] (va_rf (mh_r h o 1) :: st) h) := (mw_at mj_69_167).trans (z_getr (by decide) (by decide) rfl)
theorem mj_69_170 : mc_P 69 170 = some (.getfield 284, 3, 7, 13, 0) := by decide +kernel
theorem s_69_170 {x0 x1 x2 : Option Value} {o : Nat} : mw d 69 Q 170 [x0, x1, x2] (.ref o :: st) h = (mg h o 7 ∧ mw d 69 Q 173 [x0, x1, x2] (.int (mh_i h o 13) :: st) h) := (mw_at mj_69_170).trans (z_geti (by decide) (by decide) (Or.inl rfl))
theorem mj_69_173 : mc_P 69 173 = some (.putfield 288, 3, 9, 16, 0) := by decide +kernel
theorem s_69_173 {x0 x1 x2 : Option Value} {o : Nat} {w : Int32} : mw d 69 Q 173 [x0, x1, x2] (.int w :: .ref o :: st) h = (mg h o 9 ∧ mw d 69 Q 176 [x0, x1, x2] (st) (mh_si h o 16 w)) := (mw_at mj_69_173).trans (z_puti (by decide) (by decide) rfl)
theorem mj_69_176 : mc_P 69 176 = some (.aload_n 0, 1, 0, 0, 0) := by decide +kernel
theorem s_69_176 {x1 x2 : Option Value} {w : Value} : mw d 69 Q 176 [some w, x1, x2] (st) h = mv_a w (mw d 69 Q 177 [some w, x1, x2] (w :: st) h) := (mw_at mj_69_176).trans (z_aload_n rfl)
theorem mj_69_177 : mc_P 69 177 = some (.dup, 1, 0, 0, 0) := by decide +kernel
theorem s_69_177 {x0 x1 x2 : Option Value} {w : Value} : mw d 69 Q 177 [x0, x1, x2] (w :: st) h = (w.category = 1 ∧ mw d 69 Q 178 [x0, x1, x2] (w :: w :: st) h) := (mw_at mj_69_177).trans (z_dup)
theorem mj_69_178 : mc_P 69 178 = some (.getfield 181, 3, 3, 10, 0) := by decide +kernel
theorem s_69_178 {x0 x1 x2 : Option Value} {o : Nat} : mw d 69 Q 178 [x0, x1, x2] (.ref o :: st) h = (mg h o 3 ∧ mw d 69 Q 181 [x0, x1, x2] (.int (mh_i h o 10) :: st) h) := (mw_at mj_69_178).trans (z_geti (by decide) (by decide) (Or.inl rfl))
theorem mj_69_181 : mc_P 69 181 = some (.iconst 1, 1, 0, 0, 0) := by decide +kernel
theorem s_69_181 {x0 x1 x2 : Option Value} : mw d 69 Q 181 [x0, x1, x2] (st) h = mw d 69 Q 182 [x0, x1, x2] (.int 1 :: st) h := (mw_at mj_69_181).trans (z_iconst (by decide))
theorem mj_69_182 : mc_P 69 182 = some (.isub, 1, 0, 0, 0) := by decide +kernel
theorem s_69_182 {x0 x1 x2 : Option Value} {x w : Int32} : mw d 69 Q 182 [x0, x1, x2] (.int w :: .int x :: st) h = mw d 69 Q 183 [x0, x1, x2] (.int (x - w) :: st) h := (mw_at mj_69_182).trans (z_isub)
theorem mj_69_183 : mc_P 69 183 = some (.putfield 181, 3, 3, 10, 0) := by decide +kernel
theorem s_69_183 {x0 x1 x2 : Option Value} {o : Nat} {w : Int32} : mw d 69 Q 183 [x0, x1, x2] (.int w :: .ref o :: st) h = (mg h o 3 ∧ mw d 69 Q 186 [x0, x1, x2] (st) (mh_si h o 10 w)) := (mw_at mj_69_183).trans (z_puti (by decide) (by decide) rfl)
theorem mj_69_186 : mc_P 69 186 = some (.return_, 1, 0, 0, 0) := by decide +kernel
theorem s_69_186 {x0 x1 x2 : Option Value} : mw d 69 Q 186 [x0, x1, x2] ([]) h = Q none h := (mw_at mj_69_186).trans (z_vret)
theorem e_69 {a0 : Nat} {a1 : Int32} : mcall d 69 [.ref a0, .int a1] h Q = mw d 69 Q 0 [some (.ref a0), some (.int a1), none] [] h := by
  show mw d 69 Q 0 (me_en (mc_nl 69) _) [] h = _
  rw [nl_69]; rfl

/-! InvariantDesk$Parser.readSum(II)V -/
theorem mj_70_0 : mc_P 70 0 = some (.iload_n 1, 1, 0, 0, 0) := by decide +kernel
theorem s_70_0 {x0 x2 : Option Value} {w : Value} : mw d 70 Q 0 [x0, some w, x2] (st) h = mv_i w (mw d 70 Q 1 [x0, some w, x2] (w :: st) h) := (mw_at mj_70_0).trans (z_iload_n rfl)
theorem mj_70_1 : mc_P 70 1 = some (.tableswitch 341 161 169 #[51, 82, 115, 188, 217, 341, 291, 304, 325], 51, 0, 0, 0) := by decide +kernel
theorem s_70_1 {x0 x1 x2 : Option Value} {x : Int32} : mw d 70 Q 1 [x0, x1, x2] (.int x :: st) h = mS x (mw d 70 Q) 342 [x0, x1, x2] st h [(161, 52), (162, 83), (163, 116), (164, 189), (165, 218), (166, 342), (167, 292), (168, 305), (169, 326)] := (mw_at mj_70_1).trans (z_tab (by decide) (by decide) (by decide +kernel))
theorem mj_70_52 : mc_P 70 52 = some (.aload_n 0, 1, 0, 0, 0) := by decide +kernel
theorem s_70_52 {x1 x2 : Option Value} {w : Value} : mw d 70 Q 52 [some w, x1, x2] (st) h = mv_a w (mw d 70 Q 53 [some w, x1, x2] (w :: st) h) := (mw_at mj_70_52).trans (z_aload_n rfl)
theorem mj_70_53 : mc_P 70 53 = some (.getfield 23, 3, 3, 1, 0) := by decide +kernel
theorem s_70_53 {x0 x1 x2 : Option Value} {o : Nat} : mw d 70 Q 53 [x0, x1, x2] (.ref o :: st) h = (mg h o 3 ∧ mw d 70 Q 56 [x0, x1, x2] (va_rf (mh_r h o 1) :: st) h) := (mw_at mj_70_53).trans (z_getr (by decide) (by decide) rfl)
theorem mj_70_56 : mc_P 70 56 = some (.invokevirtual 291, 3, 129, 7, 1) := by decide +kernel
theorem s_70_56 {x0 x1 x2 : Option Value} {o : Nat} : mw (d + 1) 70 Q 56 [x0, x1, x2] (.ref o :: st) h = (mg h o 7 ∧ mca st 8 ∧ mca [.ref o] 1 ∧ mcall d 129 [.ref o] h (mK (d + 1) 70 Q 59 [x0, x1, x2] st)) := (mw_at mj_70_56).trans ((z_invv (As := []) (by decide) rfl rfl).trans (congrArg (And _) (congrArg (And _) (mC_nl nl_129))))
theorem mj_70_59 : mc_P 70 59 = some (.aload_n 0, 1, 0, 0, 0) := by decide +kernel
theorem s_70_59 {x1 x2 : Option Value} {w : Value} : mw d 70 Q 59 [some w, x1, x2] (st) h = mv_a w (mw d 70 Q 60 [some w, x1, x2] (w :: st) h) := (mw_at mj_70_59).trans (z_aload_n rfl)
theorem mj_70_60 : mc_P 70 60 = some (.getfield 117, 3, 3, 8, 0) := by decide +kernel
theorem s_70_60 {x0 x1 x2 : Option Value} {o : Nat} : mw d 70 Q 60 [x0, x1, x2] (.ref o :: st) h = (mg h o 3 ∧ mw d 70 Q 63 [x0, x1, x2] (va_rf (mh_r h o 8) :: st) h) := (mw_at mj_70_60).trans (z_getr (by decide) (by decide) rfl)
theorem mj_70_63 : mc_P 70 63 = some (.dup, 1, 0, 0, 0) := by decide +kernel
theorem s_70_63 {x0 x1 x2 : Option Value} {w : Value} : mw d 70 Q 63 [x0, x1, x2] (w :: st) h = (w.category = 1 ∧ mw d 70 Q 64 [x0, x1, x2] (w :: w :: st) h) := (mw_at mj_70_63).trans (z_dup)
theorem mj_70_64 : mc_P 70 64 = some (.getfield 262, 3, 9, 11, 0) := by decide +kernel
theorem s_70_64 {x0 x1 x2 : Option Value} {o : Nat} : mw d 70 Q 64 [x0, x1, x2] (.ref o :: st) h = (mg h o 9 ∧ mw d 70 Q 67 [x0, x1, x2] (.int (mh_i h o 11) :: st) h) := (mw_at mj_70_64).trans (z_geti (by decide) (by decide) (Or.inl rfl))
theorem mj_70_67 : mc_P 70 67 = some (.iconst 1, 1, 0, 0, 0) := by decide +kernel
theorem s_70_67 {x0 x1 x2 : Option Value} : mw d 70 Q 67 [x0, x1, x2] (st) h = mw d 70 Q 68 [x0, x1, x2] (.int 1 :: st) h := (mw_at mj_70_67).trans (z_iconst (by decide))
theorem mj_70_68 : mc_P 70 68 = some (.iadd, 1, 0, 0, 0) := by decide +kernel
theorem s_70_68 {x0 x1 x2 : Option Value} {x w : Int32} : mw d 70 Q 68 [x0, x1, x2] (.int w :: .int x :: st) h = mw d 70 Q 69 [x0, x1, x2] (.int (x + w) :: st) h := (mw_at mj_70_68).trans (z_iadd)
theorem mj_70_69 : mc_P 70 69 = some (.putfield 262, 3, 9, 11, 0) := by decide +kernel
theorem s_70_69 {x0 x1 x2 : Option Value} {o : Nat} {w : Int32} : mw d 70 Q 69 [x0, x1, x2] (.int w :: .ref o :: st) h = (mg h o 9 ∧ mw d 70 Q 72 [x0, x1, x2] (st) (mh_si h o 11 w)) := (mw_at mj_70_69).trans (z_puti (by decide) (by decide) rfl)
theorem mj_70_72 : mc_P 70 72 = some (.aload_n 0, 1, 0, 0, 0) := by decide +kernel
theorem s_70_72 {x1 x2 : Option Value} {w : Value} : mw d 70 Q 72 [some w, x1, x2] (st) h = mv_a w (mw d 70 Q 73 [some w, x1, x2] (w :: st) h) := (mw_at mj_70_72).trans (z_aload_n rfl)
theorem mj_70_73 : mc_P 70 73 = some (.sipush 162, 3, 0, 0, 0) := by decide +kernel
theorem s_70_73 {x0 x1 x2 : Option Value} : mw d 70 Q 73 [x0, x1, x2] (st) h = mw d 70 Q 76 [x0, x1, x2] (.int 162 :: st) h := (mw_at mj_70_73).trans (z_sipush (by decide))
theorem mj_70_76 : mc_P 70 76 = some (.iload_n 2, 1, 0, 0, 0) := by decide +kernel
theorem s_70_76 {x0 x1 : Option Value} {w : Value} : mw d 70 Q 76 [x0, x1, some w] (st) h = mv_i w (mw d 70 Q 77 [x0, x1, some w] (w :: st) h) := (mw_at mj_70_76).trans (z_iload_n rfl)
theorem mj_70_77 : mc_P 70 77 = some (.invokevirtual 89, 3, 46, 3, 3) := by decide +kernel
theorem s_70_77 {x0 x1 x2 : Option Value} {o : Nat} {a1 a2 : Value} : mw (d + 1) 70 Q 77 [x0, x1, x2] (a2 :: a1 :: .ref o :: st) h = (mg h o 3 ∧ mca st 8 ∧ mca [.ref o, a1, a2] 3 ∧ mcall d 46 [.ref o, a1, a2] h (mK (d + 1) 70 Q 80 [x0, x1, x2] st)) := (mw_at mj_70_77).trans ((z_invv (As := [a1, a2]) (by decide) rfl rfl).trans (congrArg (And _) (congrArg (And _) (mC_nl nl_46))))
theorem mj_70_80 : mc_P 70 80 = some (.goto 272, 3, 0, 0, 0) := by decide +kernel
theorem s_70_80 {x0 x1 x2 : Option Value} : mw d 70 Q 80 [x0, x1, x2] (st) h = mw d 70 Q 352 [x0, x1, x2] (st) h := (mw_at mj_70_80).trans (z_goto (by decide))
theorem mj_70_83 : mc_P 70 83 = some (.aload_n 0, 1, 0, 0, 0) := by decide +kernel
theorem s_70_83 {x1 x2 : Option Value} {w : Value} : mw d 70 Q 83 [some w, x1, x2] (st) h = mv_a w (mw d 70 Q 84 [some w, x1, x2] (w :: st) h) := (mw_at mj_70_83).trans (z_aload_n rfl)
theorem mj_70_84 : mc_P 70 84 = some (.invokevirtual 152, 3, 52, 3, 1) := by decide +kernel
theorem s_70_84 {x0 x1 x2 : Option Value} {o : Nat} : mw (d + 1) 70 Q 84 [x0, x1, x2] (.ref o :: st) h = (mg h o 3 ∧ mca st 8 ∧ mca [.ref o] 1 ∧ mcall d 52 [.ref o] h (mK (d + 1) 70 Q 87 [x0, x1, x2] st)) := (mw_at mj_70_84).trans ((z_invv (As := []) (by decide) rfl rfl).trans (congrArg (And _) (congrArg (And _) (mC_nl nl_52))))
theorem mj_70_87 : mc_P 70 87 = some (.ifCond .eq 265, 3, 0, 0, 0) := by decide +kernel
theorem s_70_87 {x0 x1 x2 : Option Value} {x : Int32} : mw d 70 Q 87 [x0, x1, x2] (.int x :: st) h = mB (x = 0) (mw d 70 Q) 352 90 [x0, x1, x2] st h := (mw_at mj_70_87).trans (z_if_eq (by decide) rfl)
theorem mj_70_90 : mc_P 70 90 = some (.aload_n 0, 1, 0, 0, 0) := by decide +kernel
theorem s_70_90 {x1 x2 : Option Value} {w : Value} : mw d 70 Q 90 [some w, x1, x2] (st) h = mv_a w (mw d 70 Q 91 [some w, x1, x2] (w :: st) h) := (mw_at mj_70_90).trans (z_aload_n rfl)
theorem mj_70_91 : mc_P 70 91 = some (.sipush 170, 3, 0, 0, 0) := by decide +kernel
theorem s_70_91 {x0 x1 x2 : Option Value} : mw d 70 Q 91 [x0, x1, x2] (st) h = mw d 70 Q 94 [x0, x1, x2] (.int 170 :: st) h := (mw_at mj_70_91).trans (z_sipush (by decide))
theorem mj_70_94 : mc_P 70 94 = some (.invokevirtual 51, 3, 45, 3, 2) := by decide +kernel
theorem s_70_94 {x0 x1 x2 : Option Value} {o : Nat} {a1 : Value} : mw (d + 1) 70 Q 94 [x0, x1, x2] (a1 :: .ref o :: st) h = (mg h o 3 ∧ mca st 8 ∧ mca [.ref o, a1] 2 ∧ mcall d 45 [.ref o, a1] h (mK (d + 1) 70 Q 97 [x0, x1, x2] st)) := (mw_at mj_70_94).trans ((z_invv (As := [a1]) (by decide) rfl rfl).trans (congrArg (And _) (congrArg (And _) (mC_nl nl_45))))
theorem mj_70_97 : mc_P 70 97 = some (.aload_n 0, 1, 0, 0, 0) := by decide +kernel
theorem s_70_97 {x1 x2 : Option Value} {w : Value} : mw d 70 Q 97 [some w, x1, x2] (st) h = mv_a w (mw d 70 Q 98 [some w, x1, x2] (w :: st) h) := (mw_at mj_70_97).trans (z_aload_n rfl)
theorem mj_70_98 : mc_P 70 98 = some (.sipush 163, 3, 0, 0, 0) := by decide +kernel
theorem s_70_98 {x0 x1 x2 : Option Value} : mw d 70 Q 98 [x0, x1, x2] (st) h = mw d 70 Q 101 [x0, x1, x2] (.int 163 :: st) h := (mw_at mj_70_98).trans (z_sipush (by decide))
theorem mj_70_101 : mc_P 70 101 = some (.iload_n 2, 1, 0, 0, 0) := by decide +kernel
theorem s_70_101 {x0 x1 : Option Value} {w : Value} : mw d 70 Q 101 [x0, x1, some w] (st) h = mv_i w (mw d 70 Q 102 [x0, x1, some w] (w :: st) h) := (mw_at mj_70_101).trans (z_iload_n rfl)
theorem mj_70_102 : mc_P 70 102 = some (.invokevirtual 89, 3, 46, 3, 3) := by decide +kernel
theorem s_70_102 {x0 x1 x2 : Option Value} {o : Nat} {a1 a2 : Value} : mw (d + 1) 70 Q 102 [x0, x1, x2] (a2 :: a1 :: .ref o :: st) h = (mg h o 3 ∧ mca st 8 ∧ mca [.ref o, a1, a2] 3 ∧ mcall d 46 [.ref o, a1, a2] h (mK (d + 1) 70 Q 105 [x0, x1, x2] st)) := (mw_at mj_70_102).trans ((z_invv (As := [a1, a2]) (by decide) rfl rfl).trans (congrArg (And _) (congrArg (And _) (mC_nl nl_46))))
theorem mj_70_105 : mc_P 70 105 = some (.aload_n 0, 1, 0, 0, 0) := by decide +kernel
theorem s_70_105 {x1 x2 : Option Value} {w : Value} : mw d 70 Q 105 [some w, x1, x2] (st) h = mv_a w (mw d 70 Q 106 [some w, x1, x2] (w :: st) h) := (mw_at mj_70_105).trans (z_aload_n rfl)
theorem mj_70_106 : mc_P 70 106 = some (.sipush 164, 3, 0, 0, 0) := by decide +kernel
theorem s_70_106 {x0 x1 x2 : Option Value} : mw d 70 Q 106 [x0, x1, x2] (st) h = mw d 70 Q 109 [x0, x1, x2] (.int 164 :: st) h := (mw_at mj_70_106).trans (z_sipush (by decide))
theorem mj_70_109 : mc_P 70 109 = some (.iload_n 2, 1, 0, 0, 0) := by decide +kernel
theorem s_70_109 {x0 x1 : Option Value} {w : Value} : mw d 70 Q 109 [x0, x1, some w] (st) h = mv_i w (mw d 70 Q 110 [x0, x1, some w] (w :: st) h) := (mw_at mj_70_109).trans (z_iload_n rfl)
theorem mj_70_110 : mc_P 70 110 = some (.invokevirtual 89, 3, 46, 3, 3) := by decide +kernel
theorem s_70_110 {x0 x1 x2 : Option Value} {o : Nat} {a1 a2 : Value} : mw (d + 1) 70 Q 110 [x0, x1, x2] (a2 :: a1 :: .ref o :: st) h = (mg h o 3 ∧ mca st 8 ∧ mca [.ref o, a1, a2] 3 ∧ mcall d 46 [.ref o, a1, a2] h (mK (d + 1) 70 Q 113 [x0, x1, x2] st)) := (mw_at mj_70_110).trans ((z_invv (As := [a1, a2]) (by decide) rfl rfl).trans (congrArg (And _) (congrArg (And _) (mC_nl nl_46))))
theorem mj_70_113 : mc_P 70 113 = some (.goto 239, 3, 0, 0, 0) := by decide +kernel
theorem s_70_113 {x0 x1 x2 : Option Value} : mw d 70 Q 113 [x0, x1, x2] (st) h = mw d 70 Q 352 [x0, x1, x2] (st) h := (mw_at mj_70_113).trans (z_goto (by decide))
theorem mj_70_116 : mc_P 70 116 = some (.aload_n 0, 1, 0, 0, 0) := by decide +kernel
theorem s_70_116 {x1 x2 : Option Value} {w : Value} : mw d 70 Q 116 [some w, x1, x2] (st) h = mv_a w (mw d 70 Q 117 [some w, x1, x2] (w :: st) h) := (mw_at mj_70_116).trans (z_aload_n rfl)
theorem mj_70_117 : mc_P 70 117 = some (.invokevirtual 108, 3, 47, 3, 1) := by decide +kernel
theorem s_70_117 {x0 x1 x2 : Option Value} {o : Nat} : mw (d + 1) 70 Q 117 [x0, x1, x2] (.ref o :: st) h = (mg h o 3 ∧ mca st 8 ∧ mca [.ref o] 1 ∧ mcall d 47 [.ref o] h (mK (d + 1) 70 Q 120 [x0, x1, x2] st)) := (mw_at mj_70_117).trans ((z_invv (As := []) (by decide) rfl rfl).trans (congrArg (And _) (congrArg (And _) (mC_nl nl_47))))
theorem mj_70_120 : mc_P 70 120 = some (.bipush 43, 2, 0, 0, 0) := by decide +kernel
theorem s_70_120 {x0 x1 x2 : Option Value} : mw d 70 Q 120 [x0, x1, x2] (st) h = mw d 70 Q 122 [x0, x1, x2] (.int 43 :: st) h := (mw_at mj_70_120).trans (z_bipush (by decide))
theorem mj_70_122 : mc_P 70 122 = some (.if_icmp .eq 12, 3, 0, 0, 0) := by decide +kernel
theorem s_70_122 {x0 x1 x2 : Option Value} {x w : Int32} : mw d 70 Q 122 [x0, x1, x2] (.int w :: .int x :: st) h = mB (x = w) (mw d 70 Q) 134 125 [x0, x1, x2] st h := (mw_at mj_70_122).trans (z_icmp_eq (by decide) rfl)
theorem mj_70_125 : mc_P 70 125 = some (.aload_n 0, 1, 0, 0, 0) := by decide +kernel
theorem s_70_125 {x1 x2 : Option Value} {w : Value} : mw d 70 Q 125 [some w, x1, x2] (st) h = mv_a w (mw d 70 Q 126 [some w, x1, x2] (w :: st) h) := (mw_at mj_70_125).trans (z_aload_n rfl)
theorem mj_70_126 : mc_P 70 126 = some (.invokevirtual 108, 3, 47, 3, 1) := by decide +kernel
theorem s_70_126 {x0 x1 x2 : Option Value} {o : Nat} : mw (d + 1) 70 Q 126 [x0, x1, x2] (.ref o :: st) h = (mg h o 3 ∧ mca st 8 ∧ mca [.ref o] 1 ∧ mcall d 47 [.ref o] h (mK (d + 1) 70 Q 129 [x0, x1, x2] st)) := (mw_at mj_70_126).trans ((z_invv (As := []) (by decide) rfl rfl).trans (congrArg (And _) (congrArg (And _) (mC_nl nl_47))))
theorem mj_70_129 : mc_P 70 129 = some (.bipush 45, 2, 0, 0, 0) := by decide +kernel
theorem s_70_129 {x0 x1 x2 : Option Value} : mw d 70 Q 129 [x0, x1, x2] (st) h = mw d 70 Q 131 [x0, x1, x2] (.int 45 :: st) h := (mw_at mj_70_129).trans (z_bipush (by decide))
theorem mj_70_131 : mc_P 70 131 = some (.if_icmp .ne 221, 3, 0, 0, 0) := by decide +kernel
theorem s_70_131 {x0 x1 x2 : Option Value} {x w : Int32} : mw d 70 Q 131 [x0, x1, x2] (.int w :: .int x :: st) h = mB (¬ x = w) (mw d 70 Q) 352 134 [x0, x1, x2] st h := (mw_at mj_70_131).trans (z_icmp_ne (by decide) rfl)
theorem mj_70_134 : mc_P 70 134 = some (.aload_n 0, 1, 0, 0, 0) := by decide +kernel
theorem s_70_134 {x1 x2 : Option Value} {w : Value} : mw d 70 Q 134 [some w, x1, x2] (st) h = mv_a w (mw d 70 Q 135 [some w, x1, x2] (w :: st) h) := (mw_at mj_70_134).trans (z_aload_n rfl)
theorem mj_70_135 : mc_P 70 135 = some (.sipush 163, 3, 0, 0, 0) := by decide +kernel
theorem s_70_135 {x0 x1 x2 : Option Value} : mw d 70 Q 135 [x0, x1, x2] (st) h = mw d 70 Q 138 [x0, x1, x2] (.int 163 :: st) h := (mw_at mj_70_135).trans (z_sipush (by decide))
theorem mj_70_138 : mc_P 70 138 = some (.iload_n 2, 1, 0, 0, 0) := by decide +kernel
theorem s_70_138 {x0 x1 : Option Value} {w : Value} : mw d 70 Q 138 [x0, x1, some w] (st) h = mv_i w (mw d 70 Q 139 [x0, x1, some w] (w :: st) h) := (mw_at mj_70_138).trans (z_iload_n rfl)
theorem mj_70_139 : mc_P 70 139 = some (.invokevirtual 89, 3, 46, 3, 3) := by decide +kernel
theorem s_70_139 {x0 x1 x2 : Option Value} {o : Nat} {a1 a2 : Value} : mw (d + 1) 70 Q 139 [x0, x1, x2] (a2 :: a1 :: .ref o :: st) h = (mg h o 3 ∧ mca st 8 ∧ mca [.ref o, a1, a2] 3 ∧ mcall d 46 [.ref o, a1, a2] h (mK (d + 1) 70 Q 142 [x0, x1, x2] st)) := (mw_at mj_70_139).trans ((z_invv (As := [a1, a2]) (by decide) rfl rfl).trans (congrArg (And _) (congrArg (And _) (mC_nl nl_46))))
theorem mj_70_142 : mc_P 70 142 = some (.aload_n 0, 1, 0, 0, 0) := by decide +kernel
theorem s_70_142 {x1 x2 : Option Value} {w : Value} : mw d 70 Q 142 [some w, x1, x2] (st) h = mv_a w (mw d 70 Q 143 [some w, x1, x2] (w :: st) h) := (mw_at mj_70_142).trans (z_aload_n rfl)
theorem mj_70_143 : mc_P 70 143 = some (.sipush 167, 3, 0, 0, 0) := by decide +kernel
theorem s_70_143 {x0 x1 x2 : Option Value} : mw d 70 Q 143 [x0, x1, x2] (st) h = mw d 70 Q 146 [x0, x1, x2] (.int 167 :: st) h := (mw_at mj_70_143).trans (z_sipush (by decide))
theorem mj_70_146 : mc_P 70 146 = some (.aload_n 0, 1, 0, 0, 0) := by decide +kernel
theorem s_70_146 {x1 x2 : Option Value} {w : Value} : mw d 70 Q 146 [some w, x1, x2] (st) h = mv_a w (mw d 70 Q 147 [some w, x1, x2] (w :: st) h) := (mw_at mj_70_146).trans (z_aload_n rfl)
theorem mj_70_147 : mc_P 70 147 = some (.invokevirtual 108, 3, 47, 3, 1) := by decide +kernel
theorem s_70_147 {x0 x1 x2 : Option Value} {o : Nat} : mw (d + 1) 70 Q 147 [x0, x1, x2] (.ref o :: st) h = (mg h o 3 ∧ mca st 8 ∧ mca [.ref o] 1 ∧ mcall d 47 [.ref o] h (mK (d + 1) 70 Q 150 [x0, x1, x2] st)) := (mw_at mj_70_147).trans ((z_invv (As := []) (by decide) rfl rfl).trans (congrArg (And _) (congrArg (And _) (mC_nl nl_47))))
theorem mj_70_150 : mc_P 70 150 = some (.invokevirtual 89, 3, 46, 3, 3) := by decide +kernel
theorem s_70_150 {x0 x1 x2 : Option Value} {o : Nat} {a1 a2 : Value} : mw (d + 1) 70 Q 150 [x0, x1, x2] (a2 :: a1 :: .ref o :: st) h = (mg h o 3 ∧ mca st 8 ∧ mca [.ref o, a1, a2] 3 ∧ mcall d 46 [.ref o, a1, a2] h (mK (d + 1) 70 Q 153 [x0, x1, x2] st)) := (mw_at mj_70_150).trans ((z_invv (As := [a1, a2]) (by decide) rfl rfl).trans (congrArg (And _) (congrArg (And _) (mC_nl nl_46))))
theorem mj_70_153 : mc_P 70 153 = some (.aload_n 0, 1, 0, 0, 0) := by decide +kernel
theorem s_70_153 {x1 x2 : Option Value} {w : Value} : mw d 70 Q 153 [some w, x1, x2] (st) h = mv_a w (mw d 70 Q 154 [some w, x1, x2] (w :: st) h) := (mw_at mj_70_153).trans (z_aload_n rfl)
theorem mj_70_154 : mc_P 70 154 = some (.sipush 164, 3, 0, 0, 0) := by decide +kernel
theorem s_70_154 {x0 x1 x2 : Option Value} : mw d 70 Q 154 [x0, x1, x2] (st) h = mw d 70 Q 157 [x0, x1, x2] (.int 164 :: st) h := (mw_at mj_70_154).trans (z_sipush (by decide))
theorem mj_70_157 : mc_P 70 157 = some (.aload_n 0, 1, 0, 0, 0) := by decide +kernel
theorem s_70_157 {x1 x2 : Option Value} {w : Value} : mw d 70 Q 157 [some w, x1, x2] (st) h = mv_a w (mw d 70 Q 158 [some w, x1, x2] (w :: st) h) := (mw_at mj_70_157).trans (z_aload_n rfl)
theorem mj_70_158 : mc_P 70 158 = some (.invokevirtual 108, 3, 47, 3, 1) := by decide +kernel
theorem s_70_158 {x0 x1 x2 : Option Value} {o : Nat} : mw (d + 1) 70 Q 158 [x0, x1, x2] (.ref o :: st) h = (mg h o 3 ∧ mca st 8 ∧ mca [.ref o] 1 ∧ mcall d 47 [.ref o] h (mK (d + 1) 70 Q 161 [x0, x1, x2] st)) := (mw_at mj_70_158).trans ((z_invv (As := []) (by decide) rfl rfl).trans (congrArg (And _) (congrArg (And _) (mC_nl nl_47))))
theorem mj_70_161 : mc_P 70 161 = some (.bipush 43, 2, 0, 0, 0) := by decide +kernel
theorem s_70_161 {x0 x1 x2 : Option Value} : mw d 70 Q 161 [x0, x1, x2] (st) h = mw d 70 Q 163 [x0, x1, x2] (.int 43 :: st) h := (mw_at mj_70_161).trans (z_bipush (by decide))
theorem mj_70_163 : mc_P 70 163 = some (.if_icmp .ne 7, 3, 0, 0, 0) := by decide +kernel
theorem s_70_163 {x0 x1 x2 : Option Value} {x w : Int32} : mw d 70 Q 163 [x0, x1, x2] (.int w :: .int x :: st) h = mB (¬ x = w) (mw d 70 Q) 170 166 [x0, x1, x2] st h := (mw_at mj_70_163).trans (z_icmp_ne (by decide) rfl)
theorem mj_70_166 : mc_P 70 166 = some (.iload_n 2, 1, 0, 0, 0) := by decide +kernel
theorem s_70_166 {x0 x1 : Option Value} {w : Value} : mw d 70 Q 166 [x0, x1, some w] (st) h = mv_i w (mw d 70 Q 167 [x0, x1, some w] (w :: st) h) := (mw_at mj_70_166).trans (z_iload_n rfl)
theorem mj_70_167 : mc_P 70 167 = some (.goto 6, 3, 0, 0, 0) := by decide +kernel
theorem s_70_167 {x0 x1 x2 : Option Value} : mw d 70 Q 167 [x0, x1, x2] (st) h = mw d 70 Q 173 [x0, x1, x2] (st) h := (mw_at mj_70_167).trans (z_goto (by decide))
theorem mj_70_170 : mc_P 70 170 = some (.iconst 1, 1, 0, 0, 0) := by decide +kernel
theorem s_70_170 {x0 x1 x2 : Option Value} : mw d 70 Q 170 [x0, x1, x2] (st) h = mw d 70 Q 171 [x0, x1, x2] (.int 1 :: st) h := (mw_at mj_70_170).trans (z_iconst (by decide))
theorem mj_70_171 : mc_P 70 171 = some (.iload_n 2, 1, 0, 0, 0) := by decide +kernel
theorem s_70_171 {x0 x1 : Option Value} {w : Value} : mw d 70 Q 171 [x0, x1, some w] (st) h = mv_i w (mw d 70 Q 172 [x0, x1, some w] (w :: st) h) := (mw_at mj_70_171).trans (z_iload_n rfl)
theorem mj_70_172 : mc_P 70 172 = some (.isub, 1, 0, 0, 0) := by decide +kernel
theorem s_70_172 {x0 x1 x2 : Option Value} {x w : Int32} : mw d 70 Q 172 [x0, x1, x2] (.int w :: .int x :: st) h = mw d 70 Q 173 [x0, x1, x2] (.int (x - w) :: st) h := (mw_at mj_70_172).trans (z_isub)
theorem mj_70_173 : mc_P 70 173 = some (.invokevirtual 89, 3, 46, 3, 3) := by decide +kernel
theorem s_70_173 {x0 x1 x2 : Option Value} {o : Nat} {a1 a2 : Value} : mw (d + 1) 70 Q 173 [x0, x1, x2] (a2 :: a1 :: .ref o :: st) h = (mg h o 3 ∧ mca st 8 ∧ mca [.ref o, a1, a2] 3 ∧ mcall d 46 [.ref o, a1, a2] h (mK (d + 1) 70 Q 176 [x0, x1, x2] st)) := (mw_at mj_70_173).trans ((z_invv (As := [a1, a2]) (by decide) rfl rfl).trans (congrArg (And _) (congrArg (And _) (mC_nl nl_46))))
theorem mj_70_176 : mc_P 70 176 = some (.aload_n 0, 1, 0, 0, 0) := by decide +kernel
theorem s_70_176 {x1 x2 : Option Value} {w : Value} : mw d 70 Q 176 [some w, x1, x2] (st) h = mv_a w (mw d 70 Q 177 [some w, x1, x2] (w :: st) h) := (mw_at mj_70_176).trans (z_aload_n rfl)
theorem mj_70_177 : mc_P 70 177 = some (.dup, 1, 0, 0, 0) := by decide +kernel
theorem s_70_177 {x0 x1 x2 : Option Value} {w : Value} : mw d 70 Q 177 [x0, x1, x2] (w :: st) h = (w.category = 1 ∧ mw d 70 Q 178 [x0, x1, x2] (w :: w :: st) h) := (mw_at mj_70_177).trans (z_dup)
theorem mj_70_178 : mc_P 70 178 = some (.getfield 95, 3, 3, 5, 0) := by decide +kernel
theorem s_70_178 {x0 x1 x2 : Option Value} {o : Nat} : mw d 70 Q 178 [x0, x1, x2] (.ref o :: st) h = (mg h o 3 ∧ mw d 70 Q 181 [x0, x1, x2] (.int (mh_i h o 5) :: st) h) := (mw_at mj_70_178).trans (z_geti (by decide) (by decide) (Or.inl rfl))
theorem mj_70_181 : mc_P 70 181 = some (.iconst 1, 1, 0, 0, 0) := by decide +kernel
theorem s_70_181 {x0 x1 x2 : Option Value} : mw d 70 Q 181 [x0, x1, x2] (st) h = mw d 70 Q 182 [x0, x1, x2] (.int 1 :: st) h := (mw_at mj_70_181).trans (z_iconst (by decide))
theorem mj_70_182 : mc_P 70 182 = some (.iadd, 1, 0, 0, 0) := by decide +kernel
theorem s_70_182 {x0 x1 x2 : Option Value} {x w : Int32} : mw d 70 Q 182 [x0, x1, x2] (.int w :: .int x :: st) h = mw d 70 Q 183 [x0, x1, x2] (.int (x + w) :: st) h := (mw_at mj_70_182).trans (z_iadd)
theorem mj_70_183 : mc_P 70 183 = some (.putfield 95, 3, 3, 5, 0) := by decide +kernel
theorem s_70_183 {x0 x1 x2 : Option Value} {o : Nat} {w : Int32} : mw d 70 Q 183 [x0, x1, x2] (.int w :: .ref o :: st) h = (mg h o 3 ∧ mw d 70 Q 186 [x0, x1, x2] (st) (mh_si h o 5 w)) := (mw_at mj_70_183).trans (z_puti (by decide) (by decide) rfl)
theorem mj_70_186 : mc_P 70 186 = some (.goto 166, 3, 0, 0, 0) := by decide +kernel
theorem s_70_186 {x0 x1 x2 : Option Value} : mw d 70 Q 186 [x0, x1, x2] (st) h = mw d 70 Q 352 [x0, x1, x2] (st) h := (mw_at mj_70_186).trans (z_goto (by decide))
theorem mj_70_189 : mc_P 70 189 = some (.aload_n 0, 1, 0, 0, 0) := by decide +kernel
theorem s_70_189 {x1 x2 : Option Value} {w : Value} : mw d 70 Q 189 [some w, x1, x2] (st) h = mv_a w (mw d 70 Q 190 [some w, x1, x2] (w :: st) h) := (mw_at mj_70_189).trans (z_aload_n rfl)
theorem mj_70_190 : mc_P 70 190 = some (.sipush 165, 3, 0, 0, 0) := by decide +kernel
theorem s_70_190 {x0 x1 x2 : Option Value} : mw d 70 Q 190 [x0, x1, x2] (st) h = mw d 70 Q 193 [x0, x1, x2] (.int 165 :: st) h := (mw_at mj_70_190).trans (z_sipush (by decide))
theorem mj_70_193 : mc_P 70 193 = some (.iconst 2, 1, 0, 0, 0) := by decide +kernel
theorem s_70_193 {x0 x1 x2 : Option Value} : mw d 70 Q 193 [x0, x1, x2] (st) h = mw d 70 Q 194 [x0, x1, x2] (.int 2 :: st) h := (mw_at mj_70_193).trans (z_iconst (by decide))
theorem mj_70_194 : mc_P 70 194 = some (.aload_n 0, 1, 0, 0, 0) := by decide +kernel
theorem s_70_194 {x1 x2 : Option Value} {w : Value} : mw d 70 Q 194 [some w, x1, x2] (st) h = mv_a w (mw d 70 Q 195 [some w, x1, x2] (w :: st) h) := (mw_at mj_70_194).trans (z_aload_n rfl)
theorem mj_70_195 : mc_P 70 195 = some (.getfield 23, 3, 3, 1, 0) := by decide +kernel
theorem s_70_195 {x0 x1 x2 : Option Value} {o : Nat} : mw d 70 Q 195 [x0, x1, x2] (.ref o :: st) h = (mg h o 3 ∧ mw d 70 Q 198 [x0, x1, x2] (va_rf (mh_r h o 1) :: st) h) := (mw_at mj_70_195).trans (z_getr (by decide) (by decide) rfl)
theorem mj_70_198 : mc_P 70 198 = some (.getfield 294, 3, 7, 5, 0) := by decide +kernel
theorem s_70_198 {x0 x1 x2 : Option Value} {o : Nat} : mw d 70 Q 198 [x0, x1, x2] (.ref o :: st) h = (mg h o 7 ∧ mw d 70 Q 201 [x0, x1, x2] (.int (mh_i h o 5) :: st) h) := (mw_at mj_70_198).trans (z_geti (by decide) (by decide) (Or.inl rfl))
theorem mj_70_201 : mc_P 70 201 = some (.imul, 1, 0, 0, 0) := by decide +kernel
theorem s_70_201 {x0 x1 x2 : Option Value} {x w : Int32} : mw d 70 Q 201 [x0, x1, x2] (.int w :: .int x :: st) h = mw d 70 Q 202 [x0, x1, x2] (.int (x * w) :: st) h := (mw_at mj_70_201).trans (z_imul)
theorem mj_70_202 : mc_P 70 202 = some (.iload_n 2, 1, 0, 0, 0) := by decide +kernel
theorem s_70_202 {x0 x1 : Option Value} {w : Value} : mw d 70 Q 202 [x0, x1, some w] (st) h = mv_i w (mw d 70 Q 203 [x0, x1, some w] (w :: st) h) := (mw_at mj_70_202).trans (z_iload_n rfl)
theorem mj_70_203 : mc_P 70 203 = some (.iadd, 1, 0, 0, 0) := by decide +kernel
theorem s_70_203 {x0 x1 x2 : Option Value} {x w : Int32} : mw d 70 Q 203 [x0, x1, x2] (.int w :: .int x :: st) h = mw d 70 Q 204 [x0, x1, x2] (.int (x + w) :: st) h := (mw_at mj_70_203).trans (z_iadd)
theorem mj_70_204 : mc_P 70 204 = some (.invokevirtual 89, 3, 46, 3, 3) := by decide +kernel
theorem s_70_204 {x0 x1 x2 : Option Value} {o : Nat} {a1 a2 : Value} : mw (d + 1) 70 Q 204 [x0, x1, x2] (a2 :: a1 :: .ref o :: st) h = (mg h o 3 ∧ mca st 8 ∧ mca [.ref o, a1, a2] 3 ∧ mcall d 46 [.ref o, a1, a2] h (mK (d + 1) 70 Q 207 [x0, x1, x2] st)) := (mw_at mj_70_204).trans ((z_invv (As := [a1, a2]) (by decide) rfl rfl).trans (congrArg (And _) (congrArg (And _) (mC_nl nl_46))))
theorem mj_70_207 : mc_P 70 207 = some (.aload_n 0, 1, 0, 0, 0) := by decide +kernel
theorem s_70_207 {x1 x2 : Option Value} {w : Value} : mw d 70 Q 207 [some w, x1, x2] (st) h = mv_a w (mw d 70 Q 208 [some w, x1, x2] (w :: st) h) := (mw_at mj_70_207).trans (z_aload_n rfl)
theorem mj_70_208 : mc_P 70 208 = some (.sipush 166, 3, 0, 0, 0) := by decide +kernel
theorem s_70_208 {x0 x1 x2 : Option Value} : mw d 70 Q 208 [x0, x1, x2] (st) h = mw d 70 Q 211 [x0, x1, x2] (.int 166 :: st) h := (mw_at mj_70_208).trans (z_sipush (by decide))
theorem mj_70_211 : mc_P 70 211 = some (.iload_n 2, 1, 0, 0, 0) := by decide +kernel
theorem s_70_211 {x0 x1 : Option Value} {w : Value} : mw d 70 Q 211 [x0, x1, some w] (st) h = mv_i w (mw d 70 Q 212 [x0, x1, some w] (w :: st) h) := (mw_at mj_70_211).trans (z_iload_n rfl)
theorem mj_70_212 : mc_P 70 212 = some (.invokevirtual 89, 3, 46, 3, 3) := by decide +kernel
theorem s_70_212 {x0 x1 x2 : Option Value} {o : Nat} {a1 a2 : Value} : mw (d + 1) 70 Q 212 [x0, x1, x2] (a2 :: a1 :: .ref o :: st) h = (mg h o 3 ∧ mca st 8 ∧ mca [.ref o, a1, a2] 3 ∧ mcall d 46 [.ref o, a1, a2] h (mK (d + 1) 70 Q 215 [x0, x1, x2] st)) := (mw_at mj_70_212).trans ((z_invv (As := [a1, a2]) (by decide) rfl rfl).trans (congrArg (And _) (congrArg (And _) (mC_nl nl_46))))
theorem mj_70_215 : mc_P 70 215 = some (.goto 137, 3, 0, 0, 0) := by decide +kernel
theorem s_70_215 {x0 x1 x2 : Option Value} : mw d 70 Q 215 [x0, x1, x2] (st) h = mw d 70 Q 352 [x0, x1, x2] (st) h := (mw_at mj_70_215).trans (z_goto (by decide))
theorem mj_70_218 : mc_P 70 218 = some (.aload_n 0, 1, 0, 0, 0) := by decide +kernel
theorem s_70_218 {x1 x2 : Option Value} {w : Value} : mw d 70 Q 218 [some w, x1, x2] (st) h = mv_a w (mw d 70 Q 219 [some w, x1, x2] (w :: st) h) := (mw_at mj_70_218).trans (z_aload_n rfl)
theorem mj_70_219 : mc_P 70 219 = some (.invokevirtual 108, 3, 47, 3, 1) := by decide +kernel
theorem s_70_219 {x0 x1 x2 : Option Value} {o : Nat} : mw (d + 1) 70 Q 219 [x0, x1, x2] (.ref o :: st) h = (mg h o 3 ∧ mca st 8 ∧ mca [.ref o] 1 ∧ mcall d 47 [.ref o] h (mK (d + 1) 70 Q 222 [x0, x1, x2] st)) := (mw_at mj_70_219).trans ((z_invv (As := []) (by decide) rfl rfl).trans (congrArg (And _) (congrArg (And _) (mC_nl nl_47))))
theorem mj_70_222 : mc_P 70 222 = some (.bipush 42, 2, 0, 0, 0) := by decide +kernel
theorem s_70_222 {x0 x1 x2 : Option Value} : mw d 70 Q 222 [x0, x1, x2] (st) h = mw d 70 Q 224 [x0, x1, x2] (.int 42 :: st) h := (mw_at mj_70_222).trans (z_bipush (by decide))
theorem mj_70_224 : mc_P 70 224 = some (.if_icmp .eq 21, 3, 0, 0, 0) := by decide +kernel
theorem s_70_224 {x0 x1 x2 : Option Value} {x w : Int32} : mw d 70 Q 224 [x0, x1, x2] (.int w :: .int x :: st) h = mB (x = w) (mw d 70 Q) 245 227 [x0, x1, x2] st h := (mw_at mj_70_224).trans (z_icmp_eq (by decide) rfl)
theorem mj_70_227 : mc_P 70 227 = some (.aload_n 0, 1, 0, 0, 0) := by decide +kernel
theorem s_70_227 {x1 x2 : Option Value} {w : Value} : mw d 70 Q 227 [some w, x1, x2] (st) h = mv_a w (mw d 70 Q 228 [some w, x1, x2] (w :: st) h) := (mw_at mj_70_227).trans (z_aload_n rfl)
theorem mj_70_228 : mc_P 70 228 = some (.invokevirtual 108, 3, 47, 3, 1) := by decide +kernel
theorem s_70_228 {x0 x1 x2 : Option Value} {o : Nat} : mw (d + 1) 70 Q 228 [x0, x1, x2] (.ref o :: st) h = (mg h o 3 ∧ mca st 8 ∧ mca [.ref o] 1 ∧ mcall d 47 [.ref o] h (mK (d + 1) 70 Q 231 [x0, x1, x2] st)) := (mw_at mj_70_228).trans ((z_invv (As := []) (by decide) rfl rfl).trans (congrArg (And _) (congrArg (And _) (mC_nl nl_47))))
theorem mj_70_231 : mc_P 70 231 = some (.bipush 47, 2, 0, 0, 0) := by decide +kernel
theorem s_70_231 {x0 x1 x2 : Option Value} : mw d 70 Q 231 [x0, x1, x2] (st) h = mw d 70 Q 233 [x0, x1, x2] (.int 47 :: st) h := (mw_at mj_70_231).trans (z_bipush (by decide))
theorem mj_70_233 : mc_P 70 233 = some (.if_icmp .eq 12, 3, 0, 0, 0) := by decide +kernel
theorem s_70_233 {x0 x1 x2 : Option Value} {x w : Int32} : mw d 70 Q 233 [x0, x1, x2] (.int w :: .int x :: st) h = mB (x = w) (mw d 70 Q) 245 236 [x0, x1, x2] st h := (mw_at mj_70_233).trans (z_icmp_eq (by decide) rfl)
theorem mj_70_236 : mc_P 70 236 = some (.aload_n 0, 1, 0, 0, 0) := by decide +kernel
theorem s_70_236 {x1 x2 : Option Value} {w : Value} : mw d 70 Q 236 [some w, x1, x2] (st) h = mv_a w (mw d 70 Q 237 [some w, x1, x2] (w :: st) h) := (mw_at mj_70_236).trans (z_aload_n rfl)
theorem mj_70_237 : mc_P 70 237 = some (.invokevirtual 108, 3, 47, 3, 1) := by decide +kernel
theorem s_70_237 {x0 x1 x2 : Option Value} {o : Nat} : mw (d + 1) 70 Q 237 [x0, x1, x2] (.ref o :: st) h = (mg h o 3 ∧ mca st 8 ∧ mca [.ref o] 1 ∧ mcall d 47 [.ref o] h (mK (d + 1) 70 Q 240 [x0, x1, x2] st)) := (mw_at mj_70_237).trans ((z_invv (As := []) (by decide) rfl rfl).trans (congrArg (And _) (congrArg (And _) (mC_nl nl_47))))
theorem mj_70_240 : mc_P 70 240 = some (.bipush 37, 2, 0, 0, 0) := by decide +kernel
theorem s_70_240 {x0 x1 x2 : Option Value} : mw d 70 Q 240 [x0, x1, x2] (st) h = mw d 70 Q 242 [x0, x1, x2] (.int 37 :: st) h := (mw_at mj_70_240).trans (z_bipush (by decide))
theorem mj_70_242 : mc_P 70 242 = some (.if_icmp .ne 110, 3, 0, 0, 0) := by decide +kernel
theorem s_70_242 {x0 x1 x2 : Option Value} {x w : Int32} : mw d 70 Q 242 [x0, x1, x2] (.int w :: .int x :: st) h = mB (¬ x = w) (mw d 70 Q) 352 245 [x0, x1, x2] st h := (mw_at mj_70_242).trans (z_icmp_ne (by decide) rfl)
theorem mj_70_245 : mc_P 70 245 = some (.aload_n 0, 1, 0, 0, 0) := by decide +kernel
theorem s_70_245 {x1 x2 : Option Value} {w : Value} : mw d 70 Q 245 [some w, x1, x2] (st) h = mv_a w (mw d 70 Q 246 [some w, x1, x2] (w :: st) h) := (mw_at mj_70_245).trans (z_aload_n rfl)
theorem mj_70_246 : mc_P 70 246 = some (.sipush 165, 3, 0, 0, 0) := by decide +kernel
theorem s_70_246 {x0 x1 x2 : Option Value} : mw d 70 Q 246 [x0, x1, x2] (st) h = mw d 70 Q 249 [x0, x1, x2] (.int 165 :: st) h := (mw_at mj_70_246).trans (z_sipush (by decide))
theorem mj_70_249 : mc_P 70 249 = some (.iload_n 2, 1, 0, 0, 0) := by decide +kernel
theorem s_70_249 {x0 x1 : Option Value} {w : Value} : mw d 70 Q 249 [x0, x1, some w] (st) h = mv_i w (mw d 70 Q 250 [x0, x1, some w] (w :: st) h) := (mw_at mj_70_249).trans (z_iload_n rfl)
theorem mj_70_250 : mc_P 70 250 = some (.invokevirtual 89, 3, 46, 3, 3) := by decide +kernel
theorem s_70_250 {x0 x1 x2 : Option Value} {o : Nat} {a1 a2 : Value} : mw (d + 1) 70 Q 250 [x0, x1, x2] (a2 :: a1 :: .ref o :: st) h = (mg h o 3 ∧ mca st 8 ∧ mca [.ref o, a1, a2] 3 ∧ mcall d 46 [.ref o, a1, a2] h (mK (d + 1) 70 Q 253 [x0, x1, x2] st)) := (mw_at mj_70_250).trans ((z_invv (As := [a1, a2]) (by decide) rfl rfl).trans (congrArg (And _) (congrArg (And _) (mC_nl nl_46))))
theorem mj_70_253 : mc_P 70 253 = some (.aload_n 0, 1, 0, 0, 0) := by decide +kernel
theorem s_70_253 {x1 x2 : Option Value} {w : Value} : mw d 70 Q 253 [some w, x1, x2] (st) h = mv_a w (mw d 70 Q 254 [some w, x1, x2] (w :: st) h) := (mw_at mj_70_253).trans (z_aload_n rfl)
theorem mj_70_254 : mc_P 70 254 = some (.sipush 169, 3, 0, 0, 0) := by decide +kernel
theorem s_70_254 {x0 x1 x2 : Option Value} : mw d 70 Q 254 [x0, x1, x2] (st) h = mw d 70 Q 257 [x0, x1, x2] (.int 169 :: st) h := (mw_at mj_70_254).trans (z_sipush (by decide))
theorem mj_70_257 : mc_P 70 257 = some (.iload_n 2, 1, 0, 0, 0) := by decide +kernel
theorem s_70_257 {x0 x1 : Option Value} {w : Value} : mw d 70 Q 257 [x0, x1, some w] (st) h = mv_i w (mw d 70 Q 258 [x0, x1, some w] (w :: st) h) := (mw_at mj_70_257).trans (z_iload_n rfl)
theorem mj_70_258 : mc_P 70 258 = some (.invokevirtual 89, 3, 46, 3, 3) := by decide +kernel
theorem s_70_258 {x0 x1 x2 : Option Value} {o : Nat} {a1 a2 : Value} : mw (d + 1) 70 Q 258 [x0, x1, x2] (a2 :: a1 :: .ref o :: st) h = (mg h o 3 ∧ mca st 8 ∧ mca [.ref o, a1, a2] 3 ∧ mcall d 46 [.ref o, a1, a2] h (mK (d + 1) 70 Q 261 [x0, x1, x2] st)) := (mw_at mj_70_258).trans ((z_invv (As := [a1, a2]) (by decide) rfl rfl).trans (congrArg (And _) (congrArg (And _) (mC_nl nl_46))))
theorem mj_70_261 : mc_P 70 261 = some (.aload_n 0, 1, 0, 0, 0) := by decide +kernel
theorem s_70_261 {x1 x2 : Option Value} {w : Value} : mw d 70 Q 261 [some w, x1, x2] (st) h = mv_a w (mw d 70 Q 262 [some w, x1, x2] (w :: st) h) := (mw_at mj_70_261).trans (z_aload_n rfl)
theorem mj_70_262 : mc_P 70 262 = some (.sipush 167, 3, 0, 0, 0) := by decide +kernel
theorem s_70_262 {x0 x1 x2 : Option Value} : mw d 70 Q 262 [x0, x1, x2] (st) h = mw d 70 Q 265 [x0, x1, x2] (.int 167 :: st) h := (mw_at mj_70_262).trans (z_sipush (by decide))
theorem mj_70_265 : mc_P 70 265 = some (.aload_n 0, 1, 0, 0, 0) := by decide +kernel
theorem s_70_265 {x1 x2 : Option Value} {w : Value} : mw d 70 Q 265 [some w, x1, x2] (st) h = mv_a w (mw d 70 Q 266 [some w, x1, x2] (w :: st) h) := (mw_at mj_70_265).trans (z_aload_n rfl)
theorem mj_70_266 : mc_P 70 266 = some (.invokevirtual 108, 3, 47, 3, 1) := by decide +kernel
theorem s_70_266 {x0 x1 x2 : Option Value} {o : Nat} : mw (d + 1) 70 Q 266 [x0, x1, x2] (.ref o :: st) h = (mg h o 3 ∧ mca st 8 ∧ mca [.ref o] 1 ∧ mcall d 47 [.ref o] h (mK (d + 1) 70 Q 269 [x0, x1, x2] st)) := (mw_at mj_70_266).trans ((z_invv (As := []) (by decide) rfl rfl).trans (congrArg (And _) (congrArg (And _) (mC_nl nl_47))))
theorem mj_70_269 : mc_P 70 269 = some (.invokevirtual 89, 3, 46, 3, 3) := by decide +kernel
theorem s_70_269 {x0 x1 x2 : Option Value} {o : Nat} {a1 a2 : Value} : mw (d + 1) 70 Q 269 [x0, x1, x2] (a2 :: a1 :: .ref o :: st) h = (mg h o 3 ∧ mca st 8 ∧ mca [.ref o, a1, a2] 3 ∧ mcall d 46 [.ref o, a1, a2] h (mK (d + 1) 70 Q 272 [x0, x1, x2] st)) := (mw_at mj_70_269).trans ((z_invv (As := [a1, a2]) (by decide) rfl rfl).trans (congrArg (And _) (congrArg (And _) (mC_nl nl_46))))
theorem mj_70_272 : mc_P 70 272 = some (.aload_n 0, 1, 0, 0, 0) := by decide +kernel
theorem s_70_272 {x1 x2 : Option Value} {w : Value} : mw d 70 Q 272 [some w, x1, x2] (st) h = mv_a w (mw d 70 Q 273 [some w, x1, x2] (w :: st) h) := (mw_at mj_70_272).trans (z_aload_n rfl)
theorem mj_70_273 : mc_P 70 273 = some (.sipush 166, 3, 0, 0, 0) := by decide +kernel
theorem s_70_273 {x0 x1 x2 : Option Value} : mw d 70 Q 273 [x0, x1, x2] (st) h = mw d 70 Q 276 [x0, x1, x2] (.int 166 :: st) h := (mw_at mj_70_273).trans (z_sipush (by decide))
theorem mj_70_276 : mc_P 70 276 = some (.invokevirtual 51, 3, 45, 3, 2) := by decide +kernel
theorem s_70_276 {x0 x1 x2 : Option Value} {o : Nat} {a1 : Value} : mw (d + 1) 70 Q 276 [x0, x1, x2] (a1 :: .ref o :: st) h = (mg h o 3 ∧ mca st 8 ∧ mca [.ref o, a1] 2 ∧ mcall d 45 [.ref o, a1] h (mK (d + 1) 70 Q 279 [x0, x1, x2] st)) := (mw_at mj_70_276).trans ((z_invv (As := [a1]) (by decide) rfl rfl).trans (congrArg (And _) (congrArg (And _) (mC_nl nl_45))))
theorem mj_70_279 : mc_P 70 279 = some (.aload_n 0, 1, 0, 0, 0) := by decide +kernel
theorem s_70_279 {x1 x2 : Option Value} {w : Value} : mw d 70 Q 279 [some w, x1, x2] (st) h = mv_a w (mw d 70 Q 280 [some w, x1, x2] (w :: st) h) := (mw_at mj_70_279).trans (z_aload_n rfl)
theorem mj_70_280 : mc_P 70 280 = some (.dup, 1, 0, 0, 0) := by decide +kernel
theorem s_70_280 {x0 x1 x2 : Option Value} {w : Value} : mw d 70 Q 280 [x0, x1, x2] (w :: st) h = (w.category = 1 ∧ mw d 70 Q 281 [x0, x1, x2] (w :: w :: st) h) := (mw_at mj_70_280).trans (z_dup)
theorem mj_70_281 : mc_P 70 281 = some (.getfield 95, 3, 3, 5, 0) := by decide +kernel
theorem s_70_281 {x0 x1 x2 : Option Value} {o : Nat} : mw d 70 Q 281 [x0, x1, x2] (.ref o :: st) h = (mg h o 3 ∧ mw d 70 Q 284 [x0, x1, x2] (.int (mh_i h o 5) :: st) h) := (mw_at mj_70_281).trans (z_geti (by decide) (by decide) (Or.inl rfl))
theorem mj_70_284 : mc_P 70 284 = some (.iconst 1, 1, 0, 0, 0) := by decide +kernel
theorem s_70_284 {x0 x1 x2 : Option Value} : mw d 70 Q 284 [x0, x1, x2] (st) h = mw d 70 Q 285 [x0, x1, x2] (.int 1 :: st) h := (mw_at mj_70_284).trans (z_iconst (by decide))
theorem mj_70_285 : mc_P 70 285 = some (.iadd, 1, 0, 0, 0) := by decide +kernel
theorem s_70_285 {x0 x1 x2 : Option Value} {x w : Int32} : mw d 70 Q 285 [x0, x1, x2] (.int w :: .int x :: st) h = mw d 70 Q 286 [x0, x1, x2] (.int (x + w) :: st) h := (mw_at mj_70_285).trans (z_iadd)
theorem mj_70_286 : mc_P 70 286 = some (.putfield 95, 3, 3, 5, 0) := by decide +kernel
theorem s_70_286 {x0 x1 x2 : Option Value} {o : Nat} {w : Int32} : mw d 70 Q 286 [x0, x1, x2] (.int w :: .ref o :: st) h = (mg h o 3 ∧ mw d 70 Q 289 [x0, x1, x2] (st) (mh_si h o 5 w)) := (mw_at mj_70_286).trans (z_puti (by decide) (by decide) rfl)
theorem mj_70_289 : mc_P 70 289 = some (.goto 63, 3, 0, 0, 0) := by decide +kernel
theorem s_70_289 {x0 x1 x2 : Option Value} : mw d 70 Q 289 [x0, x1, x2] (st) h = mw d 70 Q 352 [x0, x1, x2] (st) h := (mw_at mj_70_289).trans (z_goto (by decide))
theorem mj_70_292 : mc_P 70 292 = some (.aload_n 0, 1, 0, 0, 0) := by decide +kernel
theorem s_70_292 {x1 x2 : Option Value} {w : Value} : mw d 70 Q 292 [some w, x1, x2] (st) h = mv_a w (mw d 70 Q 293 [some w, x1, x2] (w :: st) h) := (mw_at mj_70_292).trans (z_aload_n rfl)
theorem mj_70_293 : mc_P 70 293 = some (.getfield 23, 3, 3, 1, 0) := by decide +kernel
theorem s_70_293 {x0 x1 x2 : Option Value} {o : Nat} : mw d 70 Q 293 [x0, x1, x2] (.ref o :: st) h = (mg h o 3 ∧ mw d 70 Q 296 [x0, x1, x2] (va_rf (mh_r h o 1) :: st) h) := (mw_at mj_70_293).trans (z_getr (by decide) (by decide) rfl)
theorem mj_70_296 : mc_P 70 296 = some (.iload_n 2, 1, 0, 0, 0) := by decide +kernel
theorem s_70_296 {x0 x1 : Option Value} {w : Value} : mw d 70 Q 296 [x0, x1, some w] (st) h = mv_i w (mw d 70 Q 297 [x0, x1, some w] (w :: st) h) := (mw_at mj_70_296).trans (z_iload_n rfl)
theorem mj_70_297 : mc_P 70 297 = some (.iconst 0, 1, 0, 0, 0) := by decide +kernel
theorem s_70_297 {x0 x1 x2 : Option Value} : mw d 70 Q 297 [x0, x1, x2] (st) h = mw d 70 Q 298 [x0, x1, x2] (.int 0 :: st) h := (mw_at mj_70_297).trans (z_iconst (by decide))
theorem mj_70_298 : mc_P 70 298 = some (.iconst 0, 1, 0, 0, 0) := by decide +kernel
theorem s_70_298 {x0 x1 x2 : Option Value} : mw d 70 Q 298 [x0, x1, x2] (st) h = mw d 70 Q 299 [x0, x1, x2] (.int 0 :: st) h := (mw_at mj_70_298).trans (z_iconst (by decide))
theorem mj_70_299 : mc_P 70 299 = some (.invokevirtual 297, 3, 126, 7, 4) := by decide +kernel
theorem s_70_299 {x0 x1 x2 : Option Value} {o : Nat} {a1 a2 a3 : Value} : mw (d + 1) 70 Q 299 [x0, x1, x2] (a3 :: a2 :: a1 :: .ref o :: st) h = (mg h o 7 ∧ mca st 8 ∧ mca [.ref o, a1, a2, a3] 4 ∧ mcall d 126 [.ref o, a1, a2, a3] h (mK (d + 1) 70 Q 302 [x0, x1, x2] st)) := (mw_at mj_70_299).trans ((z_invv (As := [a1, a2, a3]) (by decide) rfl rfl).trans (congrArg (And _) (congrArg (And _) (mC_nl nl_126))))
theorem mj_70_302 : mc_P 70 302 = some (.goto 50, 3, 0, 0, 0) := by decide +kernel
theorem s_70_302 {x0 x1 x2 : Option Value} : mw d 70 Q 302 [x0, x1, x2] (st) h = mw d 70 Q 352 [x0, x1, x2] (st) h := (mw_at mj_70_302).trans (z_goto (by decide))
theorem mj_70_305 : mc_P 70 305 = some (.aload_n 0, 1, 0, 0, 0) := by decide +kernel
theorem s_70_305 {x1 x2 : Option Value} {w : Value} : mw d 70 Q 305 [some w, x1, x2] (st) h = mv_a w (mw d 70 Q 306 [some w, x1, x2] (w :: st) h) := (mw_at mj_70_305).trans (z_aload_n rfl)
theorem mj_70_306 : mc_P 70 306 = some (.getfield 23, 3, 3, 1, 0) := by decide +kernel
theorem s_70_306 {x0 x1 x2 : Option Value} {o : Nat} : mw d 70 Q 306 [x0, x1, x2] (.ref o :: st) h = (mg h o 3 ∧ mw d 70 Q 309 [x0, x1, x2] (va_rf (mh_r h o 1) :: st) h) := (mw_at mj_70_306).trans (z_getr (by decide) (by decide) rfl)
theorem mj_70_309 : mc_P 70 309 = some (.iconst 3, 1, 0, 0, 0) := by decide +kernel
theorem s_70_309 {x0 x1 x2 : Option Value} : mw d 70 Q 309 [x0, x1, x2] (st) h = mw d 70 Q 310 [x0, x1, x2] (.int 3 :: st) h := (mw_at mj_70_309).trans (z_iconst (by decide))
theorem mj_70_310 : mc_P 70 310 = some (.iload_n 2, 1, 0, 0, 0) := by decide +kernel
theorem s_70_310 {x0 x1 : Option Value} {w : Value} : mw d 70 Q 310 [x0, x1, some w] (st) h = mv_i w (mw d 70 Q 311 [x0, x1, some w] (w :: st) h) := (mw_at mj_70_310).trans (z_iload_n rfl)
theorem mj_70_311 : mc_P 70 311 = some (.sipush 128, 3, 0, 0, 0) := by decide +kernel
theorem s_70_311 {x0 x1 x2 : Option Value} : mw d 70 Q 311 [x0, x1, x2] (st) h = mw d 70 Q 314 [x0, x1, x2] (.int 128 :: st) h := (mw_at mj_70_311).trans (z_sipush (by decide))
theorem mj_70_314 : mc_P 70 314 = some (.idiv, 1, 0, 0, 0) := by decide +kernel
theorem s_70_314 {x0 x1 x2 : Option Value} {x w : Int32} : mw d 70 Q 314 [x0, x1, x2] (.int w :: .int x :: st) h = (¬ w = 0 ∧ mw d 70 Q 315 [x0, x1, x2] (.int (x / w) :: st) h) := (mw_at mj_70_314).trans (z_idiv)
theorem mj_70_315 : mc_P 70 315 = some (.iload_n 2, 1, 0, 0, 0) := by decide +kernel
theorem s_70_315 {x0 x1 : Option Value} {w : Value} : mw d 70 Q 315 [x0, x1, some w] (st) h = mv_i w (mw d 70 Q 316 [x0, x1, some w] (w :: st) h) := (mw_at mj_70_315).trans (z_iload_n rfl)
theorem mj_70_316 : mc_P 70 316 = some (.sipush 128, 3, 0, 0, 0) := by decide +kernel
theorem s_70_316 {x0 x1 x2 : Option Value} : mw d 70 Q 316 [x0, x1, x2] (st) h = mw d 70 Q 319 [x0, x1, x2] (.int 128 :: st) h := (mw_at mj_70_316).trans (z_sipush (by decide))
theorem mj_70_319 : mc_P 70 319 = some (.irem, 1, 0, 0, 0) := by decide +kernel
theorem s_70_319 {x0 x1 x2 : Option Value} {x w : Int32} : mw d 70 Q 319 [x0, x1, x2] (.int w :: .int x :: st) h = (¬ w = 0 ∧ mw d 70 Q 320 [x0, x1, x2] (.int (x - x / w * w) :: st) h) := (mw_at mj_70_319).trans (z_irem)
theorem mj_70_320 : mc_P 70 320 = some (.invokevirtual 297, 3, 126, 7, 4) := by decide +kernel
theorem s_70_320 {x0 x1 x2 : Option Value} {o : Nat} {a1 a2 a3 : Value} : mw (d + 1) 70 Q 320 [x0, x1, x2] (a3 :: a2 :: a1 :: .ref o :: st) h = (mg h o 7 ∧ mca st 8 ∧ mca [.ref o, a1, a2, a3] 4 ∧ mcall d 126 [.ref o, a1, a2, a3] h (mK (d + 1) 70 Q 323 [x0, x1, x2] st)) := (mw_at mj_70_320).trans ((z_invv (As := [a1, a2, a3]) (by decide) rfl rfl).trans (congrArg (And _) (congrArg (And _) (mC_nl nl_126))))
theorem mj_70_323 : mc_P 70 323 = some (.goto 29, 3, 0, 0, 0) := by decide +kernel
theorem s_70_323 {x0 x1 x2 : Option Value} : mw d 70 Q 323 [x0, x1, x2] (st) h = mw d 70 Q 352 [x0, x1, x2] (st) h := (mw_at mj_70_323).trans (z_goto (by decide))
theorem mj_70_326 : mc_P 70 326 = some (.aload_n 0, 1, 0, 0, 0) := by decide +kernel
theorem s_70_326 {x1 x2 : Option Value} {w : Value} : mw d 70 Q 326 [some w, x1, x2] (st) h = mv_a w (mw d 70 Q 327 [some w, x1, x2] (w :: st) h) := (mw_at mj_70_326).trans (z_aload_n rfl)
theorem mj_70_327 : mc_P 70 327 = some (.getfield 23, 3, 3, 1, 0) := by decide +kernel
theorem s_70_327 {x0 x1 x2 : Option Value} {o : Nat} : mw d 70 Q 327 [x0, x1, x2] (.ref o :: st) h = (mg h o 3 ∧ mw d 70 Q 330 [x0, x1, x2] (va_rf (mh_r h o 1) :: st) h) := (mw_at mj_70_327).trans (z_getr (by decide) (by decide) rfl)
theorem mj_70_330 : mc_P 70 330 = some (.iload_n 2, 1, 0, 0, 0) := by decide +kernel
theorem s_70_330 {x0 x1 : Option Value} {w : Value} : mw d 70 Q 330 [x0, x1, some w] (st) h = mv_i w (mw d 70 Q 331 [x0, x1, some w] (w :: st) h) := (mw_at mj_70_330).trans (z_iload_n rfl)
theorem mj_70_331 : mc_P 70 331 = some (.iconst 2, 1, 0, 0, 0) := by decide +kernel
theorem s_70_331 {x0 x1 x2 : Option Value} : mw d 70 Q 331 [x0, x1, x2] (st) h = mw d 70 Q 332 [x0, x1, x2] (.int 2 :: st) h := (mw_at mj_70_331).trans (z_iconst (by decide))
theorem mj_70_332 : mc_P 70 332 = some (.idiv, 1, 0, 0, 0) := by decide +kernel
theorem s_70_332 {x0 x1 x2 : Option Value} {x w : Int32} : mw d 70 Q 332 [x0, x1, x2] (.int w :: .int x :: st) h = (¬ w = 0 ∧ mw d 70 Q 333 [x0, x1, x2] (.int (x / w) :: st) h) := (mw_at mj_70_332).trans (z_idiv)
theorem mj_70_333 : mc_P 70 333 = some (.iload_n 2, 1, 0, 0, 0) := by decide +kernel
theorem s_70_333 {x0 x1 : Option Value} {w : Value} : mw d 70 Q 333 [x0, x1, some w] (st) h = mv_i w (mw d 70 Q 334 [x0, x1, some w] (w :: st) h) := (mw_at mj_70_333).trans (z_iload_n rfl)
theorem mj_70_334 : mc_P 70 334 = some (.iconst 2, 1, 0, 0, 0) := by decide +kernel
theorem s_70_334 {x0 x1 x2 : Option Value} : mw d 70 Q 334 [x0, x1, x2] (st) h = mw d 70 Q 335 [x0, x1, x2] (.int 2 :: st) h := (mw_at mj_70_334).trans (z_iconst (by decide))
theorem mj_70_335 : mc_P 70 335 = some (.irem, 1, 0, 0, 0) := by decide +kernel
theorem s_70_335 {x0 x1 x2 : Option Value} {x w : Int32} : mw d 70 Q 335 [x0, x1, x2] (.int w :: .int x :: st) h = (¬ w = 0 ∧ mw d 70 Q 336 [x0, x1, x2] (.int (x - x / w * w) :: st) h) := (mw_at mj_70_335).trans (z_irem)
theorem mj_70_336 : mc_P 70 336 = some (.invokevirtual 301, 3, 128, 7, 3) := by decide +kernel
theorem s_70_336 {x0 x1 x2 : Option Value} {o : Nat} {a1 a2 : Value} : mw (d + 1) 70 Q 336 [x0, x1, x2] (a2 :: a1 :: .ref o :: st) h = (mg h o 7 ∧ mca st 8 ∧ mca [.ref o, a1, a2] 3 ∧ mcall d 128 [.ref o, a1, a2] h (mK (d + 1) 70 Q 339 [x0, x1, x2] st)) := (mw_at mj_70_336).trans ((z_invv (As := [a1, a2]) (by decide) rfl rfl).trans (congrArg (And _) (congrArg (And _) (mC_nl nl_128))))
theorem mj_70_339 : mc_P 70 339 = some (.goto 13, 3, 0, 0, 0) := by decide +kernel
theorem s_70_339 {x0 x1 x2 : Option Value} : mw d 70 Q 339 [x0, x1, x2] (st) h = mw d 70 Q 352 [x0, x1, x2] (st) h := (mw_at mj_70_339).trans (z_goto (by decide))
theorem mj_70_342 : mc_P 70 342 = some (.aload_n 0, 1, 0, 0, 0) := by decide +kernel
theorem s_70_342 {x1 x2 : Option Value} {w : Value} : mw d 70 Q 342 [some w, x1, x2] (st) h = mv_a w (mw d 70 Q 343 [some w, x1, x2] (w :: st) h) := (mw_at mj_70_342).trans (z_aload_n rfl)
theorem mj_70_343 : mc_P 70 343 = some (.dup, 1, 0, 0, 0) := by decide +kernel
theorem s_70_343 {x0 x1 x2 : Option Value} {w : Value} : mw d 70 Q 343 [x0, x1, x2] (w :: st) h = (w.category = 1 ∧ mw d 70 Q 344 [x0, x1, x2] (w :: w :: st) h) := (mw_at mj_70_343).trans (z_dup)
theorem mj_70_344 : mc_P 70 344 = some (.getfield 114, 3, 3, 6, 0) := by decide +kernel
theorem s_70_344 {x0 x1 x2 : Option Value} {o : Nat} : mw d 70 Q 344 [x0, x1, x2] (.ref o :: st) h = (mg h o 3 ∧ mw d 70 Q 347 [x0, x1, x2] (.int (mh_i h o 6) :: st) h) := (mw_at mj_70_344).trans (z_geti (by decide) (by decide) (Or.inl rfl))
theorem mj_70_347 : mc_P 70 347 = some (.iconst 1, 1, 0, 0, 0) := by decide +kernel
theorem s_70_347 {x0 x1 x2 : Option Value} : mw d 70 Q 347 [x0, x1, x2] (st) h = mw d 70 Q 348 [x0, x1, x2] (.int 1 :: st) h := (mw_at mj_70_347).trans (z_iconst (by decide))
theorem mj_70_348 : mc_P 70 348 = some (.isub, 1, 0, 0, 0) := by decide +kernel
theorem s_70_348 {x0 x1 x2 : Option Value} {x w : Int32} : mw d 70 Q 348 [x0, x1, x2] (.int w :: .int x :: st) h = mw d 70 Q 349 [x0, x1, x2] (.int (x - w) :: st) h := (mw_at mj_70_348).trans (z_isub)
theorem mj_70_349 : mc_P 70 349 = some (.putfield 114, 3, 3, 6, 0) := by decide +kernel
theorem s_70_349 {x0 x1 x2 : Option Value} {o : Nat} {w : Int32} : mw d 70 Q 349 [x0, x1, x2] (.int w :: .ref o :: st) h = (mg h o 3 ∧ mw d 70 Q 352 [x0, x1, x2] (st) (mh_si h o 6 w)) := (mw_at mj_70_349).trans (z_puti (by decide) (by decide) rfl)
theorem mj_70_352 : mc_P 70 352 = some (.return_, 1, 0, 0, 0) := by decide +kernel
theorem s_70_352 {x0 x1 x2 : Option Value} : mw d 70 Q 352 [x0, x1, x2] ([]) h = Q none h := (mw_at mj_70_352).trans (z_vret)
theorem e_70 {a0 : Nat} {a1 : Int32} {a2 : Int32} : mcall d 70 [.ref a0, .int a1, .int a2] h Q = mw d 70 Q 0 [some (.ref a0), some (.int a1), some (.int a2)] [] h := by
  show mw d 70 Q 0 (me_en (mc_nl 70) _) [] h = _
  rw [nl_70]; rfl

/-! InvariantDesk$Parser.readFactor(I)V -/
theorem mj_71_0 : mc_P 71 0 = some (.aload_n 0, 1, 0, 0, 0) := by decide +kernel
theorem s_71_0 {x1 : Option Value} {w : Value} : mw d 71 Q 0 [some w, x1] (st) h = mv_a w (mw d 71 Q 1 [some w, x1] (w :: st) h) := (mw_at mj_71_0).trans (z_aload_n rfl)
theorem mj_71_1 : mc_P 71 1 = some (.invokevirtual 108, 3, 47, 3, 1) := by decide +kernel
theorem s_71_1 {x0 x1 : Option Value} {o : Nat} : mw (d + 1) 71 Q 1 [x0, x1] (.ref o :: st) h = (mg h o 3 ∧ mca st 8 ∧ mca [.ref o] 1 ∧ mcall d 47 [.ref o] h (mK (d + 1) 71 Q 4 [x0, x1] st)) := (mw_at mj_71_1).trans ((z_invv (As := []) (by decide) rfl rfl).trans (congrArg (And _) (congrArg (And _) (mC_nl nl_47))))
theorem mj_71_4 : mc_P 71 4 = some (.lookupswitch 183 #[(2, 95), (3, 52), (11, 103), (40, 156), (45, 111)], 52, 0, 0, 0) := by decide +kernel
theorem s_71_4 {x0 x1 : Option Value} {x : Int32} : mw d 71 Q 4 [x0, x1] (.int x :: st) h = mS x (mw d 71 Q) 187 [x0, x1] st h [(2, 99), (3, 56), (11, 107), (40, 160), (45, 115)] := (mw_at mj_71_4).trans (z_look (by decide) (by decide) (by decide))
theorem mj_71_56 : mc_P 71 56 = some (.aload_n 0, 1, 0, 0, 0) := by decide +kernel
theorem s_71_56 {x1 : Option Value} {w : Value} : mw d 71 Q 56 [some w, x1] (st) h = mv_a w (mw d 71 Q 57 [some w, x1] (w :: st) h) := (mw_at mj_71_56).trans (z_aload_n rfl)
theorem mj_71_57 : mc_P 71 57 = some (.getfield 23, 3, 3, 1, 0) := by decide +kernel
theorem s_71_57 {x0 x1 : Option Value} {o : Nat} : mw d 71 Q 57 [x0, x1] (.ref o :: st) h = (mg h o 3 ∧ mw d 71 Q 60 [x0, x1] (va_rf (mh_r h o 1) :: st) h) := (mw_at mj_71_57).trans (z_getr (by decide) (by decide) rfl)
theorem mj_71_60 : mc_P 71 60 = some (.iconst 1, 1, 0, 0, 0) := by decide +kernel
theorem s_71_60 {x0 x1 : Option Value} : mw d 71 Q 60 [x0, x1] (st) h = mw d 71 Q 61 [x0, x1] (.int 1 :: st) h := (mw_at mj_71_60).trans (z_iconst (by decide))
theorem mj_71_61 : mc_P 71 61 = some (.aload_n 0, 1, 0, 0, 0) := by decide +kernel
theorem s_71_61 {x1 : Option Value} {w : Value} : mw d 71 Q 61 [some w, x1] (st) h = mv_a w (mw d 71 Q 62 [some w, x1] (w :: st) h) := (mw_at mj_71_61).trans (z_aload_n rfl)
theorem mj_71_62 : mc_P 71 62 = some (.getfield 19, 3, 3, 0, 0) := by decide +kernel
theorem s_71_62 {x0 x1 : Option Value} {o : Nat} : mw d 71 Q 62 [x0, x1] (.ref o :: st) h = (mg h o 3 ∧ mw d 71 Q 65 [x0, x1] (va_rf (mh_r h o 0) :: st) h) := (mw_at mj_71_62).trans (z_getr (by decide) (by decide) rfl)
theorem mj_71_65 : mc_P 71 65 = some (.aload_n 0, 1, 0, 0, 0) := by decide +kernel
theorem s_71_65 {x1 : Option Value} {w : Value} : mw d 71 Q 65 [some w, x1] (st) h = mv_a w (mw d 71 Q 66 [some w, x1] (w :: st) h) := (mw_at mj_71_65).trans (z_aload_n rfl)
theorem mj_71_66 : mc_P 71 66 = some (.invokevirtual 104, 3, 49, 3, 1) := by decide +kernel
theorem s_71_66 {x0 x1 : Option Value} {o : Nat} : mw (d + 1) 71 Q 66 [x0, x1] (.ref o :: st) h = (mg h o 3 ∧ mca st 8 ∧ mca [.ref o] 1 ∧ mcall d 49 [.ref o] h (mK (d + 1) 71 Q 69 [x0, x1] st)) := (mw_at mj_71_66).trans ((z_invv (As := []) (by decide) rfl rfl).trans (congrArg (And _) (congrArg (And _) (mC_nl nl_49))))
theorem mj_71_69 : mc_P 71 69 = some (.invokevirtual 250, 3, 177, 10, 2) := by decide +kernel
theorem s_71_69 {x0 x1 : Option Value} {o : Nat} {a1 : Value} : mw (d + 1) 71 Q 69 [x0, x1] (a1 :: .ref o :: st) h = (mg h o 10 ∧ mca st 8 ∧ mca [.ref o, a1] 5 ∧ mcall d 177 [.ref o, a1] h (mK (d + 1) 71 Q 72 [x0, x1] st)) := (mw_at mj_71_69).trans ((z_invv (As := [a1]) (by decide) rfl rfl).trans (congrArg (And _) (congrArg (And _) (mC_nl nl_177))))
theorem mj_71_72 : mc_P 71 72 = some (.l2i, 1, 0, 0, 0) := by decide +kernel
theorem s_71_72 {x0 x1 : Option Value} {x : Int64} : mw d 71 Q 72 [x0, x1] (.long x :: st) h = mw d 71 Q 73 [x0, x1] (.int x.toInt32 :: st) h := (mw_at mj_71_72).trans (z_l2i)
theorem mj_71_73 : mc_P 71 73 = some (.iconst 0, 1, 0, 0, 0) := by decide +kernel
theorem s_71_73 {x0 x1 : Option Value} : mw d 71 Q 73 [x0, x1] (st) h = mw d 71 Q 74 [x0, x1] (.int 0 :: st) h := (mw_at mj_71_73).trans (z_iconst (by decide))
theorem mj_71_74 : mc_P 71 74 = some (.invokevirtual 297, 3, 126, 7, 4) := by decide +kernel
theorem s_71_74 {x0 x1 : Option Value} {o : Nat} {a1 a2 a3 : Value} : mw (d + 1) 71 Q 74 [x0, x1] (a3 :: a2 :: a1 :: .ref o :: st) h = (mg h o 7 ∧ mca st 8 ∧ mca [.ref o, a1, a2, a3] 4 ∧ mcall d 126 [.ref o, a1, a2, a3] h (mK (d + 1) 71 Q 77 [x0, x1] st)) := (mw_at mj_71_74).trans ((z_invv (As := [a1, a2, a3]) (by decide) rfl rfl).trans (congrArg (And _) (congrArg (And _) (mC_nl nl_126))))
theorem mj_71_77 : mc_P 71 77 = some (.aload_n 0, 1, 0, 0, 0) := by decide +kernel
theorem s_71_77 {x1 : Option Value} {w : Value} : mw d 71 Q 77 [some w, x1] (st) h = mv_a w (mw d 71 Q 78 [some w, x1] (w :: st) h) := (mw_at mj_71_77).trans (z_aload_n rfl)
theorem mj_71_78 : mc_P 71 78 = some (.getfield 23, 3, 3, 1, 0) := by decide +kernel
theorem s_71_78 {x0 x1 : Option Value} {o : Nat} : mw d 71 Q 78 [x0, x1] (.ref o :: st) h = (mg h o 3 ∧ mw d 71 Q 81 [x0, x1] (va_rf (mh_r h o 1) :: st) h) := (mw_at mj_71_78).trans (z_getr (by decide) (by decide) rfl)
theorem mj_71_81 : mc_P 71 81 = some (.iload_n 1, 1, 0, 0, 0) := by decide +kernel
theorem s_71_81 {x0 : Option Value} {w : Value} : mw d 71 Q 81 [x0, some w] (st) h = mv_i w (mw d 71 Q 82 [x0, some w] (w :: st) h) := (mw_at mj_71_81).trans (z_iload_n rfl)
theorem mj_71_82 : mc_P 71 82 = some (.iconst (-1), 1, 0, 0, 0) := by decide +kernel
theorem s_71_82 {x0 x1 : Option Value} : mw d 71 Q 82 [x0, x1] (st) h = mw d 71 Q 83 [x0, x1] (.int (-1) :: st) h := (mw_at mj_71_82).trans (z_iconst (by decide))
theorem mj_71_83 : mc_P 71 83 = some (.invokevirtual 304, 3, 127, 7, 3) := by decide +kernel
theorem s_71_83 {x0 x1 : Option Value} {o : Nat} {a1 a2 : Value} : mw (d + 1) 71 Q 83 [x0, x1] (a2 :: a1 :: .ref o :: st) h = (mg h o 7 ∧ mca st 8 ∧ mca [.ref o, a1, a2] 3 ∧ mcall d 127 [.ref o, a1, a2] h (mK (d + 1) 71 Q 86 [x0, x1] st)) := (mw_at mj_71_83).trans ((z_invv (As := [a1, a2]) (by decide) rfl rfl).trans (congrArg (And _) (congrArg (And _) (mC_nl nl_127))))
theorem mj_71_86 : mc_P 71 86 = some (.aload_n 0, 1, 0, 0, 0) := by decide +kernel
theorem s_71_86 {x1 : Option Value} {w : Value} : mw d 71 Q 86 [some w, x1] (st) h = mv_a w (mw d 71 Q 87 [some w, x1] (w :: st) h) := (mw_at mj_71_86).trans (z_aload_n rfl)
theorem mj_71_87 : mc_P 71 87 = some (.dup, 1, 0, 0, 0) := by decide +kernel
theorem s_71_87 {x0 x1 : Option Value} {w : Value} : mw d 71 Q 87 [x0, x1] (w :: st) h = (w.category = 1 ∧ mw d 71 Q 88 [x0, x1] (w :: w :: st) h) := (mw_at mj_71_87).trans (z_dup)
theorem mj_71_88 : mc_P 71 88 = some (.getfield 95, 3, 3, 5, 0) := by decide +kernel
theorem s_71_88 {x0 x1 : Option Value} {o : Nat} : mw d 71 Q 88 [x0, x1] (.ref o :: st) h = (mg h o 3 ∧ mw d 71 Q 91 [x0, x1] (.int (mh_i h o 5) :: st) h) := (mw_at mj_71_88).trans (z_geti (by decide) (by decide) (Or.inl rfl))
theorem mj_71_91 : mc_P 71 91 = some (.iconst 1, 1, 0, 0, 0) := by decide +kernel
theorem s_71_91 {x0 x1 : Option Value} : mw d 71 Q 91 [x0, x1] (st) h = mw d 71 Q 92 [x0, x1] (.int 1 :: st) h := (mw_at mj_71_91).trans (z_iconst (by decide))
theorem mj_71_92 : mc_P 71 92 = some (.iadd, 1, 0, 0, 0) := by decide +kernel
theorem s_71_92 {x0 x1 : Option Value} {x w : Int32} : mw d 71 Q 92 [x0, x1] (.int w :: .int x :: st) h = mw d 71 Q 93 [x0, x1] (.int (x + w) :: st) h := (mw_at mj_71_92).trans (z_iadd)
theorem mj_71_93 : mc_P 71 93 = some (.putfield 95, 3, 3, 5, 0) := by decide +kernel
theorem s_71_93 {x0 x1 : Option Value} {o : Nat} {w : Int32} : mw d 71 Q 93 [x0, x1] (.int w :: .ref o :: st) h = (mg h o 3 ∧ mw d 71 Q 96 [x0, x1] (st) (mh_si h o 5 w)) := (mw_at mj_71_93).trans (z_puti (by decide) (by decide) rfl)
theorem mj_71_96 : mc_P 71 96 = some (.goto 95, 3, 0, 0, 0) := by decide +kernel
theorem s_71_96 {x0 x1 : Option Value} : mw d 71 Q 96 [x0, x1] (st) h = mw d 71 Q 191 [x0, x1] (st) h := (mw_at mj_71_96).trans (z_goto (by decide))
theorem mj_71_99 : mc_P 71 99 = some (.aload_n 0, 1, 0, 0, 0) := by decide +kernel
theorem s_71_99 {x1 : Option Value} {w : Value} : mw d 71 Q 99 [some w, x1] (st) h = mv_a w (mw d 71 Q 100 [some w, x1] (w :: st) h) := (mw_at mj_71_99).trans (z_aload_n rfl)
theorem mj_71_100 : mc_P 71 100 = some (.iload_n 1, 1, 0, 0, 0) := by decide +kernel
theorem s_71_100 {x0 : Option Value} {w : Value} : mw d 71 Q 100 [x0, some w] (st) h = mv_i w (mw d 71 Q 101 [x0, some w] (w :: st) h) := (mw_at mj_71_100).trans (z_iload_n rfl)
theorem mj_71_101 : mc_P 71 101 = some (.invokevirtual 307, 3, 72, 3, 2) := by decide +kernel
theorem s_71_101 {x0 x1 : Option Value} {o : Nat} {a1 : Value} : mw (d + 1) 71 Q 101 [x0, x1] (a1 :: .ref o :: st) h = (mg h o 3 ∧ mca st 8 ∧ mca [.ref o, a1] 3 ∧ mcall d 72 [.ref o, a1] h (mK (d + 1) 71 Q 104 [x0, x1] st)) := (mw_at mj_71_101).trans ((z_invv (As := [a1]) (by decide) rfl rfl).trans (congrArg (And _) (congrArg (And _) (mC_nl nl_72))))
theorem mj_71_104 : mc_P 71 104 = some (.goto 87, 3, 0, 0, 0) := by decide +kernel
theorem s_71_104 {x0 x1 : Option Value} : mw d 71 Q 104 [x0, x1] (st) h = mw d 71 Q 191 [x0, x1] (st) h := (mw_at mj_71_104).trans (z_goto (by decide))
theorem mj_71_107 : mc_P 71 107 = some (.aload_n 0, 1, 0, 0, 0) := by decide +kernel
theorem s_71_107 {x1 : Option Value} {w : Value} : mw d 71 Q 107 [some w, x1] (st) h = mv_a w (mw d 71 Q 108 [some w, x1] (w :: st) h) := (mw_at mj_71_107).trans (z_aload_n rfl)
theorem mj_71_108 : mc_P 71 108 = some (.iload_n 1, 1, 0, 0, 0) := by decide +kernel
theorem s_71_108 {x0 : Option Value} {w : Value} : mw d 71 Q 108 [x0, some w] (st) h = mv_i w (mw d 71 Q 109 [x0, some w] (w :: st) h) := (mw_at mj_71_108).trans (z_iload_n rfl)
theorem mj_71_109 : mc_P 71 109 = some (.invokevirtual 310, 3, 73, 3, 2) := by decide +kernel
theorem s_71_109 {x0 x1 : Option Value} {o : Nat} {a1 : Value} : mw (d + 1) 71 Q 109 [x0, x1] (a1 :: .ref o :: st) h = (mg h o 3 ∧ mca st 8 ∧ mca [.ref o, a1] 7 ∧ mcall d 73 [.ref o, a1] h (mK (d + 1) 71 Q 112 [x0, x1] st)) := (mw_at mj_71_109).trans ((z_invv (As := [a1]) (by decide) rfl rfl).trans (congrArg (And _) (congrArg (And _) (mC_nl nl_73))))
theorem mj_71_112 : mc_P 71 112 = some (.goto 79, 3, 0, 0, 0) := by decide +kernel
theorem s_71_112 {x0 x1 : Option Value} : mw d 71 Q 112 [x0, x1] (st) h = mw d 71 Q 191 [x0, x1] (st) h := (mw_at mj_71_112).trans (z_goto (by decide))
theorem mj_71_115 : mc_P 71 115 = some (.aload_n 0, 1, 0, 0, 0) := by decide +kernel
theorem s_71_115 {x1 : Option Value} {w : Value} : mw d 71 Q 115 [some w, x1] (st) h = mv_a w (mw d 71 Q 116 [some w, x1] (w :: st) h) := (mw_at mj_71_115).trans (z_aload_n rfl)
theorem mj_71_116 : mc_P 71 116 = some (.dup, 1, 0, 0, 0) := by decide +kernel
theorem s_71_116 {x0 x1 : Option Value} {w : Value} : mw d 71 Q 116 [x0, x1] (w :: st) h = (w.category = 1 ∧ mw d 71 Q 117 [x0, x1] (w :: w :: st) h) := (mw_at mj_71_116).trans (z_dup)
theorem mj_71_117 : mc_P 71 117 = some (.getfield 95, 3, 3, 5, 0) := by decide +kernel
theorem s_71_117 {x0 x1 : Option Value} {o : Nat} : mw d 71 Q 117 [x0, x1] (.ref o :: st) h = (mg h o 3 ∧ mw d 71 Q 120 [x0, x1] (.int (mh_i h o 5) :: st) h) := (mw_at mj_71_117).trans (z_geti (by decide) (by decide) (Or.inl rfl))
theorem mj_71_120 : mc_P 71 120 = some (.iconst 1, 1, 0, 0, 0) := by decide +kernel
theorem s_71_120 {x0 x1 : Option Value} : mw d 71 Q 120 [x0, x1] (st) h = mw d 71 Q 121 [x0, x1] (.int 1 :: st) h := (mw_at mj_71_120).trans (z_iconst (by decide))
theorem mj_71_121 : mc_P 71 121 = some (.iadd, 1, 0, 0, 0) := by decide +kernel
theorem s_71_121 {x0 x1 : Option Value} {x w : Int32} : mw d 71 Q 121 [x0, x1] (.int w :: .int x :: st) h = mw d 71 Q 122 [x0, x1] (.int (x + w) :: st) h := (mw_at mj_71_121).trans (z_iadd)
theorem mj_71_122 : mc_P 71 122 = some (.putfield 95, 3, 3, 5, 0) := by decide +kernel
theorem s_71_122 {x0 x1 : Option Value} {o : Nat} {w : Int32} : mw d 71 Q 122 [x0, x1] (.int w :: .ref o :: st) h = (mg h o 3 ∧ mw d 71 Q 125 [x0, x1] (st) (mh_si h o 5 w)) := (mw_at mj_71_122).trans (z_puti (by decide) (by decide) rfl)
theorem mj_71_125 : mc_P 71 125 = some (.aload_n 0, 1, 0, 0, 0) := by decide +kernel
theorem s_71_125 {x1 : Option Value} {w : Value} : mw d 71 Q 125 [some w, x1] (st) h = mv_a w (mw d 71 Q 126 [some w, x1] (w :: st) h) := (mw_at mj_71_125).trans (z_aload_n rfl)
theorem mj_71_126 : mc_P 71 126 = some (.invokevirtual 152, 3, 52, 3, 1) := by decide +kernel
theorem s_71_126 {x0 x1 : Option Value} {o : Nat} : mw (d + 1) 71 Q 126 [x0, x1] (.ref o :: st) h = (mg h o 3 ∧ mca st 8 ∧ mca [.ref o] 1 ∧ mcall d 52 [.ref o] h (mK (d + 1) 71 Q 129 [x0, x1] st)) := (mw_at mj_71_126).trans ((z_invv (As := []) (by decide) rfl rfl).trans (congrArg (And _) (congrArg (And _) (mC_nl nl_52))))
theorem mj_71_129 : mc_P 71 129 = some (.ifCond .eq 62, 3, 0, 0, 0) := by decide +kernel
theorem s_71_129 {x0 x1 : Option Value} {x : Int32} : mw d 71 Q 129 [x0, x1] (.int x :: st) h = mB (x = 0) (mw d 71 Q) 191 132 [x0, x1] st h := (mw_at mj_71_129).trans (z_if_eq (by decide) rfl)
theorem mj_71_132 : mc_P 71 132 = some (.aload_n 0, 1, 0, 0, 0) := by decide +kernel
theorem s_71_132 {x1 : Option Value} {w : Value} : mw d 71 Q 132 [some w, x1] (st) h = mv_a w (mw d 71 Q 133 [some w, x1] (w :: st) h) := (mw_at mj_71_132).trans (z_aload_n rfl)
theorem mj_71_133 : mc_P 71 133 = some (.sipush 170, 3, 0, 0, 0) := by decide +kernel
theorem s_71_133 {x0 x1 : Option Value} : mw d 71 Q 133 [x0, x1] (st) h = mw d 71 Q 136 [x0, x1] (.int 170 :: st) h := (mw_at mj_71_133).trans (z_sipush (by decide))
theorem mj_71_136 : mc_P 71 136 = some (.invokevirtual 51, 3, 45, 3, 2) := by decide +kernel
theorem s_71_136 {x0 x1 : Option Value} {o : Nat} {a1 : Value} : mw (d + 1) 71 Q 136 [x0, x1] (a1 :: .ref o :: st) h = (mg h o 3 ∧ mca st 8 ∧ mca [.ref o, a1] 2 ∧ mcall d 45 [.ref o, a1] h (mK (d + 1) 71 Q 139 [x0, x1] st)) := (mw_at mj_71_136).trans ((z_invv (As := [a1]) (by decide) rfl rfl).trans (congrArg (And _) (congrArg (And _) (mC_nl nl_45))))
theorem mj_71_139 : mc_P 71 139 = some (.aload_n 0, 1, 0, 0, 0) := by decide +kernel
theorem s_71_139 {x1 : Option Value} {w : Value} : mw d 71 Q 139 [some w, x1] (st) h = mv_a w (mw d 71 Q 140 [some w, x1] (w :: st) h) := (mw_at mj_71_139).trans (z_aload_n rfl)
theorem mj_71_140 : mc_P 71 140 = some (.sipush 167, 3, 0, 0, 0) := by decide +kernel
theorem s_71_140 {x0 x1 : Option Value} : mw d 71 Q 140 [x0, x1] (st) h = mw d 71 Q 143 [x0, x1] (.int 167 :: st) h := (mw_at mj_71_140).trans (z_sipush (by decide))
theorem mj_71_143 : mc_P 71 143 = some (.iconst 5, 1, 0, 0, 0) := by decide +kernel
theorem s_71_143 {x0 x1 : Option Value} : mw d 71 Q 143 [x0, x1] (st) h = mw d 71 Q 144 [x0, x1] (.int 5 :: st) h := (mw_at mj_71_143).trans (z_iconst (by decide))
theorem mj_71_144 : mc_P 71 144 = some (.invokevirtual 89, 3, 46, 3, 3) := by decide +kernel
theorem s_71_144 {x0 x1 : Option Value} {o : Nat} {a1 a2 : Value} : mw (d + 1) 71 Q 144 [x0, x1] (a2 :: a1 :: .ref o :: st) h = (mg h o 3 ∧ mca st 8 ∧ mca [.ref o, a1, a2] 3 ∧ mcall d 46 [.ref o, a1, a2] h (mK (d + 1) 71 Q 147 [x0, x1] st)) := (mw_at mj_71_144).trans ((z_invv (As := [a1, a2]) (by decide) rfl rfl).trans (congrArg (And _) (congrArg (And _) (mC_nl nl_46))))
theorem mj_71_147 : mc_P 71 147 = some (.aload_n 0, 1, 0, 0, 0) := by decide +kernel
theorem s_71_147 {x1 : Option Value} {w : Value} : mw d 71 Q 147 [some w, x1] (st) h = mv_a w (mw d 71 Q 148 [some w, x1] (w :: st) h) := (mw_at mj_71_147).trans (z_aload_n rfl)
theorem mj_71_148 : mc_P 71 148 = some (.sipush 166, 3, 0, 0, 0) := by decide +kernel
theorem s_71_148 {x0 x1 : Option Value} : mw d 71 Q 148 [x0, x1] (st) h = mw d 71 Q 151 [x0, x1] (.int 166 :: st) h := (mw_at mj_71_148).trans (z_sipush (by decide))
theorem mj_71_151 : mc_P 71 151 = some (.iconst 1, 1, 0, 0, 0) := by decide +kernel
theorem s_71_151 {x0 x1 : Option Value} : mw d 71 Q 151 [x0, x1] (st) h = mw d 71 Q 152 [x0, x1] (.int 1 :: st) h := (mw_at mj_71_151).trans (z_iconst (by decide))
theorem mj_71_152 : mc_P 71 152 = some (.iload_n 1, 1, 0, 0, 0) := by decide +kernel
theorem s_71_152 {x0 : Option Value} {w : Value} : mw d 71 Q 152 [x0, some w] (st) h = mv_i w (mw d 71 Q 153 [x0, some w] (w :: st) h) := (mw_at mj_71_152).trans (z_iload_n rfl)
theorem mj_71_153 : mc_P 71 153 = some (.isub, 1, 0, 0, 0) := by decide +kernel
theorem s_71_153 {x0 x1 : Option Value} {x w : Int32} : mw d 71 Q 153 [x0, x1] (.int w :: .int x :: st) h = mw d 71 Q 154 [x0, x1] (.int (x - w) :: st) h := (mw_at mj_71_153).trans (z_isub)
theorem mj_71_154 : mc_P 71 154 = some (.invokevirtual 89, 3, 46, 3, 3) := by decide +kernel
theorem s_71_154 {x0 x1 : Option Value} {o : Nat} {a1 a2 : Value} : mw (d + 1) 71 Q 154 [x0, x1] (a2 :: a1 :: .ref o :: st) h = (mg h o 3 ∧ mca st 8 ∧ mca [.ref o, a1, a2] 3 ∧ mcall d 46 [.ref o, a1, a2] h (mK (d + 1) 71 Q 157 [x0, x1] st)) := (mw_at mj_71_154).trans ((z_invv (As := [a1, a2]) (by decide) rfl rfl).trans (congrArg (And _) (congrArg (And _) (mC_nl nl_46))))
theorem mj_71_157 : mc_P 71 157 = some (.goto 34, 3, 0, 0, 0) := by decide +kernel
theorem s_71_157 {x0 x1 : Option Value} : mw d 71 Q 157 [x0, x1] (st) h = mw d 71 Q 191 [x0, x1] (st) h := (mw_at mj_71_157).trans (z_goto (by decide))
theorem mj_71_160 : mc_P 71 160 = some (.aload_n 0, 1, 0, 0, 0) := by decide +kernel
theorem s_71_160 {x1 : Option Value} {w : Value} : mw d 71 Q 160 [some w, x1] (st) h = mv_a w (mw d 71 Q 161 [some w, x1] (w :: st) h) := (mw_at mj_71_160).trans (z_aload_n rfl)
theorem mj_71_161 : mc_P 71 161 = some (.dup, 1, 0, 0, 0) := by decide +kernel
theorem s_71_161 {x0 x1 : Option Value} {w : Value} : mw d 71 Q 161 [x0, x1] (w :: st) h = (w.category = 1 ∧ mw d 71 Q 162 [x0, x1] (w :: w :: st) h) := (mw_at mj_71_161).trans (z_dup)
theorem mj_71_162 : mc_P 71 162 = some (.getfield 95, 3, 3, 5, 0) := by decide +kernel
theorem s_71_162 {x0 x1 : Option Value} {o : Nat} : mw d 71 Q 162 [x0, x1] (.ref o :: st) h = (mg h o 3 ∧ mw d 71 Q 165 [x0, x1] (.int (mh_i h o 5) :: st) h) := (mw_at mj_71_162).trans (z_geti (by decide) (by decide) (Or.inl rfl))
theorem mj_71_165 : mc_P 71 165 = some (.iconst 1, 1, 0, 0, 0) := by decide +kernel
theorem s_71_165 {x0 x1 : Option Value} : mw d 71 Q 165 [x0, x1] (st) h = mw d 71 Q 166 [x0, x1] (.int 1 :: st) h := (mw_at mj_71_165).trans (z_iconst (by decide))
theorem mj_71_166 : mc_P 71 166 = some (.iadd, 1, 0, 0, 0) := by decide +kernel
theorem s_71_166 {x0 x1 : Option Value} {x w : Int32} : mw d 71 Q 166 [x0, x1] (.int w :: .int x :: st) h = mw d 71 Q 167 [x0, x1] (.int (x + w) :: st) h := (mw_at mj_71_166).trans (z_iadd)
theorem mj_71_167 : mc_P 71 167 = some (.putfield 95, 3, 3, 5, 0) := by decide +kernel
theorem s_71_167 {x0 x1 : Option Value} {o : Nat} {w : Int32} : mw d 71 Q 167 [x0, x1] (.int w :: .ref o :: st) h = (mg h o 3 ∧ mw d 71 Q 170 [x0, x1] (st) (mh_si h o 5 w)) := (mw_at mj_71_167).trans (z_puti (by decide) (by decide) rfl)
theorem mj_71_170 : mc_P 71 170 = some (.aload_n 0, 1, 0, 0, 0) := by decide +kernel
theorem s_71_170 {x1 : Option Value} {w : Value} : mw d 71 Q 170 [some w, x1] (st) h = mv_a w (mw d 71 Q 171 [some w, x1] (w :: st) h) := (mw_at mj_71_170).trans (z_aload_n rfl)
theorem mj_71_171 : mc_P 71 171 = some (.bipush 41, 2, 0, 0, 0) := by decide +kernel
theorem s_71_171 {x0 x1 : Option Value} : mw d 71 Q 171 [x0, x1] (st) h = mw d 71 Q 173 [x0, x1] (.int 41 :: st) h := (mw_at mj_71_171).trans (z_bipush (by decide))
theorem mj_71_173 : mc_P 71 173 = some (.invokevirtual 51, 3, 45, 3, 2) := by decide +kernel
theorem s_71_173 {x0 x1 : Option Value} {o : Nat} {a1 : Value} : mw (d + 1) 71 Q 173 [x0, x1] (a1 :: .ref o :: st) h = (mg h o 3 ∧ mca st 8 ∧ mca [.ref o, a1] 2 ∧ mcall d 45 [.ref o, a1] h (mK (d + 1) 71 Q 176 [x0, x1] st)) := (mw_at mj_71_173).trans ((z_invv (As := [a1]) (by decide) rfl rfl).trans (congrArg (And _) (congrArg (And _) (mC_nl nl_45))))
theorem mj_71_176 : mc_P 71 176 = some (.aload_n 0, 1, 0, 0, 0) := by decide +kernel
theorem s_71_176 {x1 : Option Value} {w : Value} : mw d 71 Q 176 [some w, x1] (st) h = mv_a w (mw d 71 Q 177 [some w, x1] (w :: st) h) := (mw_at mj_71_176).trans (z_aload_n rfl)
theorem mj_71_177 : mc_P 71 177 = some (.sipush 162, 3, 0, 0, 0) := by decide +kernel
theorem s_71_177 {x0 x1 : Option Value} : mw d 71 Q 177 [x0, x1] (st) h = mw d 71 Q 180 [x0, x1] (.int 162 :: st) h := (mw_at mj_71_177).trans (z_sipush (by decide))
theorem mj_71_180 : mc_P 71 180 = some (.iload_n 1, 1, 0, 0, 0) := by decide +kernel
theorem s_71_180 {x0 : Option Value} {w : Value} : mw d 71 Q 180 [x0, some w] (st) h = mv_i w (mw d 71 Q 181 [x0, some w] (w :: st) h) := (mw_at mj_71_180).trans (z_iload_n rfl)
theorem mj_71_181 : mc_P 71 181 = some (.invokevirtual 89, 3, 46, 3, 3) := by decide +kernel
theorem s_71_181 {x0 x1 : Option Value} {o : Nat} {a1 a2 : Value} : mw (d + 1) 71 Q 181 [x0, x1] (a2 :: a1 :: .ref o :: st) h = (mg h o 3 ∧ mca st 8 ∧ mca [.ref o, a1, a2] 3 ∧ mcall d 46 [.ref o, a1, a2] h (mK (d + 1) 71 Q 184 [x0, x1] st)) := (mw_at mj_71_181).trans ((z_invv (As := [a1, a2]) (by decide) rfl rfl).trans (congrArg (And _) (congrArg (And _) (mC_nl nl_46))))
theorem mj_71_184 : mc_P 71 184 = some (.goto 7, 3, 0, 0, 0) := by decide +kernel
theorem s_71_184 {x0 x1 : Option Value} : mw d 71 Q 184 [x0, x1] (st) h = mw d 71 Q 191 [x0, x1] (st) h := (mw_at mj_71_184).trans (z_goto (by decide))
theorem mj_71_187 : mc_P 71 187 = some (.aload_n 0, 1, 0, 0, 0) := by decide +kernel
theorem s_71_187 {x1 : Option Value} {w : Value} : mw d 71 Q 187 [some w, x1] (st) h = mv_a w (mw d 71 Q 188 [some w, x1] (w :: st) h) := (mw_at mj_71_187).trans (z_aload_n rfl)
theorem mj_71_188 : mc_P 71 188 = some (.invokevirtual 111, 3, 50, 3, 1) := by decide +kernel
theorem s_71_188 {x0 x1 : Option Value} {o : Nat} : mw (d + 1) 71 Q 188 [x0, x1] (.ref o :: st) h = (mg h o 3 ∧ mca st 8 ∧ mca [.ref o] 1 ∧ mcall d 50 [.ref o] h (mK (d + 1) 71 Q 191 [x0, x1] st)) := (mw_at mj_71_188).trans ((z_invv (As := []) (by decide) rfl rfl).trans (congrArg (And _) (congrArg (And _) (mC_nl nl_50))))
theorem mj_71_191 : mc_P 71 191 = some (.return_, 1, 0, 0, 0) := by decide +kernel
theorem s_71_191 {x0 x1 : Option Value} : mw d 71 Q 191 [x0, x1] ([]) h = Q none h := (mw_at mj_71_191).trans (z_vret)
theorem e_71 {a0 : Nat} {a1 : Int32} : mcall d 71 [.ref a0, .int a1] h Q = mw d 71 Q 0 [some (.ref a0), some (.int a1)] [] h := by
  show mw d 71 Q 0 (me_en (mc_nl 71) _) [] h = _
  rw [nl_71]; rfl

/-! InvariantDesk$Parser.readNamed(I)V -/
theorem mj_72_0 : mc_P 72 0 = some (.aload_n 0, 1, 0, 0, 0) := by decide +kernel
theorem s_72_0 {x1 x2 : Option Value} {w : Value} : mw d 72 Q 0 [some w, x1, x2] (st) h = mv_a w (mw d 72 Q 1 [some w, x1, x2] (w :: st) h) := (mw_at mj_72_0).trans (z_aload_n rfl)
theorem mj_72_1 : mc_P 72 1 = some (.iconst 1, 1, 0, 0, 0) := by decide +kernel
theorem s_72_1 {x0 x1 x2 : Option Value} : mw d 72 Q 1 [x0, x1, x2] (st) h = mw d 72 Q 2 [x0, x1, x2] (.int 1 :: st) h := (mw_at mj_72_1).trans (z_iconst (by decide))
theorem mj_72_2 : mc_P 72 2 = some (.invokevirtual 187, 3, 48, 3, 2) := by decide +kernel
theorem s_72_2 {x0 x1 x2 : Option Value} {o : Nat} {a1 : Value} : mw (d + 1) 72 Q 2 [x0, x1, x2] (a1 :: .ref o :: st) h = (mg h o 3 ∧ mca st 8 ∧ mca [.ref o, a1] 2 ∧ mcall d 48 [.ref o, a1] h (mK (d + 1) 72 Q 5 [x0, x1, x2] st)) := (mw_at mj_72_2).trans ((z_invv (As := [a1]) (by decide) rfl rfl).trans (congrArg (And _) (congrArg (And _) (mC_nl nl_48))))
theorem mj_72_5 : mc_P 72 5 = some (.bipush 91, 2, 0, 0, 0) := by decide +kernel
theorem s_72_5 {x0 x1 x2 : Option Value} : mw d 72 Q 5 [x0, x1, x2] (st) h = mw d 72 Q 7 [x0, x1, x2] (.int 91 :: st) h := (mw_at mj_72_5).trans (z_bipush (by decide))
theorem mj_72_7 : mc_P 72 7 = some (.if_icmp .ne 93, 3, 0, 0, 0) := by decide +kernel
theorem s_72_7 {x0 x1 x2 : Option Value} {x w : Int32} : mw d 72 Q 7 [x0, x1, x2] (.int w :: .int x :: st) h = mB (¬ x = w) (mw d 72 Q) 100 10 [x0, x1, x2] st h := (mw_at mj_72_7).trans (z_icmp_ne (by decide) rfl)
theorem mj_72_10 : mc_P 72 10 = some (.aload_n 0, 1, 0, 0, 0) := by decide +kernel
theorem s_72_10 {x1 x2 : Option Value} {w : Value} : mw d 72 Q 10 [some w, x1, x2] (st) h = mv_a w (mw d 72 Q 11 [some w, x1, x2] (w :: st) h) := (mw_at mj_72_10).trans (z_aload_n rfl)
theorem mj_72_11 : mc_P 72 11 = some (.invokevirtual 200, 3, 65, 3, 1) := by decide +kernel
theorem s_72_11 {x0 x1 x2 : Option Value} {o : Nat} : mw (d + 1) 72 Q 11 [x0, x1, x2] (.ref o :: st) h = (mg h o 3 ∧ mca st 8 ∧ mca [.ref o] 2 ∧ mcall d 65 [.ref o] h (mK (d + 1) 72 Q 14 [x0, x1, x2] st)) := (mw_at mj_72_11).trans ((z_invv (As := []) (by decide) rfl rfl).trans (congrArg (And _) (congrArg (And _) (mC_nl nl_65))))
theorem mj_72_14 : mc_P 72 14 = some (.istore_n 2, 1, 0, 0, 0) := by decide +kernel
theorem s_72_14 {x0 x1 x2 : Option Value} {w : Int32} : mw d 72 Q 14 [x0, x1, x2] (.int w :: st) h = mw d 72 Q 15 [x0, mk2 x1, some (.int w)] (st) h := (mw_at mj_72_14).trans (z_istore_n (Nat.le_of_ble_eq_true rfl) (me_s1_mk (j := 1) (w := x1) rfl))
theorem mj_72_15 : mc_P 72 15 = some (.aload_n 0, 1, 0, 0, 0) := by decide +kernel
theorem s_72_15 {x1 x2 : Option Value} {w : Value} : mw d 72 Q 15 [some w, x1, x2] (st) h = mv_a w (mw d 72 Q 16 [some w, x1, x2] (w :: st) h) := (mw_at mj_72_15).trans (z_aload_n rfl)
theorem mj_72_16 : mc_P 72 16 = some (.sipush 169, 3, 0, 0, 0) := by decide +kernel
theorem s_72_16 {x0 x1 x2 : Option Value} : mw d 72 Q 16 [x0, x1, x2] (st) h = mw d 72 Q 19 [x0, x1, x2] (.int 169 :: st) h := (mw_at mj_72_16).trans (z_sipush (by decide))
theorem mj_72_19 : mc_P 72 19 = some (.iconst 2, 1, 0, 0, 0) := by decide +kernel
theorem s_72_19 {x0 x1 x2 : Option Value} : mw d 72 Q 19 [x0, x1, x2] (st) h = mw d 72 Q 20 [x0, x1, x2] (.int 2 :: st) h := (mw_at mj_72_19).trans (z_iconst (by decide))
theorem mj_72_20 : mc_P 72 20 = some (.aload_n 0, 1, 0, 0, 0) := by decide +kernel
theorem s_72_20 {x1 x2 : Option Value} {w : Value} : mw d 72 Q 20 [some w, x1, x2] (st) h = mv_a w (mw d 72 Q 21 [some w, x1, x2] (w :: st) h) := (mw_at mj_72_20).trans (z_aload_n rfl)
theorem mj_72_21 : mc_P 72 21 = some (.getfield 23, 3, 3, 1, 0) := by decide +kernel
theorem s_72_21 {x0 x1 x2 : Option Value} {o : Nat} : mw d 72 Q 21 [x0, x1, x2] (.ref o :: st) h = (mg h o 3 ∧ mw d 72 Q 24 [x0, x1, x2] (va_rf (mh_r h o 1) :: st) h) := (mw_at mj_72_21).trans (z_getr (by decide) (by decide) rfl)
theorem mj_72_24 : mc_P 72 24 = some (.getfield 294, 3, 7, 5, 0) := by decide +kernel
theorem s_72_24 {x0 x1 x2 : Option Value} {o : Nat} : mw d 72 Q 24 [x0, x1, x2] (.ref o :: st) h = (mg h o 7 ∧ mw d 72 Q 27 [x0, x1, x2] (.int (mh_i h o 5) :: st) h) := (mw_at mj_72_24).trans (z_geti (by decide) (by decide) (Or.inl rfl))
theorem mj_72_27 : mc_P 72 27 = some (.imul, 1, 0, 0, 0) := by decide +kernel
theorem s_72_27 {x0 x1 x2 : Option Value} {x w : Int32} : mw d 72 Q 27 [x0, x1, x2] (.int w :: .int x :: st) h = mw d 72 Q 28 [x0, x1, x2] (.int (x * w) :: st) h := (mw_at mj_72_27).trans (z_imul)
theorem mj_72_28 : mc_P 72 28 = some (.iload_n 1, 1, 0, 0, 0) := by decide +kernel
theorem s_72_28 {x0 x2 : Option Value} {w : Value} : mw d 72 Q 28 [x0, some w, x2] (st) h = mv_i w (mw d 72 Q 29 [x0, some w, x2] (w :: st) h) := (mw_at mj_72_28).trans (z_iload_n rfl)
theorem mj_72_29 : mc_P 72 29 = some (.iadd, 1, 0, 0, 0) := by decide +kernel
theorem s_72_29 {x0 x1 x2 : Option Value} {x w : Int32} : mw d 72 Q 29 [x0, x1, x2] (.int w :: .int x :: st) h = mw d 72 Q 30 [x0, x1, x2] (.int (x + w) :: st) h := (mw_at mj_72_29).trans (z_iadd)
theorem mj_72_30 : mc_P 72 30 = some (.invokevirtual 89, 3, 46, 3, 3) := by decide +kernel
theorem s_72_30 {x0 x1 x2 : Option Value} {o : Nat} {a1 a2 : Value} : mw (d + 1) 72 Q 30 [x0, x1, x2] (a2 :: a1 :: .ref o :: st) h = (mg h o 3 ∧ mca st 8 ∧ mca [.ref o, a1, a2] 3 ∧ mcall d 46 [.ref o, a1, a2] h (mK (d + 1) 72 Q 33 [x0, x1, x2] st)) := (mw_at mj_72_30).trans ((z_invv (As := [a1, a2]) (by decide) rfl rfl).trans (congrArg (And _) (congrArg (And _) (mC_nl nl_46))))
theorem mj_72_33 : mc_P 72 33 = some (.aload_n 0, 1, 0, 0, 0) := by decide +kernel
theorem s_72_33 {x1 x2 : Option Value} {w : Value} : mw d 72 Q 33 [some w, x1, x2] (st) h = mv_a w (mw d 72 Q 34 [some w, x1, x2] (w :: st) h) := (mw_at mj_72_33).trans (z_aload_n rfl)
theorem mj_72_34 : mc_P 72 34 = some (.sipush 168, 3, 0, 0, 0) := by decide +kernel
theorem s_72_34 {x0 x1 x2 : Option Value} : mw d 72 Q 34 [x0, x1, x2] (st) h = mw d 72 Q 37 [x0, x1, x2] (.int 168 :: st) h := (mw_at mj_72_34).trans (z_sipush (by decide))
theorem mj_72_37 : mc_P 72 37 = some (.iload_n 2, 1, 0, 0, 0) := by decide +kernel
theorem s_72_37 {x0 x1 : Option Value} {w : Value} : mw d 72 Q 37 [x0, x1, some w] (st) h = mv_i w (mw d 72 Q 38 [x0, x1, some w] (w :: st) h) := (mw_at mj_72_37).trans (z_iload_n rfl)
theorem mj_72_38 : mc_P 72 38 = some (.iconst (-1), 1, 0, 0, 0) := by decide +kernel
theorem s_72_38 {x0 x1 x2 : Option Value} : mw d 72 Q 38 [x0, x1, x2] (st) h = mw d 72 Q 39 [x0, x1, x2] (.int (-1) :: st) h := (mw_at mj_72_38).trans (z_iconst (by decide))
theorem mj_72_39 : mc_P 72 39 = some (.if_icmp .ne 7, 3, 0, 0, 0) := by decide +kernel
theorem s_72_39 {x0 x1 x2 : Option Value} {x w : Int32} : mw d 72 Q 39 [x0, x1, x2] (.int w :: .int x :: st) h = mB (¬ x = w) (mw d 72 Q) 46 42 [x0, x1, x2] st h := (mw_at mj_72_39).trans (z_icmp_ne (by decide) rfl)
theorem mj_72_42 : mc_P 72 42 = some (.iconst 1, 1, 0, 0, 0) := by decide +kernel
theorem s_72_42 {x0 x1 x2 : Option Value} : mw d 72 Q 42 [x0, x1, x2] (st) h = mw d 72 Q 43 [x0, x1, x2] (.int 1 :: st) h := (mw_at mj_72_42).trans (z_iconst (by decide))
theorem mj_72_43 : mc_P 72 43 = some (.goto 28, 3, 0, 0, 0) := by decide +kernel
theorem s_72_43 {x0 x1 x2 : Option Value} : mw d 72 Q 43 [x0, x1, x2] (st) h = mw d 72 Q 71 [x0, x1, x2] (st) h := (mw_at mj_72_43).trans (z_goto (by decide))
theorem mj_72_46 : mc_P 72 46 = some (.sipush 128, 3, 0, 0, 0) := by decide +kernel
theorem s_72_46 {x0 x1 x2 : Option Value} : mw d 72 Q 46 [x0, x1, x2] (st) h = mw d 72 Q 49 [x0, x1, x2] (.int 128 :: st) h := (mw_at mj_72_46).trans (z_sipush (by decide))
theorem mj_72_49 : mc_P 72 49 = some (.aload_n 0, 1, 0, 0, 0) := by decide +kernel
theorem s_72_49 {x1 x2 : Option Value} {w : Value} : mw d 72 Q 49 [some w, x1, x2] (st) h = mv_a w (mw d 72 Q 50 [some w, x1, x2] (w :: st) h) := (mw_at mj_72_49).trans (z_aload_n rfl)
theorem mj_72_50 : mc_P 72 50 = some (.getfield 32, 3, 3, 2, 0) := by decide +kernel
theorem s_72_50 {x0 x1 x2 : Option Value} {o : Nat} : mw d 72 Q 50 [x0, x1, x2] (.ref o :: st) h = (mg h o 3 ∧ mw d 72 Q 53 [x0, x1, x2] (va_rf (mh_r h o 2) :: st) h) := (mw_at mj_72_50).trans (z_getr (by decide) (by decide) rfl)
theorem mj_72_53 : mc_P 72 53 = some (.iload_n 2, 1, 0, 0, 0) := by decide +kernel
theorem s_72_53 {x0 x1 : Option Value} {w : Value} : mw d 72 Q 53 [x0, x1, some w] (st) h = mv_i w (mw d 72 Q 54 [x0, x1, some w] (w :: st) h) := (mw_at mj_72_53).trans (z_iload_n rfl)
theorem mj_72_54 : mc_P 72 54 = some (.invokevirtual 203, 3, 123, 6, 2) := by decide +kernel
theorem s_72_54 {x0 x1 x2 : Option Value} {o : Nat} {a1 : Value} : mw (d + 1) 72 Q 54 [x0, x1, x2] (a1 :: .ref o :: st) h = (mg h o 6 ∧ mca st 8 ∧ mca [.ref o, a1] 2 ∧ mcall d 123 [.ref o, a1] h (mK (d + 1) 72 Q 57 [x0, x1, x2] st)) := (mw_at mj_72_54).trans ((z_invv (As := [a1]) (by decide) rfl rfl).trans (congrArg (And _) (congrArg (And _) (mC_nl nl_123))))
theorem mj_72_57 : mc_P 72 57 = some (.imul, 1, 0, 0, 0) := by decide +kernel
theorem s_72_57 {x0 x1 x2 : Option Value} {x w : Int32} : mw d 72 Q 57 [x0, x1, x2] (.int w :: .int x :: st) h = mw d 72 Q 58 [x0, x1, x2] (.int (x * w) :: st) h := (mw_at mj_72_57).trans (z_imul)
theorem mj_72_58 : mc_P 72 58 = some (.aload_n 0, 1, 0, 0, 0) := by decide +kernel
theorem s_72_58 {x1 x2 : Option Value} {w : Value} : mw d 72 Q 58 [some w, x1, x2] (st) h = mv_a w (mw d 72 Q 59 [some w, x1, x2] (w :: st) h) := (mw_at mj_72_58).trans (z_aload_n rfl)
theorem mj_72_59 : mc_P 72 59 = some (.getfield 32, 3, 3, 2, 0) := by decide +kernel
theorem s_72_59 {x0 x1 x2 : Option Value} {o : Nat} : mw d 72 Q 59 [x0, x1, x2] (.ref o :: st) h = (mg h o 3 ∧ mw d 72 Q 62 [x0, x1, x2] (va_rf (mh_r h o 2) :: st) h) := (mw_at mj_72_59).trans (z_getr (by decide) (by decide) rfl)
theorem mj_72_62 : mc_P 72 62 = some (.iload_n 2, 1, 0, 0, 0) := by decide +kernel
theorem s_72_62 {x0 x1 : Option Value} {w : Value} : mw d 72 Q 62 [x0, x1, some w] (st) h = mv_i w (mw d 72 Q 63 [x0, x1, some w] (w :: st) h) := (mw_at mj_72_62).trans (z_iload_n rfl)
theorem mj_72_63 : mc_P 72 63 = some (.invokevirtual 206, 3, 124, 6, 2) := by decide +kernel
theorem s_72_63 {x0 x1 x2 : Option Value} {o : Nat} {a1 : Value} : mw (d + 1) 72 Q 63 [x0, x1, x2] (a1 :: .ref o :: st) h = (mg h o 6 ∧ mca st 8 ∧ mca [.ref o, a1] 2 ∧ mcall d 124 [.ref o, a1] h (mK (d + 1) 72 Q 66 [x0, x1, x2] st)) := (mw_at mj_72_63).trans ((z_invv (As := [a1]) (by decide) rfl rfl).trans (congrArg (And _) (congrArg (And _) (mC_nl nl_124))))
theorem mj_72_66 : mc_P 72 66 = some (.sipush 128, 3, 0, 0, 0) := by decide +kernel
theorem s_72_66 {x0 x1 x2 : Option Value} : mw d 72 Q 66 [x0, x1, x2] (st) h = mw d 72 Q 69 [x0, x1, x2] (.int 128 :: st) h := (mw_at mj_72_66).trans (z_sipush (by decide))
theorem mj_72_69 : mc_P 72 69 = some (.irem, 1, 0, 0, 0) := by decide +kernel
theorem s_72_69 {x0 x1 x2 : Option Value} {x w : Int32} : mw d 72 Q 69 [x0, x1, x2] (.int w :: .int x :: st) h = (¬ w = 0 ∧ mw d 72 Q 70 [x0, x1, x2] (.int (x - x / w * w) :: st) h) := (mw_at mj_72_69).trans (z_irem)
theorem mj_72_70 : mc_P 72 70 = some (.iadd, 1, 0, 0, 0) := by decide +kernel
theorem s_72_70 {x0 x1 x2 : Option Value} {x w : Int32} : mw d 72 Q 70 [x0, x1, x2] (.int w :: .int x :: st) h = mw d 72 Q 71 [x0, x1, x2] (.int (x + w) :: st) h := (mw_at mj_72_70).trans (z_iadd)
theorem mj_72_71 : mc_P 72 71 = some (.invokevirtual 89, 3, 46, 3, 3) := by decide +kernel
theorem s_72_71 {x0 x1 x2 : Option Value} {o : Nat} {a1 a2 : Value} : mw (d + 1) 72 Q 71 [x0, x1, x2] (a2 :: a1 :: .ref o :: st) h = (mg h o 3 ∧ mca st 8 ∧ mca [.ref o, a1, a2] 3 ∧ mcall d 46 [.ref o, a1, a2] h (mK (d + 1) 72 Q 74 [x0, x1, x2] st)) := (mw_at mj_72_71).trans ((z_invv (As := [a1, a2]) (by decide) rfl rfl).trans (congrArg (And _) (congrArg (And _) (mC_nl nl_46))))
theorem mj_72_74 : mc_P 72 74 = some (.aload_n 0, 1, 0, 0, 0) := by decide +kernel
theorem s_72_74 {x1 x2 : Option Value} {w : Value} : mw d 72 Q 74 [some w, x1, x2] (st) h = mv_a w (mw d 72 Q 75 [some w, x1, x2] (w :: st) h) := (mw_at mj_72_74).trans (z_aload_n rfl)
theorem mj_72_75 : mc_P 72 75 = some (.bipush 93, 2, 0, 0, 0) := by decide +kernel
theorem s_72_75 {x0 x1 x2 : Option Value} : mw d 72 Q 75 [x0, x1, x2] (st) h = mw d 72 Q 77 [x0, x1, x2] (.int 93 :: st) h := (mw_at mj_72_75).trans (z_bipush (by decide))
theorem mj_72_77 : mc_P 72 77 = some (.invokevirtual 51, 3, 45, 3, 2) := by decide +kernel
theorem s_72_77 {x0 x1 x2 : Option Value} {o : Nat} {a1 : Value} : mw (d + 1) 72 Q 77 [x0, x1, x2] (a1 :: .ref o :: st) h = (mg h o 3 ∧ mca st 8 ∧ mca [.ref o, a1] 2 ∧ mcall d 45 [.ref o, a1] h (mK (d + 1) 72 Q 80 [x0, x1, x2] st)) := (mw_at mj_72_77).trans ((z_invv (As := [a1]) (by decide) rfl rfl).trans (congrArg (And _) (congrArg (And _) (mC_nl nl_45))))
theorem mj_72_80 : mc_P 72 80 = some (.aload_n 0, 1, 0, 0, 0) := by decide +kernel
theorem s_72_80 {x1 x2 : Option Value} {w : Value} : mw d 72 Q 80 [some w, x1, x2] (st) h = mv_a w (mw d 72 Q 81 [some w, x1, x2] (w :: st) h) := (mw_at mj_72_80).trans (z_aload_n rfl)
theorem mj_72_81 : mc_P 72 81 = some (.sipush 162, 3, 0, 0, 0) := by decide +kernel
theorem s_72_81 {x0 x1 x2 : Option Value} : mw d 72 Q 81 [x0, x1, x2] (st) h = mw d 72 Q 84 [x0, x1, x2] (.int 162 :: st) h := (mw_at mj_72_81).trans (z_sipush (by decide))
theorem mj_72_84 : mc_P 72 84 = some (.invokevirtual 51, 3, 45, 3, 2) := by decide +kernel
theorem s_72_84 {x0 x1 x2 : Option Value} {o : Nat} {a1 : Value} : mw (d + 1) 72 Q 84 [x0, x1, x2] (a1 :: .ref o :: st) h = (mg h o 3 ∧ mca st 8 ∧ mca [.ref o, a1] 2 ∧ mcall d 45 [.ref o, a1] h (mK (d + 1) 72 Q 87 [x0, x1, x2] st)) := (mw_at mj_72_84).trans ((z_invv (As := [a1]) (by decide) rfl rfl).trans (congrArg (And _) (congrArg (And _) (mC_nl nl_45))))
theorem mj_72_87 : mc_P 72 87 = some (.aload_n 0, 1, 0, 0, 0) := by decide +kernel
theorem s_72_87 {x1 x2 : Option Value} {w : Value} : mw d 72 Q 87 [some w, x1, x2] (st) h = mv_a w (mw d 72 Q 88 [some w, x1, x2] (w :: st) h) := (mw_at mj_72_87).trans (z_aload_n rfl)
theorem mj_72_88 : mc_P 72 88 = some (.dup, 1, 0, 0, 0) := by decide +kernel
theorem s_72_88 {x0 x1 x2 : Option Value} {w : Value} : mw d 72 Q 88 [x0, x1, x2] (w :: st) h = (w.category = 1 ∧ mw d 72 Q 89 [x0, x1, x2] (w :: w :: st) h) := (mw_at mj_72_88).trans (z_dup)
theorem mj_72_89 : mc_P 72 89 = some (.getfield 95, 3, 3, 5, 0) := by decide +kernel
theorem s_72_89 {x0 x1 x2 : Option Value} {o : Nat} : mw d 72 Q 89 [x0, x1, x2] (.ref o :: st) h = (mg h o 3 ∧ mw d 72 Q 92 [x0, x1, x2] (.int (mh_i h o 5) :: st) h) := (mw_at mj_72_89).trans (z_geti (by decide) (by decide) (Or.inl rfl))
theorem mj_72_92 : mc_P 72 92 = some (.iconst 2, 1, 0, 0, 0) := by decide +kernel
theorem s_72_92 {x0 x1 x2 : Option Value} : mw d 72 Q 92 [x0, x1, x2] (st) h = mw d 72 Q 93 [x0, x1, x2] (.int 2 :: st) h := (mw_at mj_72_92).trans (z_iconst (by decide))
theorem mj_72_93 : mc_P 72 93 = some (.iadd, 1, 0, 0, 0) := by decide +kernel
theorem s_72_93 {x0 x1 x2 : Option Value} {x w : Int32} : mw d 72 Q 93 [x0, x1, x2] (.int w :: .int x :: st) h = mw d 72 Q 94 [x0, x1, x2] (.int (x + w) :: st) h := (mw_at mj_72_93).trans (z_iadd)
theorem mj_72_94 : mc_P 72 94 = some (.putfield 95, 3, 3, 5, 0) := by decide +kernel
theorem s_72_94 {x0 x1 x2 : Option Value} {o : Nat} {w : Int32} : mw d 72 Q 94 [x0, x1, x2] (.int w :: .ref o :: st) h = (mg h o 3 ∧ mw d 72 Q 97 [x0, x1, x2] (st) (mh_si h o 5 w)) := (mw_at mj_72_94).trans (z_puti (by decide) (by decide) rfl)
theorem mj_72_97 : mc_P 72 97 = some (.goto 37, 3, 0, 0, 0) := by decide +kernel
theorem s_72_97 {x0 x1 x2 : Option Value} : mw d 72 Q 97 [x0, x1, x2] (st) h = mw d 72 Q 134 [x0, x1, x2] (st) h := (mw_at mj_72_97).trans (z_goto (by decide))
theorem mj_72_100 : mc_P 72 100 = some (.aload_n 0, 1, 0, 0, 0) := by decide +kernel
theorem s_72_100 {x1 x2 : Option Value} {w : Value} : mw d 72 Q 100 [some w, x1, x2] (st) h = mv_a w (mw d 72 Q 101 [some w, x1, x2] (w :: st) h) := (mw_at mj_72_100).trans (z_aload_n rfl)
theorem mj_72_101 : mc_P 72 101 = some (.invokevirtual 194, 3, 64, 3, 1) := by decide +kernel
theorem s_72_101 {x0 x1 x2 : Option Value} {o : Nat} : mw (d + 1) 72 Q 101 [x0, x1, x2] (.ref o :: st) h = (mg h o 3 ∧ mca st 8 ∧ mca [.ref o] 2 ∧ mcall d 64 [.ref o] h (mK (d + 1) 72 Q 104 [x0, x1, x2] st)) := (mw_at mj_72_101).trans ((z_invv (As := []) (by decide) rfl rfl).trans (congrArg (And _) (congrArg (And _) (mC_nl nl_64))))
theorem mj_72_104 : mc_P 72 104 = some (.istore_n 2, 1, 0, 0, 0) := by decide +kernel
theorem s_72_104 {x0 x1 x2 : Option Value} {w : Int32} : mw d 72 Q 104 [x0, x1, x2] (.int w :: st) h = mw d 72 Q 105 [x0, mk2 x1, some (.int w)] (st) h := (mw_at mj_72_104).trans (z_istore_n (Nat.le_of_ble_eq_true rfl) (me_s1_mk (j := 1) (w := x1) rfl))
theorem mj_72_105 : mc_P 72 105 = some (.aload_n 0, 1, 0, 0, 0) := by decide +kernel
theorem s_72_105 {x1 x2 : Option Value} {w : Value} : mw d 72 Q 105 [some w, x1, x2] (st) h = mv_a w (mw d 72 Q 106 [some w, x1, x2] (w :: st) h) := (mw_at mj_72_105).trans (z_aload_n rfl)
theorem mj_72_106 : mc_P 72 106 = some (.getfield 23, 3, 3, 1, 0) := by decide +kernel
theorem s_72_106 {x0 x1 x2 : Option Value} {o : Nat} : mw d 72 Q 106 [x0, x1, x2] (.ref o :: st) h = (mg h o 3 ∧ mw d 72 Q 109 [x0, x1, x2] (va_rf (mh_r h o 1) :: st) h) := (mw_at mj_72_106).trans (z_getr (by decide) (by decide) rfl)
theorem mj_72_109 : mc_P 72 109 = some (.iconst 2, 1, 0, 0, 0) := by decide +kernel
theorem s_72_109 {x0 x1 x2 : Option Value} : mw d 72 Q 109 [x0, x1, x2] (st) h = mw d 72 Q 110 [x0, x1, x2] (.int 2 :: st) h := (mw_at mj_72_109).trans (z_iconst (by decide))
theorem mj_72_110 : mc_P 72 110 = some (.iload_n 2, 1, 0, 0, 0) := by decide +kernel
theorem s_72_110 {x0 x1 : Option Value} {w : Value} : mw d 72 Q 110 [x0, x1, some w] (st) h = mv_i w (mw d 72 Q 111 [x0, x1, some w] (w :: st) h) := (mw_at mj_72_110).trans (z_iload_n rfl)
theorem mj_72_111 : mc_P 72 111 = some (.iconst 0, 1, 0, 0, 0) := by decide +kernel
theorem s_72_111 {x0 x1 x2 : Option Value} : mw d 72 Q 111 [x0, x1, x2] (st) h = mw d 72 Q 112 [x0, x1, x2] (.int 0 :: st) h := (mw_at mj_72_111).trans (z_iconst (by decide))
theorem mj_72_112 : mc_P 72 112 = some (.invokevirtual 297, 3, 126, 7, 4) := by decide +kernel
theorem s_72_112 {x0 x1 x2 : Option Value} {o : Nat} {a1 a2 a3 : Value} : mw (d + 1) 72 Q 112 [x0, x1, x2] (a3 :: a2 :: a1 :: .ref o :: st) h = (mg h o 7 ∧ mca st 8 ∧ mca [.ref o, a1, a2, a3] 4 ∧ mcall d 126 [.ref o, a1, a2, a3] h (mK (d + 1) 72 Q 115 [x0, x1, x2] st)) := (mw_at mj_72_112).trans ((z_invv (As := [a1, a2, a3]) (by decide) rfl rfl).trans (congrArg (And _) (congrArg (And _) (mC_nl nl_126))))
theorem mj_72_115 : mc_P 72 115 = some (.aload_n 0, 1, 0, 0, 0) := by decide +kernel
theorem s_72_115 {x1 x2 : Option Value} {w : Value} : mw d 72 Q 115 [some w, x1, x2] (st) h = mv_a w (mw d 72 Q 116 [some w, x1, x2] (w :: st) h) := (mw_at mj_72_115).trans (z_aload_n rfl)
theorem mj_72_116 : mc_P 72 116 = some (.getfield 23, 3, 3, 1, 0) := by decide +kernel
theorem s_72_116 {x0 x1 x2 : Option Value} {o : Nat} : mw d 72 Q 116 [x0, x1, x2] (.ref o :: st) h = (mg h o 3 ∧ mw d 72 Q 119 [x0, x1, x2] (va_rf (mh_r h o 1) :: st) h) := (mw_at mj_72_116).trans (z_getr (by decide) (by decide) rfl)
theorem mj_72_119 : mc_P 72 119 = some (.iload_n 1, 1, 0, 0, 0) := by decide +kernel
theorem s_72_119 {x0 x2 : Option Value} {w : Value} : mw d 72 Q 119 [x0, some w, x2] (st) h = mv_i w (mw d 72 Q 120 [x0, some w, x2] (w :: st) h) := (mw_at mj_72_119).trans (z_iload_n rfl)
theorem mj_72_120 : mc_P 72 120 = some (.iload_n 2, 1, 0, 0, 0) := by decide +kernel
theorem s_72_120 {x0 x1 : Option Value} {w : Value} : mw d 72 Q 120 [x0, x1, some w] (st) h = mv_i w (mw d 72 Q 121 [x0, x1, some w] (w :: st) h) := (mw_at mj_72_120).trans (z_iload_n rfl)
theorem mj_72_121 : mc_P 72 121 = some (.invokevirtual 304, 3, 127, 7, 3) := by decide +kernel
theorem s_72_121 {x0 x1 x2 : Option Value} {o : Nat} {a1 a2 : Value} : mw (d + 1) 72 Q 121 [x0, x1, x2] (a2 :: a1 :: .ref o :: st) h = (mg h o 7 ∧ mca st 8 ∧ mca [.ref o, a1, a2] 3 ∧ mcall d 127 [.ref o, a1, a2] h (mK (d + 1) 72 Q 124 [x0, x1, x2] st)) := (mw_at mj_72_121).trans ((z_invv (As := [a1, a2]) (by decide) rfl rfl).trans (congrArg (And _) (congrArg (And _) (mC_nl nl_127))))
theorem mj_72_124 : mc_P 72 124 = some (.aload_n 0, 1, 0, 0, 0) := by decide +kernel
theorem s_72_124 {x1 x2 : Option Value} {w : Value} : mw d 72 Q 124 [some w, x1, x2] (st) h = mv_a w (mw d 72 Q 125 [some w, x1, x2] (w :: st) h) := (mw_at mj_72_124).trans (z_aload_n rfl)
theorem mj_72_125 : mc_P 72 125 = some (.dup, 1, 0, 0, 0) := by decide +kernel
theorem s_72_125 {x0 x1 x2 : Option Value} {w : Value} : mw d 72 Q 125 [x0, x1, x2] (w :: st) h = (w.category = 1 ∧ mw d 72 Q 126 [x0, x1, x2] (w :: w :: st) h) := (mw_at mj_72_125).trans (z_dup)
theorem mj_72_126 : mc_P 72 126 = some (.getfield 95, 3, 3, 5, 0) := by decide +kernel
theorem s_72_126 {x0 x1 x2 : Option Value} {o : Nat} : mw d 72 Q 126 [x0, x1, x2] (.ref o :: st) h = (mg h o 3 ∧ mw d 72 Q 129 [x0, x1, x2] (.int (mh_i h o 5) :: st) h) := (mw_at mj_72_126).trans (z_geti (by decide) (by decide) (Or.inl rfl))
theorem mj_72_129 : mc_P 72 129 = some (.iconst 1, 1, 0, 0, 0) := by decide +kernel
theorem s_72_129 {x0 x1 x2 : Option Value} : mw d 72 Q 129 [x0, x1, x2] (st) h = mw d 72 Q 130 [x0, x1, x2] (.int 1 :: st) h := (mw_at mj_72_129).trans (z_iconst (by decide))
theorem mj_72_130 : mc_P 72 130 = some (.iadd, 1, 0, 0, 0) := by decide +kernel
theorem s_72_130 {x0 x1 x2 : Option Value} {x w : Int32} : mw d 72 Q 130 [x0, x1, x2] (.int w :: .int x :: st) h = mw d 72 Q 131 [x0, x1, x2] (.int (x + w) :: st) h := (mw_at mj_72_130).trans (z_iadd)
theorem mj_72_131 : mc_P 72 131 = some (.putfield 95, 3, 3, 5, 0) := by decide +kernel
theorem s_72_131 {x0 x1 x2 : Option Value} {o : Nat} {w : Int32} : mw d 72 Q 131 [x0, x1, x2] (.int w :: .ref o :: st) h = (mg h o 3 ∧ mw d 72 Q 134 [x0, x1, x2] (st) (mh_si h o 5 w)) := (mw_at mj_72_131).trans (z_puti (by decide) (by decide) rfl)
theorem mj_72_134 : mc_P 72 134 = some (.return_, 1, 0, 0, 0) := by decide +kernel
theorem s_72_134 {x0 x1 x2 : Option Value} : mw d 72 Q 134 [x0, x1, x2] ([]) h = Q none h := (mw_at mj_72_134).trans (z_vret)
theorem e_72 {a0 : Nat} {a1 : Int32} : mcall d 72 [.ref a0, .int a1] h Q = mw d 72 Q 0 [some (.ref a0), some (.int a1), none] [] h := by
  show mw d 72 Q 0 (me_en (mc_nl 72) _) [] h = _
  rw [nl_72]; rfl

/-! InvariantDesk$Parser.readAny(I)V -/
theorem mj_73_0 : mc_P 73 0 = some (.ldc2_w 313, 3, 0, 0, (-2147483648)) := by decide +kernel
theorem s_73_0 {x0 x1 x2 x3 x4 x5 x6 : Option Value} : mw d 73 Q 0 [x0, x1, x2, x3, x4, x5, x6] (st) h = mw d 73 Q 3 [x0, x1, x2, x3, x4, x5, x6] (.long (-2147483648) :: st) h := (mw_at mj_73_0).trans (z_ldc2 (by decide))
theorem mj_73_3 : mc_P 73 3 = some (.lstore_n 2, 1, 0, 0, 0) := by decide +kernel
theorem s_73_3 {x0 x1 x2 x3 x4 x5 x6 : Option Value} {w : Int64} : mw d 73 Q 3 [x0, x1, x2, x3, x4, x5, x6] (.long w :: st) h = mw d 73 Q 4 [x0, mk2 x1, some (.long w), none, x4, x5, x6] (st) h := (mw_at mj_73_3).trans (z_lstore_n (Nat.le_of_ble_eq_true rfl) (me_s2_mk (j := 1) (w := x1) rfl))
theorem mj_73_4 : mc_P 73 4 = some (.ldc2_w 315, 3, 0, 0, 2147483647) := by decide +kernel
theorem s_73_4 {x0 x1 x2 x3 x4 x5 x6 : Option Value} : mw d 73 Q 4 [x0, x1, x2, x3, x4, x5, x6] (st) h = mw d 73 Q 7 [x0, x1, x2, x3, x4, x5, x6] (.long 2147483647 :: st) h := (mw_at mj_73_4).trans (z_ldc2 (by decide))
theorem mj_73_7 : mc_P 73 7 = some (.lstore 4, 2, 0, 0, 0) := by decide +kernel
theorem s_73_7 {x0 x1 x2 x3 x4 x5 x6 : Option Value} {w : Int64} : mw d 73 Q 7 [x0, x1, x2, x3, x4, x5, x6] (.long w :: st) h = mw d 73 Q 9 [x0, x1, x2, mk2 x3, some (.long w), none, x6] (st) h := (mw_at mj_73_7).trans (z_lstore (Nat.le_of_ble_eq_true rfl) (me_s2_mk (j := 3) (w := x3) rfl))
theorem mj_73_9 : mc_P 73 9 = some (.aload_n 0, 1, 0, 0, 0) := by decide +kernel
theorem s_73_9 {x1 x2 x3 x4 x5 x6 : Option Value} {w : Value} : mw d 73 Q 9 [some w, x1, x2, x3, x4, x5, x6] (st) h = mv_a w (mw d 73 Q 10 [some w, x1, x2, x3, x4, x5, x6] (w :: st) h) := (mw_at mj_73_9).trans (z_aload_n rfl)
theorem mj_73_10 : mc_P 73 10 = some (.dup, 1, 0, 0, 0) := by decide +kernel
theorem s_73_10 {x0 x1 x2 x3 x4 x5 x6 : Option Value} {w : Value} : mw d 73 Q 10 [x0, x1, x2, x3, x4, x5, x6] (w :: st) h = (w.category = 1 ∧ mw d 73 Q 11 [x0, x1, x2, x3, x4, x5, x6] (w :: w :: st) h) := (mw_at mj_73_10).trans (z_dup)
theorem mj_73_11 : mc_P 73 11 = some (.getfield 95, 3, 3, 5, 0) := by decide +kernel
theorem s_73_11 {x0 x1 x2 x3 x4 x5 x6 : Option Value} {o : Nat} : mw d 73 Q 11 [x0, x1, x2, x3, x4, x5, x6] (.ref o :: st) h = (mg h o 3 ∧ mw d 73 Q 14 [x0, x1, x2, x3, x4, x5, x6] (.int (mh_i h o 5) :: st) h) := (mw_at mj_73_11).trans (z_geti (by decide) (by decide) (Or.inl rfl))
theorem mj_73_14 : mc_P 73 14 = some (.iconst 1, 1, 0, 0, 0) := by decide +kernel
theorem s_73_14 {x0 x1 x2 x3 x4 x5 x6 : Option Value} : mw d 73 Q 14 [x0, x1, x2, x3, x4, x5, x6] (st) h = mw d 73 Q 15 [x0, x1, x2, x3, x4, x5, x6] (.int 1 :: st) h := (mw_at mj_73_14).trans (z_iconst (by decide))
theorem mj_73_15 : mc_P 73 15 = some (.iadd, 1, 0, 0, 0) := by decide +kernel
theorem s_73_15 {x0 x1 x2 x3 x4 x5 x6 : Option Value} {x w : Int32} : mw d 73 Q 15 [x0, x1, x2, x3, x4, x5, x6] (.int w :: .int x :: st) h = mw d 73 Q 16 [x0, x1, x2, x3, x4, x5, x6] (.int (x + w) :: st) h := (mw_at mj_73_15).trans (z_iadd)
theorem mj_73_16 : mc_P 73 16 = some (.putfield 95, 3, 3, 5, 0) := by decide +kernel
theorem s_73_16 {x0 x1 x2 x3 x4 x5 x6 : Option Value} {o : Nat} {w : Int32} : mw d 73 Q 16 [x0, x1, x2, x3, x4, x5, x6] (.int w :: .ref o :: st) h = (mg h o 3 ∧ mw d 73 Q 19 [x0, x1, x2, x3, x4, x5, x6] (st) (mh_si h o 5 w)) := (mw_at mj_73_16).trans (z_puti (by decide) (by decide) rfl)
theorem mj_73_19 : mc_P 73 19 = some (.aload_n 0, 1, 0, 0, 0) := by decide +kernel
theorem s_73_19 {x1 x2 x3 x4 x5 x6 : Option Value} {w : Value} : mw d 73 Q 19 [some w, x1, x2, x3, x4, x5, x6] (st) h = mv_a w (mw d 73 Q 20 [some w, x1, x2, x3, x4, x5, x6] (w :: st) h) := (mw_at mj_73_19).trans (z_aload_n rfl)
theorem mj_73_20 : mc_P 73 20 = some (.invokevirtual 108, 3, 47, 3, 1) := by decide +kernel
theorem s_73_20 {x0 x1 x2 x3 x4 x5 x6 : Option Value} {o : Nat} : mw (d + 1) 73 Q 20 [x0, x1, x2, x3, x4, x5, x6] (.ref o :: st) h = (mg h o 3 ∧ mca st 8 ∧ mca [.ref o] 1 ∧ mcall d 47 [.ref o] h (mK (d + 1) 73 Q 23 [x0, x1, x2, x3, x4, x5, x6] st)) := (mw_at mj_73_20).trans ((z_invv (As := []) (by decide) rfl rfl).trans (congrArg (And _) (congrArg (And _) (mC_nl nl_47))))
theorem mj_73_23 : mc_P 73 23 = some (.bipush 40, 2, 0, 0, 0) := by decide +kernel
theorem s_73_23 {x0 x1 x2 x3 x4 x5 x6 : Option Value} : mw d 73 Q 23 [x0, x1, x2, x3, x4, x5, x6] (st) h = mw d 73 Q 25 [x0, x1, x2, x3, x4, x5, x6] (.int 40 :: st) h := (mw_at mj_73_23).trans (z_bipush (by decide))
theorem mj_73_25 : mc_P 73 25 = some (.if_icmp .ne 57, 3, 0, 0, 0) := by decide +kernel
theorem s_73_25 {x0 x1 x2 x3 x4 x5 x6 : Option Value} {x w : Int32} : mw d 73 Q 25 [x0, x1, x2, x3, x4, x5, x6] (.int w :: .int x :: st) h = mB (¬ x = w) (mw d 73 Q) 82 28 [x0, x1, x2, x3, x4, x5, x6] st h := (mw_at mj_73_25).trans (z_icmp_ne (by decide) rfl)
theorem mj_73_28 : mc_P 73 28 = some (.aload_n 0, 1, 0, 0, 0) := by decide +kernel
theorem s_73_28 {x1 x2 x3 x4 x5 x6 : Option Value} {w : Value} : mw d 73 Q 28 [some w, x1, x2, x3, x4, x5, x6] (st) h = mv_a w (mw d 73 Q 29 [some w, x1, x2, x3, x4, x5, x6] (w :: st) h) := (mw_at mj_73_28).trans (z_aload_n rfl)
theorem mj_73_29 : mc_P 73 29 = some (.dup, 1, 0, 0, 0) := by decide +kernel
theorem s_73_29 {x0 x1 x2 x3 x4 x5 x6 : Option Value} {w : Value} : mw d 73 Q 29 [x0, x1, x2, x3, x4, x5, x6] (w :: st) h = (w.category = 1 ∧ mw d 73 Q 30 [x0, x1, x2, x3, x4, x5, x6] (w :: w :: st) h) := (mw_at mj_73_29).trans (z_dup)
theorem mj_73_30 : mc_P 73 30 = some (.getfield 95, 3, 3, 5, 0) := by decide +kernel
theorem s_73_30 {x0 x1 x2 x3 x4 x5 x6 : Option Value} {o : Nat} : mw d 73 Q 30 [x0, x1, x2, x3, x4, x5, x6] (.ref o :: st) h = (mg h o 3 ∧ mw d 73 Q 33 [x0, x1, x2, x3, x4, x5, x6] (.int (mh_i h o 5) :: st) h) := (mw_at mj_73_30).trans (z_geti (by decide) (by decide) (Or.inl rfl))
theorem mj_73_33 : mc_P 73 33 = some (.iconst 1, 1, 0, 0, 0) := by decide +kernel
theorem s_73_33 {x0 x1 x2 x3 x4 x5 x6 : Option Value} : mw d 73 Q 33 [x0, x1, x2, x3, x4, x5, x6] (st) h = mw d 73 Q 34 [x0, x1, x2, x3, x4, x5, x6] (.int 1 :: st) h := (mw_at mj_73_33).trans (z_iconst (by decide))
theorem mj_73_34 : mc_P 73 34 = some (.iadd, 1, 0, 0, 0) := by decide +kernel
theorem s_73_34 {x0 x1 x2 x3 x4 x5 x6 : Option Value} {x w : Int32} : mw d 73 Q 34 [x0, x1, x2, x3, x4, x5, x6] (.int w :: .int x :: st) h = mw d 73 Q 35 [x0, x1, x2, x3, x4, x5, x6] (.int (x + w) :: st) h := (mw_at mj_73_34).trans (z_iadd)
theorem mj_73_35 : mc_P 73 35 = some (.putfield 95, 3, 3, 5, 0) := by decide +kernel
theorem s_73_35 {x0 x1 x2 x3 x4 x5 x6 : Option Value} {o : Nat} {w : Int32} : mw d 73 Q 35 [x0, x1, x2, x3, x4, x5, x6] (.int w :: .ref o :: st) h = (mg h o 3 ∧ mw d 73 Q 38 [x0, x1, x2, x3, x4, x5, x6] (st) (mh_si h o 5 w)) := (mw_at mj_73_35).trans (z_puti (by decide) (by decide) rfl)
theorem mj_73_38 : mc_P 73 38 = some (.aload_n 0, 1, 0, 0, 0) := by decide +kernel
theorem s_73_38 {x1 x2 x3 x4 x5 x6 : Option Value} {w : Value} : mw d 73 Q 38 [some w, x1, x2, x3, x4, x5, x6] (st) h = mv_a w (mw d 73 Q 39 [some w, x1, x2, x3, x4, x5, x6] (w :: st) h) := (mw_at mj_73_38).trans (z_aload_n rfl)
theorem mj_73_39 : mc_P 73 39 = some (.invokevirtual 104, 3, 49, 3, 1) := by decide +kernel
theorem s_73_39 {x0 x1 x2 x3 x4 x5 x6 : Option Value} {o : Nat} : mw (d + 1) 73 Q 39 [x0, x1, x2, x3, x4, x5, x6] (.ref o :: st) h = (mg h o 3 ∧ mca st 8 ∧ mca [.ref o] 1 ∧ mcall d 49 [.ref o] h (mK (d + 1) 73 Q 42 [x0, x1, x2, x3, x4, x5, x6] st)) := (mw_at mj_73_39).trans ((z_invv (As := []) (by decide) rfl rfl).trans (congrArg (And _) (congrArg (And _) (mC_nl nl_49))))
theorem mj_73_42 : mc_P 73 42 = some (.istore 6, 2, 0, 0, 0) := by decide +kernel
theorem s_73_42 {x0 x1 x2 x3 x4 x5 x6 : Option Value} {w : Int32} : mw d 73 Q 42 [x0, x1, x2, x3, x4, x5, x6] (.int w :: st) h = mw d 73 Q 44 [x0, x1, x2, x3, x4, mk2 x5, some (.int w)] (st) h := (mw_at mj_73_42).trans (z_istore (Nat.le_of_ble_eq_true rfl) (me_s1_mk (j := 5) (w := x5) rfl))
theorem mj_73_44 : mc_P 73 44 = some (.aload_n 0, 1, 0, 0, 0) := by decide +kernel
theorem s_73_44 {x1 x2 x3 x4 x5 x6 : Option Value} {w : Value} : mw d 73 Q 44 [some w, x1, x2, x3, x4, x5, x6] (st) h = mv_a w (mw d 73 Q 45 [some w, x1, x2, x3, x4, x5, x6] (w :: st) h) := (mw_at mj_73_44).trans (z_aload_n rfl)
theorem mj_73_45 : mc_P 73 45 = some (.invokevirtual 317, 3, 74, 3, 1) := by decide +kernel
theorem s_73_45 {x0 x1 x2 x3 x4 x5 x6 : Option Value} {o : Nat} : mw (d + 1) 73 Q 45 [x0, x1, x2, x3, x4, x5, x6] (.ref o :: st) h = (mg h o 3 ∧ mca st 8 ∧ mca [.ref o] 4 ∧ mcall d 74 [.ref o] h (mK (d + 1) 73 Q 48 [x0, x1, x2, x3, x4, x5, x6] st)) := (mw_at mj_73_45).trans ((z_invv (As := []) (by decide) rfl rfl).trans (congrArg (And _) (congrArg (And _) (mC_nl nl_74))))
theorem mj_73_48 : mc_P 73 48 = some (.lstore_n 2, 1, 0, 0, 0) := by decide +kernel
theorem s_73_48 {x0 x1 x2 x3 x4 x5 x6 : Option Value} {w : Int64} : mw d 73 Q 48 [x0, x1, x2, x3, x4, x5, x6] (.long w :: st) h = mw d 73 Q 49 [x0, mk2 x1, some (.long w), none, x4, x5, x6] (st) h := (mw_at mj_73_48).trans (z_lstore_n (Nat.le_of_ble_eq_true rfl) (me_s2_mk (j := 1) (w := x1) rfl))
theorem mj_73_49 : mc_P 73 49 = some (.aload_n 0, 1, 0, 0, 0) := by decide +kernel
theorem s_73_49 {x1 x2 x3 x4 x5 x6 : Option Value} {w : Value} : mw d 73 Q 49 [some w, x1, x2, x3, x4, x5, x6] (st) h = mv_a w (mw d 73 Q 50 [some w, x1, x2, x3, x4, x5, x6] (w :: st) h) := (mw_at mj_73_49).trans (z_aload_n rfl)
theorem mj_73_50 : mc_P 73 50 = some (.bipush 44, 2, 0, 0, 0) := by decide +kernel
theorem s_73_50 {x0 x1 x2 x3 x4 x5 x6 : Option Value} : mw d 73 Q 50 [x0, x1, x2, x3, x4, x5, x6] (st) h = mw d 73 Q 52 [x0, x1, x2, x3, x4, x5, x6] (.int 44 :: st) h := (mw_at mj_73_50).trans (z_bipush (by decide))
theorem mj_73_52 : mc_P 73 52 = some (.invokevirtual 59, 3, 51, 3, 2) := by decide +kernel
theorem s_73_52 {x0 x1 x2 x3 x4 x5 x6 : Option Value} {o : Nat} {a1 : Value} : mw (d + 1) 73 Q 52 [x0, x1, x2, x3, x4, x5, x6] (a1 :: .ref o :: st) h = (mg h o 3 ∧ mca st 8 ∧ mca [.ref o, a1] 2 ∧ mcall d 51 [.ref o, a1] h (mK (d + 1) 73 Q 55 [x0, x1, x2, x3, x4, x5, x6] st)) := (mw_at mj_73_52).trans ((z_invv (As := [a1]) (by decide) rfl rfl).trans (congrArg (And _) (congrArg (And _) (mC_nl nl_51))))
theorem mj_73_55 : mc_P 73 55 = some (.aload_n 0, 1, 0, 0, 0) := by decide +kernel
theorem s_73_55 {x1 x2 x3 x4 x5 x6 : Option Value} {w : Value} : mw d 73 Q 55 [some w, x1, x2, x3, x4, x5, x6] (st) h = mv_a w (mw d 73 Q 56 [some w, x1, x2, x3, x4, x5, x6] (w :: st) h) := (mw_at mj_73_55).trans (z_aload_n rfl)
theorem mj_73_56 : mc_P 73 56 = some (.invokevirtual 317, 3, 74, 3, 1) := by decide +kernel
theorem s_73_56 {x0 x1 x2 x3 x4 x5 x6 : Option Value} {o : Nat} : mw (d + 1) 73 Q 56 [x0, x1, x2, x3, x4, x5, x6] (.ref o :: st) h = (mg h o 3 ∧ mca st 8 ∧ mca [.ref o] 4 ∧ mcall d 74 [.ref o] h (mK (d + 1) 73 Q 59 [x0, x1, x2, x3, x4, x5, x6] st)) := (mw_at mj_73_56).trans ((z_invv (As := []) (by decide) rfl rfl).trans (congrArg (And _) (congrArg (And _) (mC_nl nl_74))))
theorem mj_73_59 : mc_P 73 59 = some (.lstore 4, 2, 0, 0, 0) := by decide +kernel
theorem s_73_59 {x0 x1 x2 x3 x4 x5 x6 : Option Value} {w : Int64} : mw d 73 Q 59 [x0, x1, x2, x3, x4, x5, x6] (.long w :: st) h = mw d 73 Q 61 [x0, x1, x2, mk2 x3, some (.long w), none, x6] (st) h := (mw_at mj_73_59).trans (z_lstore (Nat.le_of_ble_eq_true rfl) (me_s2_mk (j := 3) (w := x3) rfl))
theorem mj_73_61 : mc_P 73 61 = some (.aload_n 0, 1, 0, 0, 0) := by decide +kernel
theorem s_73_61 {x1 x2 x3 x4 x5 x6 : Option Value} {w : Value} : mw d 73 Q 61 [some w, x1, x2, x3, x4, x5, x6] (st) h = mv_a w (mw d 73 Q 62 [some w, x1, x2, x3, x4, x5, x6] (w :: st) h) := (mw_at mj_73_61).trans (z_aload_n rfl)
theorem mj_73_62 : mc_P 73 62 = some (.bipush 41, 2, 0, 0, 0) := by decide +kernel
theorem s_73_62 {x0 x1 x2 x3 x4 x5 x6 : Option Value} : mw d 73 Q 62 [x0, x1, x2, x3, x4, x5, x6] (st) h = mw d 73 Q 64 [x0, x1, x2, x3, x4, x5, x6] (.int 41 :: st) h := (mw_at mj_73_62).trans (z_bipush (by decide))
theorem mj_73_64 : mc_P 73 64 = some (.invokevirtual 59, 3, 51, 3, 2) := by decide +kernel
theorem s_73_64 {x0 x1 x2 x3 x4 x5 x6 : Option Value} {o : Nat} {a1 : Value} : mw (d + 1) 73 Q 64 [x0, x1, x2, x3, x4, x5, x6] (a1 :: .ref o :: st) h = (mg h o 3 ∧ mca st 8 ∧ mca [.ref o, a1] 2 ∧ mcall d 51 [.ref o, a1] h (mK (d + 1) 73 Q 67 [x0, x1, x2, x3, x4, x5, x6] st)) := (mw_at mj_73_64).trans ((z_invv (As := [a1]) (by decide) rfl rfl).trans (congrArg (And _) (congrArg (And _) (mC_nl nl_51))))
theorem mj_73_67 : mc_P 73 67 = some (.lload_n 2, 1, 0, 0, 0) := by decide +kernel
theorem s_73_67 {x0 x1 x3 x4 x5 x6 : Option Value} {w : Value} : mw d 73 Q 67 [x0, x1, some w, x3, x4, x5, x6] (st) h = mv_l w (mw d 73 Q 68 [x0, x1, some w, x3, x4, x5, x6] (w :: st) h) := (mw_at mj_73_67).trans (z_lload_n rfl)
theorem mj_73_68 : mc_P 73 68 = some (.lload 4, 2, 0, 0, 0) := by decide +kernel
theorem s_73_68 {x0 x1 x2 x3 x5 x6 : Option Value} {w : Value} : mw d 73 Q 68 [x0, x1, x2, x3, some w, x5, x6] (st) h = mv_l w (mw d 73 Q 70 [x0, x1, x2, x3, some w, x5, x6] (w :: st) h) := (mw_at mj_73_68).trans (z_lload rfl)
theorem mj_73_70 : mc_P 73 70 = some (.lcmp, 1, 0, 0, 0) := by decide +kernel
theorem s_73_70 {x0 x1 x2 x3 x4 x5 x6 : Option Value} {x w : Int64} : mw d 73 Q 70 [x0, x1, x2, x3, x4, x5, x6] (.long w :: .long x :: st) h = mw d 73 Q 71 [x0, x1, x2, x3, x4, x5, x6] (.int (lg_cmp x w) :: st) h := (mw_at mj_73_70).trans (z_lcmp)
theorem mj_73_71 : mc_P 73 71 = some (.ifCond .le 11, 3, 0, 0, 0) := by decide +kernel
theorem s_73_71 {x0 x1 x2 x3 x4 x5 x6 : Option Value} {x : Int32} : mw d 73 Q 71 [x0, x1, x2, x3, x4, x5, x6] (.int x :: st) h = mB (x ≤ 0) (mw d 73 Q) 82 74 [x0, x1, x2, x3, x4, x5, x6] st h := (mw_at mj_73_71).trans (z_if_le (by decide) rfl)
theorem mj_73_74 : mc_P 73 74 = some (.aload_n 0, 1, 0, 0, 0) := by decide +kernel
theorem s_73_74 {x1 x2 x3 x4 x5 x6 : Option Value} {w : Value} : mw d 73 Q 74 [some w, x1, x2, x3, x4, x5, x6] (st) h = mv_a w (mw d 73 Q 75 [some w, x1, x2, x3, x4, x5, x6] (w :: st) h) := (mw_at mj_73_74).trans (z_aload_n rfl)
theorem mj_73_75 : mc_P 73 75 = some (.bipush 8, 2, 0, 0, 0) := by decide +kernel
theorem s_73_75 {x0 x1 x2 x3 x4 x5 x6 : Option Value} : mw d 73 Q 75 [x0, x1, x2, x3, x4, x5, x6] (st) h = mw d 73 Q 77 [x0, x1, x2, x3, x4, x5, x6] (.int 8 :: st) h := (mw_at mj_73_75).trans (z_bipush (by decide))
theorem mj_73_77 : mc_P 73 77 = some (.iload 6, 2, 0, 0, 0) := by decide +kernel
theorem s_73_77 {x0 x1 x2 x3 x4 x5 : Option Value} {w : Value} : mw d 73 Q 77 [x0, x1, x2, x3, x4, x5, some w] (st) h = mv_i w (mw d 73 Q 79 [x0, x1, x2, x3, x4, x5, some w] (w :: st) h) := (mw_at mj_73_77).trans (z_iload rfl)
theorem mj_73_79 : mc_P 73 79 = some (.invokevirtual 221, 3, 53, 3, 3) := by decide +kernel
theorem s_73_79 {x0 x1 x2 x3 x4 x5 x6 : Option Value} {o : Nat} {a1 a2 : Value} : mw (d + 1) 73 Q 79 [x0, x1, x2, x3, x4, x5, x6] (a2 :: a1 :: .ref o :: st) h = (mg h o 3 ∧ mca st 8 ∧ mca [.ref o, a1, a2] 3 ∧ mcall d 53 [.ref o, a1, a2] h (mK (d + 1) 73 Q 82 [x0, x1, x2, x3, x4, x5, x6] st)) := (mw_at mj_73_79).trans ((z_invv (As := [a1, a2]) (by decide) rfl rfl).trans (congrArg (And _) (congrArg (And _) (mC_nl nl_53))))
theorem mj_73_82 : mc_P 73 82 = some (.aload_n 0, 1, 0, 0, 0) := by decide +kernel
theorem s_73_82 {x1 x2 x3 x4 x5 x6 : Option Value} {w : Value} : mw d 73 Q 82 [some w, x1, x2, x3, x4, x5, x6] (st) h = mv_a w (mw d 73 Q 83 [some w, x1, x2, x3, x4, x5, x6] (w :: st) h) := (mw_at mj_73_82).trans (z_aload_n rfl)
theorem mj_73_83 : mc_P 73 83 = some (.getfield 23, 3, 3, 1, 0) := by decide +kernel
theorem s_73_83 {x0 x1 x2 x3 x4 x5 x6 : Option Value} {o : Nat} : mw d 73 Q 83 [x0, x1, x2, x3, x4, x5, x6] (.ref o :: st) h = (mg h o 3 ∧ mw d 73 Q 86 [x0, x1, x2, x3, x4, x5, x6] (va_rf (mh_r h o 1) :: st) h) := (mw_at mj_73_83).trans (z_getr (by decide) (by decide) rfl)
theorem mj_73_86 : mc_P 73 86 = some (.iconst 4, 1, 0, 0, 0) := by decide +kernel
theorem s_73_86 {x0 x1 x2 x3 x4 x5 x6 : Option Value} : mw d 73 Q 86 [x0, x1, x2, x3, x4, x5, x6] (st) h = mw d 73 Q 87 [x0, x1, x2, x3, x4, x5, x6] (.int 4 :: st) h := (mw_at mj_73_86).trans (z_iconst (by decide))
theorem mj_73_87 : mc_P 73 87 = some (.lload_n 2, 1, 0, 0, 0) := by decide +kernel
theorem s_73_87 {x0 x1 x3 x4 x5 x6 : Option Value} {w : Value} : mw d 73 Q 87 [x0, x1, some w, x3, x4, x5, x6] (st) h = mv_l w (mw d 73 Q 88 [x0, x1, some w, x3, x4, x5, x6] (w :: st) h) := (mw_at mj_73_87).trans (z_lload_n rfl)
theorem mj_73_88 : mc_P 73 88 = some (.l2i, 1, 0, 0, 0) := by decide +kernel
theorem s_73_88 {x0 x1 x2 x3 x4 x5 x6 : Option Value} {x : Int64} : mw d 73 Q 88 [x0, x1, x2, x3, x4, x5, x6] (.long x :: st) h = mw d 73 Q 89 [x0, x1, x2, x3, x4, x5, x6] (.int x.toInt32 :: st) h := (mw_at mj_73_88).trans (z_l2i)
theorem mj_73_89 : mc_P 73 89 = some (.lload 4, 2, 0, 0, 0) := by decide +kernel
theorem s_73_89 {x0 x1 x2 x3 x5 x6 : Option Value} {w : Value} : mw d 73 Q 89 [x0, x1, x2, x3, some w, x5, x6] (st) h = mv_l w (mw d 73 Q 91 [x0, x1, x2, x3, some w, x5, x6] (w :: st) h) := (mw_at mj_73_89).trans (z_lload rfl)
theorem mj_73_91 : mc_P 73 91 = some (.l2i, 1, 0, 0, 0) := by decide +kernel
theorem s_73_91 {x0 x1 x2 x3 x4 x5 x6 : Option Value} {x : Int64} : mw d 73 Q 91 [x0, x1, x2, x3, x4, x5, x6] (.long x :: st) h = mw d 73 Q 92 [x0, x1, x2, x3, x4, x5, x6] (.int x.toInt32 :: st) h := (mw_at mj_73_91).trans (z_l2i)
theorem mj_73_92 : mc_P 73 92 = some (.invokevirtual 297, 3, 126, 7, 4) := by decide +kernel
theorem s_73_92 {x0 x1 x2 x3 x4 x5 x6 : Option Value} {o : Nat} {a1 a2 a3 : Value} : mw (d + 1) 73 Q 92 [x0, x1, x2, x3, x4, x5, x6] (a3 :: a2 :: a1 :: .ref o :: st) h = (mg h o 7 ∧ mca st 8 ∧ mca [.ref o, a1, a2, a3] 4 ∧ mcall d 126 [.ref o, a1, a2, a3] h (mK (d + 1) 73 Q 95 [x0, x1, x2, x3, x4, x5, x6] st)) := (mw_at mj_73_92).trans ((z_invv (As := [a1, a2, a3]) (by decide) rfl rfl).trans (congrArg (And _) (congrArg (And _) (mC_nl nl_126))))
theorem mj_73_95 : mc_P 73 95 = some (.aload_n 0, 1, 0, 0, 0) := by decide +kernel
theorem s_73_95 {x1 x2 x3 x4 x5 x6 : Option Value} {w : Value} : mw d 73 Q 95 [some w, x1, x2, x3, x4, x5, x6] (st) h = mv_a w (mw d 73 Q 96 [some w, x1, x2, x3, x4, x5, x6] (w :: st) h) := (mw_at mj_73_95).trans (z_aload_n rfl)
theorem mj_73_96 : mc_P 73 96 = some (.getfield 23, 3, 3, 1, 0) := by decide +kernel
theorem s_73_96 {x0 x1 x2 x3 x4 x5 x6 : Option Value} {o : Nat} : mw d 73 Q 96 [x0, x1, x2, x3, x4, x5, x6] (.ref o :: st) h = (mg h o 3 ∧ mw d 73 Q 99 [x0, x1, x2, x3, x4, x5, x6] (va_rf (mh_r h o 1) :: st) h) := (mw_at mj_73_96).trans (z_getr (by decide) (by decide) rfl)
theorem mj_73_99 : mc_P 73 99 = some (.iload_n 1, 1, 0, 0, 0) := by decide +kernel
theorem s_73_99 {x0 x2 x3 x4 x5 x6 : Option Value} {w : Value} : mw d 73 Q 99 [x0, some w, x2, x3, x4, x5, x6] (st) h = mv_i w (mw d 73 Q 100 [x0, some w, x2, x3, x4, x5, x6] (w :: st) h) := (mw_at mj_73_99).trans (z_iload_n rfl)
theorem mj_73_100 : mc_P 73 100 = some (.bipush (-2), 2, 0, 0, 0) := by decide +kernel
theorem s_73_100 {x0 x1 x2 x3 x4 x5 x6 : Option Value} : mw d 73 Q 100 [x0, x1, x2, x3, x4, x5, x6] (st) h = mw d 73 Q 102 [x0, x1, x2, x3, x4, x5, x6] (.int (-2) :: st) h := (mw_at mj_73_100).trans (z_bipush (by decide))
theorem mj_73_102 : mc_P 73 102 = some (.invokevirtual 304, 3, 127, 7, 3) := by decide +kernel
theorem s_73_102 {x0 x1 x2 x3 x4 x5 x6 : Option Value} {o : Nat} {a1 a2 : Value} : mw (d + 1) 73 Q 102 [x0, x1, x2, x3, x4, x5, x6] (a2 :: a1 :: .ref o :: st) h = (mg h o 7 ∧ mca st 8 ∧ mca [.ref o, a1, a2] 3 ∧ mcall d 127 [.ref o, a1, a2] h (mK (d + 1) 73 Q 105 [x0, x1, x2, x3, x4, x5, x6] st)) := (mw_at mj_73_102).trans ((z_invv (As := [a1, a2]) (by decide) rfl rfl).trans (congrArg (And _) (congrArg (And _) (mC_nl nl_127))))
theorem mj_73_105 : mc_P 73 105 = some (.return_, 1, 0, 0, 0) := by decide +kernel
theorem s_73_105 {x0 x1 x2 x3 x4 x5 x6 : Option Value} : mw d 73 Q 105 [x0, x1, x2, x3, x4, x5, x6] ([]) h = Q none h := (mw_at mj_73_105).trans (z_vret)
theorem e_73 {a0 : Nat} {a1 : Int32} : mcall d 73 [.ref a0, .int a1] h Q = mw d 73 Q 0 [some (.ref a0), some (.int a1), none, none, none, none, none] [] h := by
  show mw d 73 Q 0 (me_en (mc_nl 73) _) [] h = _
  rw [nl_73]; rfl

/-! InvariantDesk$Parser.readLimit()J -/
theorem mj_74_0 : mc_P 74 0 = some (.aload_n 0, 1, 0, 0, 0) := by decide +kernel
theorem s_74_0 {x1 x2 x3 : Option Value} {w : Value} : mw d 74 Q 0 [some w, x1, x2, x3] (st) h = mv_a w (mw d 74 Q 1 [some w, x1, x2, x3] (w :: st) h) := (mw_at mj_74_0).trans (z_aload_n rfl)
theorem mj_74_1 : mc_P 74 1 = some (.invokevirtual 108, 3, 47, 3, 1) := by decide +kernel
theorem s_74_1 {x0 x1 x2 x3 : Option Value} {o : Nat} : mw (d + 1) 74 Q 1 [x0, x1, x2, x3] (.ref o :: st) h = (mg h o 3 ∧ mca st 8 ∧ mca [.ref o] 1 ∧ mcall d 47 [.ref o] h (mK (d + 1) 74 Q 4 [x0, x1, x2, x3] st)) := (mw_at mj_74_1).trans ((z_invv (As := []) (by decide) rfl rfl).trans (congrArg (And _) (congrArg (And _) (mC_nl nl_47))))
theorem mj_74_4 : mc_P 74 4 = some (.bipush 45, 2, 0, 0, 0) := by decide +kernel
theorem s_74_4 {x0 x1 x2 x3 : Option Value} : mw d 74 Q 4 [x0, x1, x2, x3] (st) h = mw d 74 Q 6 [x0, x1, x2, x3] (.int 45 :: st) h := (mw_at mj_74_4).trans (z_bipush (by decide))
theorem mj_74_6 : mc_P 74 6 = some (.if_icmp .ne 7, 3, 0, 0, 0) := by decide +kernel
theorem s_74_6 {x0 x1 x2 x3 : Option Value} {x w : Int32} : mw d 74 Q 6 [x0, x1, x2, x3] (.int w :: .int x :: st) h = mB (¬ x = w) (mw d 74 Q) 13 9 [x0, x1, x2, x3] st h := (mw_at mj_74_6).trans (z_icmp_ne (by decide) rfl)
theorem mj_74_9 : mc_P 74 9 = some (.iconst 1, 1, 0, 0, 0) := by decide +kernel
theorem s_74_9 {x0 x1 x2 x3 : Option Value} : mw d 74 Q 9 [x0, x1, x2, x3] (st) h = mw d 74 Q 10 [x0, x1, x2, x3] (.int 1 :: st) h := (mw_at mj_74_9).trans (z_iconst (by decide))
theorem mj_74_10 : mc_P 74 10 = some (.goto 4, 3, 0, 0, 0) := by decide +kernel
theorem s_74_10 {x0 x1 x2 x3 : Option Value} : mw d 74 Q 10 [x0, x1, x2, x3] (st) h = mw d 74 Q 14 [x0, x1, x2, x3] (st) h := (mw_at mj_74_10).trans (z_goto (by decide))
theorem mj_74_13 : mc_P 74 13 = some (.iconst 0, 1, 0, 0, 0) := by decide +kernel
theorem s_74_13 {x0 x1 x2 x3 : Option Value} : mw d 74 Q 13 [x0, x1, x2, x3] (st) h = mw d 74 Q 14 [x0, x1, x2, x3] (.int 0 :: st) h := (mw_at mj_74_13).trans (z_iconst (by decide))
theorem mj_74_14 : mc_P 74 14 = some (.istore_n 1, 1, 0, 0, 0) := by decide +kernel
theorem s_74_14 {x0 x1 x2 x3 : Option Value} {w : Int32} : mw d 74 Q 14 [x0, x1, x2, x3] (.int w :: st) h = mw d 74 Q 15 [mk2 x0, some (.int w), x2, x3] (st) h := (mw_at mj_74_14).trans (z_istore_n (Nat.le_of_ble_eq_true rfl) (me_s1_mk (j := 0) (w := x0) rfl))
theorem mj_74_15 : mc_P 74 15 = some (.iload_n 1, 1, 0, 0, 0) := by decide +kernel
theorem s_74_15 {x0 x2 x3 : Option Value} {w : Value} : mw d 74 Q 15 [x0, some w, x2, x3] (st) h = mv_i w (mw d 74 Q 16 [x0, some w, x2, x3] (w :: st) h) := (mw_at mj_74_15).trans (z_iload_n rfl)
theorem mj_74_16 : mc_P 74 16 = some (.ifCond .eq 9, 3, 0, 0, 0) := by decide +kernel
theorem s_74_16 {x0 x1 x2 x3 : Option Value} {x : Int32} : mw d 74 Q 16 [x0, x1, x2, x3] (.int x :: st) h = mB (x = 0) (mw d 74 Q) 25 19 [x0, x1, x2, x3] st h := (mw_at mj_74_16).trans (z_if_eq (by decide) rfl)
theorem mj_74_19 : mc_P 74 19 = some (.aload_n 0, 1, 0, 0, 0) := by decide +kernel
theorem s_74_19 {x1 x2 x3 : Option Value} {w : Value} : mw d 74 Q 19 [some w, x1, x2, x3] (st) h = mv_a w (mw d 74 Q 20 [some w, x1, x2, x3] (w :: st) h) := (mw_at mj_74_19).trans (z_aload_n rfl)
theorem mj_74_20 : mc_P 74 20 = some (.bipush 45, 2, 0, 0, 0) := by decide +kernel
theorem s_74_20 {x0 x1 x2 x3 : Option Value} : mw d 74 Q 20 [x0, x1, x2, x3] (st) h = mw d 74 Q 22 [x0, x1, x2, x3] (.int 45 :: st) h := (mw_at mj_74_20).trans (z_bipush (by decide))
theorem mj_74_22 : mc_P 74 22 = some (.invokevirtual 59, 3, 51, 3, 2) := by decide +kernel
theorem s_74_22 {x0 x1 x2 x3 : Option Value} {o : Nat} {a1 : Value} : mw (d + 1) 74 Q 22 [x0, x1, x2, x3] (a1 :: .ref o :: st) h = (mg h o 3 ∧ mca st 8 ∧ mca [.ref o, a1] 2 ∧ mcall d 51 [.ref o, a1] h (mK (d + 1) 74 Q 25 [x0, x1, x2, x3] st)) := (mw_at mj_74_22).trans ((z_invv (As := [a1]) (by decide) rfl rfl).trans (congrArg (And _) (congrArg (And _) (mC_nl nl_51))))
theorem mj_74_25 : mc_P 74 25 = some (.aload_n 0, 1, 0, 0, 0) := by decide +kernel
theorem s_74_25 {x1 x2 x3 : Option Value} {w : Value} : mw d 74 Q 25 [some w, x1, x2, x3] (st) h = mv_a w (mw d 74 Q 26 [some w, x1, x2, x3] (w :: st) h) := (mw_at mj_74_25).trans (z_aload_n rfl)
theorem mj_74_26 : mc_P 74 26 = some (.invokevirtual 108, 3, 47, 3, 1) := by decide +kernel
theorem s_74_26 {x0 x1 x2 x3 : Option Value} {o : Nat} : mw (d + 1) 74 Q 26 [x0, x1, x2, x3] (.ref o :: st) h = (mg h o 3 ∧ mca st 8 ∧ mca [.ref o] 1 ∧ mcall d 47 [.ref o] h (mK (d + 1) 74 Q 29 [x0, x1, x2, x3] st)) := (mw_at mj_74_26).trans ((z_invv (As := []) (by decide) rfl rfl).trans (congrArg (And _) (congrArg (And _) (mC_nl nl_47))))
theorem mj_74_29 : mc_P 74 29 = some (.iconst 3, 1, 0, 0, 0) := by decide +kernel
theorem s_74_29 {x0 x1 x2 x3 : Option Value} : mw d 74 Q 29 [x0, x1, x2, x3] (st) h = mw d 74 Q 30 [x0, x1, x2, x3] (.int 3 :: st) h := (mw_at mj_74_29).trans (z_iconst (by decide))
theorem mj_74_30 : mc_P 74 30 = some (.if_icmp .ne 17, 3, 0, 0, 0) := by decide +kernel
theorem s_74_30 {x0 x1 x2 x3 : Option Value} {x w : Int32} : mw d 74 Q 30 [x0, x1, x2, x3] (.int w :: .int x :: st) h = mB (¬ x = w) (mw d 74 Q) 47 33 [x0, x1, x2, x3] st h := (mw_at mj_74_30).trans (z_icmp_ne (by decide) rfl)
theorem mj_74_33 : mc_P 74 33 = some (.aload_n 0, 1, 0, 0, 0) := by decide +kernel
theorem s_74_33 {x1 x2 x3 : Option Value} {w : Value} : mw d 74 Q 33 [some w, x1, x2, x3] (st) h = mv_a w (mw d 74 Q 34 [some w, x1, x2, x3] (w :: st) h) := (mw_at mj_74_33).trans (z_aload_n rfl)
theorem mj_74_34 : mc_P 74 34 = some (.getfield 19, 3, 3, 0, 0) := by decide +kernel
theorem s_74_34 {x0 x1 x2 x3 : Option Value} {o : Nat} : mw d 74 Q 34 [x0, x1, x2, x3] (.ref o :: st) h = (mg h o 3 ∧ mw d 74 Q 37 [x0, x1, x2, x3] (va_rf (mh_r h o 0) :: st) h) := (mw_at mj_74_34).trans (z_getr (by decide) (by decide) rfl)
theorem mj_74_37 : mc_P 74 37 = some (.aload_n 0, 1, 0, 0, 0) := by decide +kernel
theorem s_74_37 {x1 x2 x3 : Option Value} {w : Value} : mw d 74 Q 37 [some w, x1, x2, x3] (st) h = mv_a w (mw d 74 Q 38 [some w, x1, x2, x3] (w :: st) h) := (mw_at mj_74_37).trans (z_aload_n rfl)
theorem mj_74_38 : mc_P 74 38 = some (.invokevirtual 104, 3, 49, 3, 1) := by decide +kernel
theorem s_74_38 {x0 x1 x2 x3 : Option Value} {o : Nat} : mw (d + 1) 74 Q 38 [x0, x1, x2, x3] (.ref o :: st) h = (mg h o 3 ∧ mca st 8 ∧ mca [.ref o] 1 ∧ mcall d 49 [.ref o] h (mK (d + 1) 74 Q 41 [x0, x1, x2, x3] st)) := (mw_at mj_74_38).trans ((z_invv (As := []) (by decide) rfl rfl).trans (congrArg (And _) (congrArg (And _) (mC_nl nl_49))))
theorem mj_74_41 : mc_P 74 41 = some (.invokevirtual 250, 3, 177, 10, 2) := by decide +kernel
theorem s_74_41 {x0 x1 x2 x3 : Option Value} {o : Nat} {a1 : Value} : mw (d + 1) 74 Q 41 [x0, x1, x2, x3] (a1 :: .ref o :: st) h = (mg h o 10 ∧ mca st 8 ∧ mca [.ref o, a1] 5 ∧ mcall d 177 [.ref o, a1] h (mK (d + 1) 74 Q 44 [x0, x1, x2, x3] st)) := (mw_at mj_74_41).trans ((z_invv (As := [a1]) (by decide) rfl rfl).trans (congrArg (And _) (congrArg (And _) (mC_nl nl_177))))
theorem mj_74_44 : mc_P 74 44 = some (.goto 4, 3, 0, 0, 0) := by decide +kernel
theorem s_74_44 {x0 x1 x2 x3 : Option Value} : mw d 74 Q 44 [x0, x1, x2, x3] (st) h = mw d 74 Q 48 [x0, x1, x2, x3] (st) h := (mw_at mj_74_44).trans (z_goto (by decide))
theorem mj_74_47 : mc_P 74 47 = some (.lconst 0, 1, 0, 0, 0) := by decide +kernel
theorem s_74_47 {x0 x1 x2 x3 : Option Value} : mw d 74 Q 47 [x0, x1, x2, x3] (st) h = mw d 74 Q 48 [x0, x1, x2, x3] (.long 0 :: st) h := (mw_at mj_74_47).trans (z_lconst (by decide))
theorem mj_74_48 : mc_P 74 48 = some (.lstore_n 2, 1, 0, 0, 0) := by decide +kernel
theorem s_74_48 {x0 x1 x2 x3 : Option Value} {w : Int64} : mw d 74 Q 48 [x0, x1, x2, x3] (.long w :: st) h = mw d 74 Q 49 [x0, mk2 x1, some (.long w), none] (st) h := (mw_at mj_74_48).trans (z_lstore_n (Nat.le_of_ble_eq_true rfl) (me_s2_mk (j := 1) (w := x1) rfl))
theorem mj_74_49 : mc_P 74 49 = some (.aload_n 0, 1, 0, 0, 0) := by decide +kernel
theorem s_74_49 {x1 x2 x3 : Option Value} {w : Value} : mw d 74 Q 49 [some w, x1, x2, x3] (st) h = mv_a w (mw d 74 Q 50 [some w, x1, x2, x3] (w :: st) h) := (mw_at mj_74_49).trans (z_aload_n rfl)
theorem mj_74_50 : mc_P 74 50 = some (.iconst 3, 1, 0, 0, 0) := by decide +kernel
theorem s_74_50 {x0 x1 x2 x3 : Option Value} : mw d 74 Q 50 [x0, x1, x2, x3] (st) h = mw d 74 Q 51 [x0, x1, x2, x3] (.int 3 :: st) h := (mw_at mj_74_50).trans (z_iconst (by decide))
theorem mj_74_51 : mc_P 74 51 = some (.invokevirtual 59, 3, 51, 3, 2) := by decide +kernel
theorem s_74_51 {x0 x1 x2 x3 : Option Value} {o : Nat} {a1 : Value} : mw (d + 1) 74 Q 51 [x0, x1, x2, x3] (a1 :: .ref o :: st) h = (mg h o 3 ∧ mca st 8 ∧ mca [.ref o, a1] 2 ∧ mcall d 51 [.ref o, a1] h (mK (d + 1) 74 Q 54 [x0, x1, x2, x3] st)) := (mw_at mj_74_51).trans ((z_invv (As := [a1]) (by decide) rfl rfl).trans (congrArg (And _) (congrArg (And _) (mC_nl nl_51))))
theorem mj_74_54 : mc_P 74 54 = some (.iload_n 1, 1, 0, 0, 0) := by decide +kernel
theorem s_74_54 {x0 x2 x3 : Option Value} {w : Value} : mw d 74 Q 54 [x0, some w, x2, x3] (st) h = mv_i w (mw d 74 Q 55 [x0, some w, x2, x3] (w :: st) h) := (mw_at mj_74_54).trans (z_iload_n rfl)
theorem mj_74_55 : mc_P 74 55 = some (.ifCond .eq 8, 3, 0, 0, 0) := by decide +kernel
theorem s_74_55 {x0 x1 x2 x3 : Option Value} {x : Int32} : mw d 74 Q 55 [x0, x1, x2, x3] (.int x :: st) h = mB (x = 0) (mw d 74 Q) 63 58 [x0, x1, x2, x3] st h := (mw_at mj_74_55).trans (z_if_eq (by decide) rfl)
theorem mj_74_58 : mc_P 74 58 = some (.lload_n 2, 1, 0, 0, 0) := by decide +kernel
theorem s_74_58 {x0 x1 x3 : Option Value} {w : Value} : mw d 74 Q 58 [x0, x1, some w, x3] (st) h = mv_l w (mw d 74 Q 59 [x0, x1, some w, x3] (w :: st) h) := (mw_at mj_74_58).trans (z_lload_n rfl)
theorem mj_74_59 : mc_P 74 59 = some (.lneg, 1, 0, 0, 0) := by decide +kernel
theorem s_74_59 {x0 x1 x2 x3 : Option Value} {x : Int64} : mw d 74 Q 59 [x0, x1, x2, x3] (.long x :: st) h = mw d 74 Q 60 [x0, x1, x2, x3] (.long (-x) :: st) h := (mw_at mj_74_59).trans (z_lneg)
theorem mj_74_60 : mc_P 74 60 = some (.goto 4, 3, 0, 0, 0) := by decide +kernel
theorem s_74_60 {x0 x1 x2 x3 : Option Value} : mw d 74 Q 60 [x0, x1, x2, x3] (st) h = mw d 74 Q 64 [x0, x1, x2, x3] (st) h := (mw_at mj_74_60).trans (z_goto (by decide))
theorem mj_74_63 : mc_P 74 63 = some (.lload_n 2, 1, 0, 0, 0) := by decide +kernel
theorem s_74_63 {x0 x1 x3 : Option Value} {w : Value} : mw d 74 Q 63 [x0, x1, some w, x3] (st) h = mv_l w (mw d 74 Q 64 [x0, x1, some w, x3] (w :: st) h) := (mw_at mj_74_63).trans (z_lload_n rfl)
theorem mj_74_64 : mc_P 74 64 = some (.lreturn, 1, 0, 0, 0) := by decide +kernel
theorem s_74_64 {x0 x1 x2 x3 : Option Value} {x : Int64} : mw d 74 Q 64 [x0, x1, x2, x3] ([.long x]) h = Q (some (.long x)) h := (mw_at mj_74_64).trans (z_lret)
theorem e_74 {a0 : Nat} : mcall d 74 [.ref a0] h Q = mw d 74 Q 0 [some (.ref a0), none, none, none] [] h := by
  show mw d 74 Q 0 (me_en (mc_nl 74) _) [] h = _
  rw [nl_74]; rfl

/-! InvariantDesk$Parser.readCond(II)V -/
theorem mj_75_0 : mc_P 75 0 = some (.iload_n 1, 1, 0, 0, 0) := by decide +kernel
theorem s_75_0 {x0 x2 : Option Value} {w : Value} : mw d 75 Q 0 [x0, some w, x2] (st) h = mv_i w (mw d 75 Q 1 [x0, some w, x2] (w :: st) h) := (mw_at mj_75_0).trans (z_iload_n rfl)
theorem mj_75_1 : mc_P 75 1 = some (.tableswitch 257 171 178 #[47, 78, 133, 150, 205, 212, 219, 243], 47, 0, 0, 0) := by decide +kernel
theorem s_75_1 {x0 x1 x2 : Option Value} {x : Int32} : mw d 75 Q 1 [x0, x1, x2] (.int x :: st) h = mS x (mw d 75 Q) 258 [x0, x1, x2] st h [(171, 48), (172, 79), (173, 134), (174, 151), (175, 206), (176, 213), (177, 220), (178, 244)] := (mw_at mj_75_1).trans (z_tab (by decide) (by decide) (by decide +kernel))
theorem mj_75_48 : mc_P 75 48 = some (.aload_n 0, 1, 0, 0, 0) := by decide +kernel
theorem s_75_48 {x1 x2 : Option Value} {w : Value} : mw d 75 Q 48 [some w, x1, x2] (st) h = mv_a w (mw d 75 Q 49 [some w, x1, x2] (w :: st) h) := (mw_at mj_75_48).trans (z_aload_n rfl)
theorem mj_75_49 : mc_P 75 49 = some (.invokevirtual 152, 3, 52, 3, 1) := by decide +kernel
theorem s_75_49 {x0 x1 x2 : Option Value} {o : Nat} : mw (d + 1) 75 Q 49 [x0, x1, x2] (.ref o :: st) h = (mg h o 3 ∧ mca st 8 ∧ mca [.ref o] 1 ∧ mcall d 52 [.ref o] h (mK (d + 1) 75 Q 52 [x0, x1, x2] st)) := (mw_at mj_75_49).trans ((z_invv (As := []) (by decide) rfl rfl).trans (congrArg (And _) (congrArg (And _) (mC_nl nl_52))))
theorem mj_75_52 : mc_P 75 52 = some (.ifCond .eq 214, 3, 0, 0, 0) := by decide +kernel
theorem s_75_52 {x0 x1 x2 : Option Value} {x : Int32} : mw d 75 Q 52 [x0, x1, x2] (.int x :: st) h = mB (x = 0) (mw d 75 Q) 266 55 [x0, x1, x2] st h := (mw_at mj_75_52).trans (z_if_eq (by decide) rfl)
theorem mj_75_55 : mc_P 75 55 = some (.aload_n 0, 1, 0, 0, 0) := by decide +kernel
theorem s_75_55 {x1 x2 : Option Value} {w : Value} : mw d 75 Q 55 [some w, x1, x2] (st) h = mv_a w (mw d 75 Q 56 [some w, x1, x2] (w :: st) h) := (mw_at mj_75_55).trans (z_aload_n rfl)
theorem mj_75_56 : mc_P 75 56 = some (.sipush 170, 3, 0, 0, 0) := by decide +kernel
theorem s_75_56 {x0 x1 x2 : Option Value} : mw d 75 Q 56 [x0, x1, x2] (st) h = mw d 75 Q 59 [x0, x1, x2] (.int 170 :: st) h := (mw_at mj_75_56).trans (z_sipush (by decide))
theorem mj_75_59 : mc_P 75 59 = some (.invokevirtual 51, 3, 45, 3, 2) := by decide +kernel
theorem s_75_59 {x0 x1 x2 : Option Value} {o : Nat} {a1 : Value} : mw (d + 1) 75 Q 59 [x0, x1, x2] (a1 :: .ref o :: st) h = (mg h o 3 ∧ mca st 8 ∧ mca [.ref o, a1] 2 ∧ mcall d 45 [.ref o, a1] h (mK (d + 1) 75 Q 62 [x0, x1, x2] st)) := (mw_at mj_75_59).trans ((z_invv (As := [a1]) (by decide) rfl rfl).trans (congrArg (And _) (congrArg (And _) (mC_nl nl_45))))
theorem mj_75_62 : mc_P 75 62 = some (.aload_n 0, 1, 0, 0, 0) := by decide +kernel
theorem s_75_62 {x1 x2 : Option Value} {w : Value} : mw d 75 Q 62 [some w, x1, x2] (st) h = mv_a w (mw d 75 Q 63 [some w, x1, x2] (w :: st) h) := (mw_at mj_75_62).trans (z_aload_n rfl)
theorem mj_75_63 : mc_P 75 63 = some (.sipush 172, 3, 0, 0, 0) := by decide +kernel
theorem s_75_63 {x0 x1 x2 : Option Value} : mw d 75 Q 63 [x0, x1, x2] (st) h = mw d 75 Q 66 [x0, x1, x2] (.int 172 :: st) h := (mw_at mj_75_63).trans (z_sipush (by decide))
theorem mj_75_66 : mc_P 75 66 = some (.invokevirtual 51, 3, 45, 3, 2) := by decide +kernel
theorem s_75_66 {x0 x1 x2 : Option Value} {o : Nat} {a1 : Value} : mw (d + 1) 75 Q 66 [x0, x1, x2] (a1 :: .ref o :: st) h = (mg h o 3 ∧ mca st 8 ∧ mca [.ref o, a1] 2 ∧ mcall d 45 [.ref o, a1] h (mK (d + 1) 75 Q 69 [x0, x1, x2] st)) := (mw_at mj_75_66).trans ((z_invv (As := [a1]) (by decide) rfl rfl).trans (congrArg (And _) (congrArg (And _) (mC_nl nl_45))))
theorem mj_75_69 : mc_P 75 69 = some (.aload_n 0, 1, 0, 0, 0) := by decide +kernel
theorem s_75_69 {x1 x2 : Option Value} {w : Value} : mw d 75 Q 69 [some w, x1, x2] (st) h = mv_a w (mw d 75 Q 70 [some w, x1, x2] (w :: st) h) := (mw_at mj_75_69).trans (z_aload_n rfl)
theorem mj_75_70 : mc_P 75 70 = some (.sipush 173, 3, 0, 0, 0) := by decide +kernel
theorem s_75_70 {x0 x1 x2 : Option Value} : mw d 75 Q 70 [x0, x1, x2] (st) h = mw d 75 Q 73 [x0, x1, x2] (.int 173 :: st) h := (mw_at mj_75_70).trans (z_sipush (by decide))
theorem mj_75_73 : mc_P 75 73 = some (.invokevirtual 51, 3, 45, 3, 2) := by decide +kernel
theorem s_75_73 {x0 x1 x2 : Option Value} {o : Nat} {a1 : Value} : mw (d + 1) 75 Q 73 [x0, x1, x2] (a1 :: .ref o :: st) h = (mg h o 3 ∧ mca st 8 ∧ mca [.ref o, a1] 2 ∧ mcall d 45 [.ref o, a1] h (mK (d + 1) 75 Q 76 [x0, x1, x2] st)) := (mw_at mj_75_73).trans ((z_invv (As := [a1]) (by decide) rfl rfl).trans (congrArg (And _) (congrArg (And _) (mC_nl nl_45))))
theorem mj_75_76 : mc_P 75 76 = some (.goto 190, 3, 0, 0, 0) := by decide +kernel
theorem s_75_76 {x0 x1 x2 : Option Value} : mw d 75 Q 76 [x0, x1, x2] (st) h = mw d 75 Q 266 [x0, x1, x2] (st) h := (mw_at mj_75_76).trans (z_goto (by decide))
theorem mj_75_79 : mc_P 75 79 = some (.aload_n 0, 1, 0, 0, 0) := by decide +kernel
theorem s_75_79 {x1 x2 : Option Value} {w : Value} : mw d 75 Q 79 [some w, x1, x2] (st) h = mv_a w (mw d 75 Q 80 [some w, x1, x2] (w :: st) h) := (mw_at mj_75_79).trans (z_aload_n rfl)
theorem mj_75_80 : mc_P 75 80 = some (.invokevirtual 108, 3, 47, 3, 1) := by decide +kernel
theorem s_75_80 {x0 x1 x2 : Option Value} {o : Nat} : mw (d + 1) 75 Q 80 [x0, x1, x2] (.ref o :: st) h = (mg h o 3 ∧ mca st 8 ∧ mca [.ref o] 1 ∧ mcall d 47 [.ref o] h (mK (d + 1) 75 Q 83 [x0, x1, x2] st)) := (mw_at mj_75_80).trans ((z_invv (As := []) (by decide) rfl rfl).trans (congrArg (And _) (congrArg (And _) (mC_nl nl_47))))
theorem mj_75_83 : mc_P 75 83 = some (.sipush 133, 3, 0, 0, 0) := by decide +kernel
theorem s_75_83 {x0 x1 x2 : Option Value} : mw d 75 Q 83 [x0, x1, x2] (st) h = mw d 75 Q 86 [x0, x1, x2] (.int 133 :: st) h := (mw_at mj_75_83).trans (z_sipush (by decide))
theorem mj_75_86 : mc_P 75 86 = some (.if_icmp .ne 180, 3, 0, 0, 0) := by decide +kernel
theorem s_75_86 {x0 x1 x2 : Option Value} {x w : Int32} : mw d 75 Q 86 [x0, x1, x2] (.int w :: .int x :: st) h = mB (¬ x = w) (mw d 75 Q) 266 89 [x0, x1, x2] st h := (mw_at mj_75_86).trans (z_icmp_ne (by decide) rfl)
theorem mj_75_89 : mc_P 75 89 = some (.aload_n 0, 1, 0, 0, 0) := by decide +kernel
theorem s_75_89 {x1 x2 : Option Value} {w : Value} : mw d 75 Q 89 [some w, x1, x2] (st) h = mv_a w (mw d 75 Q 90 [some w, x1, x2] (w :: st) h) := (mw_at mj_75_89).trans (z_aload_n rfl)
theorem mj_75_90 : mc_P 75 90 = some (.dup, 1, 0, 0, 0) := by decide +kernel
theorem s_75_90 {x0 x1 x2 : Option Value} {w : Value} : mw d 75 Q 90 [x0, x1, x2] (w :: st) h = (w.category = 1 ∧ mw d 75 Q 91 [x0, x1, x2] (w :: w :: st) h) := (mw_at mj_75_90).trans (z_dup)
theorem mj_75_91 : mc_P 75 91 = some (.getfield 95, 3, 3, 5, 0) := by decide +kernel
theorem s_75_91 {x0 x1 x2 : Option Value} {o : Nat} : mw d 75 Q 91 [x0, x1, x2] (.ref o :: st) h = (mg h o 3 ∧ mw d 75 Q 94 [x0, x1, x2] (.int (mh_i h o 5) :: st) h) := (mw_at mj_75_91).trans (z_geti (by decide) (by decide) (Or.inl rfl))
theorem mj_75_94 : mc_P 75 94 = some (.iconst 1, 1, 0, 0, 0) := by decide +kernel
theorem s_75_94 {x0 x1 x2 : Option Value} : mw d 75 Q 94 [x0, x1, x2] (st) h = mw d 75 Q 95 [x0, x1, x2] (.int 1 :: st) h := (mw_at mj_75_94).trans (z_iconst (by decide))
theorem mj_75_95 : mc_P 75 95 = some (.iadd, 1, 0, 0, 0) := by decide +kernel
theorem s_75_95 {x0 x1 x2 : Option Value} {x w : Int32} : mw d 75 Q 95 [x0, x1, x2] (.int w :: .int x :: st) h = mw d 75 Q 96 [x0, x1, x2] (.int (x + w) :: st) h := (mw_at mj_75_95).trans (z_iadd)
theorem mj_75_96 : mc_P 75 96 = some (.putfield 95, 3, 3, 5, 0) := by decide +kernel
theorem s_75_96 {x0 x1 x2 : Option Value} {o : Nat} {w : Int32} : mw d 75 Q 96 [x0, x1, x2] (.int w :: .ref o :: st) h = (mg h o 3 ∧ mw d 75 Q 99 [x0, x1, x2] (st) (mh_si h o 5 w)) := (mw_at mj_75_96).trans (z_puti (by decide) (by decide) rfl)
theorem mj_75_99 : mc_P 75 99 = some (.aload_n 0, 1, 0, 0, 0) := by decide +kernel
theorem s_75_99 {x1 x2 : Option Value} {w : Value} : mw d 75 Q 99 [some w, x1, x2] (st) h = mv_a w (mw d 75 Q 100 [some w, x1, x2] (w :: st) h) := (mw_at mj_75_99).trans (z_aload_n rfl)
theorem mj_75_100 : mc_P 75 100 = some (.sipush 172, 3, 0, 0, 0) := by decide +kernel
theorem s_75_100 {x0 x1 x2 : Option Value} : mw d 75 Q 100 [x0, x1, x2] (st) h = mw d 75 Q 103 [x0, x1, x2] (.int 172 :: st) h := (mw_at mj_75_100).trans (z_sipush (by decide))
theorem mj_75_103 : mc_P 75 103 = some (.invokevirtual 51, 3, 45, 3, 2) := by decide +kernel
theorem s_75_103 {x0 x1 x2 : Option Value} {o : Nat} {a1 : Value} : mw (d + 1) 75 Q 103 [x0, x1, x2] (a1 :: .ref o :: st) h = (mg h o 3 ∧ mca st 8 ∧ mca [.ref o, a1] 2 ∧ mcall d 45 [.ref o, a1] h (mK (d + 1) 75 Q 106 [x0, x1, x2] st)) := (mw_at mj_75_103).trans ((z_invv (As := [a1]) (by decide) rfl rfl).trans (congrArg (And _) (congrArg (And _) (mC_nl nl_45))))
theorem mj_75_106 : mc_P 75 106 = some (.aload_n 0, 1, 0, 0, 0) := by decide +kernel
theorem s_75_106 {x1 x2 : Option Value} {w : Value} : mw d 75 Q 106 [some w, x1, x2] (st) h = mv_a w (mw d 75 Q 107 [some w, x1, x2] (w :: st) h) := (mw_at mj_75_106).trans (z_aload_n rfl)
theorem mj_75_107 : mc_P 75 107 = some (.sipush 179, 3, 0, 0, 0) := by decide +kernel
theorem s_75_107 {x0 x1 x2 : Option Value} : mw d 75 Q 107 [x0, x1, x2] (st) h = mw d 75 Q 110 [x0, x1, x2] (.int 179 :: st) h := (mw_at mj_75_107).trans (z_sipush (by decide))
theorem mj_75_110 : mc_P 75 110 = some (.aload_n 0, 1, 0, 0, 0) := by decide +kernel
theorem s_75_110 {x1 x2 : Option Value} {w : Value} : mw d 75 Q 110 [some w, x1, x2] (st) h = mv_a w (mw d 75 Q 111 [some w, x1, x2] (w :: st) h) := (mw_at mj_75_110).trans (z_aload_n rfl)
theorem mj_75_111 : mc_P 75 111 = some (.getfield 23, 3, 3, 1, 0) := by decide +kernel
theorem s_75_111 {x0 x1 x2 : Option Value} {o : Nat} : mw d 75 Q 111 [x0, x1, x2] (.ref o :: st) h = (mg h o 3 ∧ mw d 75 Q 114 [x0, x1, x2] (va_rf (mh_r h o 1) :: st) h) := (mw_at mj_75_111).trans (z_getr (by decide) (by decide) rfl)
theorem mj_75_114 : mc_P 75 114 = some (.sipush 133, 3, 0, 0, 0) := by decide +kernel
theorem s_75_114 {x0 x1 x2 : Option Value} : mw d 75 Q 114 [x0, x1, x2] (st) h = mw d 75 Q 117 [x0, x1, x2] (.int 133 :: st) h := (mw_at mj_75_114).trans (z_sipush (by decide))
theorem mj_75_117 : mc_P 75 117 = some (.iconst 0, 1, 0, 0, 0) := by decide +kernel
theorem s_75_117 {x0 x1 x2 : Option Value} : mw d 75 Q 117 [x0, x1, x2] (st) h = mw d 75 Q 118 [x0, x1, x2] (.int 0 :: st) h := (mw_at mj_75_117).trans (z_iconst (by decide))
theorem mj_75_118 : mc_P 75 118 = some (.invokevirtual 321, 3, 130, 7, 3) := by decide +kernel
theorem s_75_118 {x0 x1 x2 : Option Value} {o : Nat} {a1 a2 : Value} : mw (d + 1) 75 Q 118 [x0, x1, x2] (a2 :: a1 :: .ref o :: st) h = (mg h o 7 ∧ mca st 8 ∧ mca [.ref o, a1, a2] 3 ∧ mcall d 130 [.ref o, a1, a2] h (mK (d + 1) 75 Q 121 [x0, x1, x2] st)) := (mw_at mj_75_118).trans ((z_invv (As := [a1, a2]) (by decide) rfl rfl).trans (congrArg (And _) (congrArg (And _) (mC_nl nl_130))))
theorem mj_75_121 : mc_P 75 121 = some (.invokevirtual 89, 3, 46, 3, 3) := by decide +kernel
theorem s_75_121 {x0 x1 x2 : Option Value} {o : Nat} {a1 a2 : Value} : mw (d + 1) 75 Q 121 [x0, x1, x2] (a2 :: a1 :: .ref o :: st) h = (mg h o 3 ∧ mca st 8 ∧ mca [.ref o, a1, a2] 3 ∧ mcall d 46 [.ref o, a1, a2] h (mK (d + 1) 75 Q 124 [x0, x1, x2] st)) := (mw_at mj_75_121).trans ((z_invv (As := [a1, a2]) (by decide) rfl rfl).trans (congrArg (And _) (congrArg (And _) (mC_nl nl_46))))
theorem mj_75_124 : mc_P 75 124 = some (.aload_n 0, 1, 0, 0, 0) := by decide +kernel
theorem s_75_124 {x1 x2 : Option Value} {w : Value} : mw d 75 Q 124 [some w, x1, x2] (st) h = mv_a w (mw d 75 Q 125 [some w, x1, x2] (w :: st) h) := (mw_at mj_75_124).trans (z_aload_n rfl)
theorem mj_75_125 : mc_P 75 125 = some (.sipush 173, 3, 0, 0, 0) := by decide +kernel
theorem s_75_125 {x0 x1 x2 : Option Value} : mw d 75 Q 125 [x0, x1, x2] (st) h = mw d 75 Q 128 [x0, x1, x2] (.int 173 :: st) h := (mw_at mj_75_125).trans (z_sipush (by decide))
theorem mj_75_128 : mc_P 75 128 = some (.invokevirtual 51, 3, 45, 3, 2) := by decide +kernel
theorem s_75_128 {x0 x1 x2 : Option Value} {o : Nat} {a1 : Value} : mw (d + 1) 75 Q 128 [x0, x1, x2] (a1 :: .ref o :: st) h = (mg h o 3 ∧ mca st 8 ∧ mca [.ref o, a1] 2 ∧ mcall d 45 [.ref o, a1] h (mK (d + 1) 75 Q 131 [x0, x1, x2] st)) := (mw_at mj_75_128).trans ((z_invv (As := [a1]) (by decide) rfl rfl).trans (congrArg (And _) (congrArg (And _) (mC_nl nl_45))))
theorem mj_75_131 : mc_P 75 131 = some (.goto 135, 3, 0, 0, 0) := by decide +kernel
theorem s_75_131 {x0 x1 x2 : Option Value} : mw d 75 Q 131 [x0, x1, x2] (st) h = mw d 75 Q 266 [x0, x1, x2] (st) h := (mw_at mj_75_131).trans (z_goto (by decide))
theorem mj_75_134 : mc_P 75 134 = some (.aload_n 0, 1, 0, 0, 0) := by decide +kernel
theorem s_75_134 {x1 x2 : Option Value} {w : Value} : mw d 75 Q 134 [some w, x1, x2] (st) h = mv_a w (mw d 75 Q 135 [some w, x1, x2] (w :: st) h) := (mw_at mj_75_134).trans (z_aload_n rfl)
theorem mj_75_135 : mc_P 75 135 = some (.sipush 174, 3, 0, 0, 0) := by decide +kernel
theorem s_75_135 {x0 x1 x2 : Option Value} : mw d 75 Q 135 [x0, x1, x2] (st) h = mw d 75 Q 138 [x0, x1, x2] (.int 174 :: st) h := (mw_at mj_75_135).trans (z_sipush (by decide))
theorem mj_75_138 : mc_P 75 138 = some (.invokevirtual 51, 3, 45, 3, 2) := by decide +kernel
theorem s_75_138 {x0 x1 x2 : Option Value} {o : Nat} {a1 : Value} : mw (d + 1) 75 Q 138 [x0, x1, x2] (a1 :: .ref o :: st) h = (mg h o 3 ∧ mca st 8 ∧ mca [.ref o, a1] 2 ∧ mcall d 45 [.ref o, a1] h (mK (d + 1) 75 Q 141 [x0, x1, x2] st)) := (mw_at mj_75_138).trans ((z_invv (As := [a1]) (by decide) rfl rfl).trans (congrArg (And _) (congrArg (And _) (mC_nl nl_45))))
theorem mj_75_141 : mc_P 75 141 = some (.aload_n 0, 1, 0, 0, 0) := by decide +kernel
theorem s_75_141 {x1 x2 : Option Value} {w : Value} : mw d 75 Q 141 [some w, x1, x2] (st) h = mv_a w (mw d 75 Q 142 [some w, x1, x2] (w :: st) h) := (mw_at mj_75_141).trans (z_aload_n rfl)
theorem mj_75_142 : mc_P 75 142 = some (.sipush 175, 3, 0, 0, 0) := by decide +kernel
theorem s_75_142 {x0 x1 x2 : Option Value} : mw d 75 Q 142 [x0, x1, x2] (st) h = mw d 75 Q 145 [x0, x1, x2] (.int 175 :: st) h := (mw_at mj_75_142).trans (z_sipush (by decide))
theorem mj_75_145 : mc_P 75 145 = some (.invokevirtual 51, 3, 45, 3, 2) := by decide +kernel
theorem s_75_145 {x0 x1 x2 : Option Value} {o : Nat} {a1 : Value} : mw (d + 1) 75 Q 145 [x0, x1, x2] (a1 :: .ref o :: st) h = (mg h o 3 ∧ mca st 8 ∧ mca [.ref o, a1] 2 ∧ mcall d 45 [.ref o, a1] h (mK (d + 1) 75 Q 148 [x0, x1, x2] st)) := (mw_at mj_75_145).trans ((z_invv (As := [a1]) (by decide) rfl rfl).trans (congrArg (And _) (congrArg (And _) (mC_nl nl_45))))
theorem mj_75_148 : mc_P 75 148 = some (.goto 118, 3, 0, 0, 0) := by decide +kernel
theorem s_75_148 {x0 x1 x2 : Option Value} : mw d 75 Q 148 [x0, x1, x2] (st) h = mw d 75 Q 266 [x0, x1, x2] (st) h := (mw_at mj_75_148).trans (z_goto (by decide))
theorem mj_75_151 : mc_P 75 151 = some (.aload_n 0, 1, 0, 0, 0) := by decide +kernel
theorem s_75_151 {x1 x2 : Option Value} {w : Value} : mw d 75 Q 151 [some w, x1, x2] (st) h = mv_a w (mw d 75 Q 152 [some w, x1, x2] (w :: st) h) := (mw_at mj_75_151).trans (z_aload_n rfl)
theorem mj_75_152 : mc_P 75 152 = some (.invokevirtual 108, 3, 47, 3, 1) := by decide +kernel
theorem s_75_152 {x0 x1 x2 : Option Value} {o : Nat} : mw (d + 1) 75 Q 152 [x0, x1, x2] (.ref o :: st) h = (mg h o 3 ∧ mca st 8 ∧ mca [.ref o] 1 ∧ mcall d 47 [.ref o] h (mK (d + 1) 75 Q 155 [x0, x1, x2] st)) := (mw_at mj_75_152).trans ((z_invv (As := []) (by decide) rfl rfl).trans (congrArg (And _) (congrArg (And _) (mC_nl nl_47))))
theorem mj_75_155 : mc_P 75 155 = some (.sipush 132, 3, 0, 0, 0) := by decide +kernel
theorem s_75_155 {x0 x1 x2 : Option Value} : mw d 75 Q 155 [x0, x1, x2] (st) h = mw d 75 Q 158 [x0, x1, x2] (.int 132 :: st) h := (mw_at mj_75_155).trans (z_sipush (by decide))
theorem mj_75_158 : mc_P 75 158 = some (.if_icmp .ne 108, 3, 0, 0, 0) := by decide +kernel
theorem s_75_158 {x0 x1 x2 : Option Value} {x w : Int32} : mw d 75 Q 158 [x0, x1, x2] (.int w :: .int x :: st) h = mB (¬ x = w) (mw d 75 Q) 266 161 [x0, x1, x2] st h := (mw_at mj_75_158).trans (z_icmp_ne (by decide) rfl)
theorem mj_75_161 : mc_P 75 161 = some (.aload_n 0, 1, 0, 0, 0) := by decide +kernel
theorem s_75_161 {x1 x2 : Option Value} {w : Value} : mw d 75 Q 161 [some w, x1, x2] (st) h = mv_a w (mw d 75 Q 162 [some w, x1, x2] (w :: st) h) := (mw_at mj_75_161).trans (z_aload_n rfl)
theorem mj_75_162 : mc_P 75 162 = some (.dup, 1, 0, 0, 0) := by decide +kernel
theorem s_75_162 {x0 x1 x2 : Option Value} {w : Value} : mw d 75 Q 162 [x0, x1, x2] (w :: st) h = (w.category = 1 ∧ mw d 75 Q 163 [x0, x1, x2] (w :: w :: st) h) := (mw_at mj_75_162).trans (z_dup)
theorem mj_75_163 : mc_P 75 163 = some (.getfield 95, 3, 3, 5, 0) := by decide +kernel
theorem s_75_163 {x0 x1 x2 : Option Value} {o : Nat} : mw d 75 Q 163 [x0, x1, x2] (.ref o :: st) h = (mg h o 3 ∧ mw d 75 Q 166 [x0, x1, x2] (.int (mh_i h o 5) :: st) h) := (mw_at mj_75_163).trans (z_geti (by decide) (by decide) (Or.inl rfl))
theorem mj_75_166 : mc_P 75 166 = some (.iconst 1, 1, 0, 0, 0) := by decide +kernel
theorem s_75_166 {x0 x1 x2 : Option Value} : mw d 75 Q 166 [x0, x1, x2] (st) h = mw d 75 Q 167 [x0, x1, x2] (.int 1 :: st) h := (mw_at mj_75_166).trans (z_iconst (by decide))
theorem mj_75_167 : mc_P 75 167 = some (.iadd, 1, 0, 0, 0) := by decide +kernel
theorem s_75_167 {x0 x1 x2 : Option Value} {x w : Int32} : mw d 75 Q 167 [x0, x1, x2] (.int w :: .int x :: st) h = mw d 75 Q 168 [x0, x1, x2] (.int (x + w) :: st) h := (mw_at mj_75_167).trans (z_iadd)
theorem mj_75_168 : mc_P 75 168 = some (.putfield 95, 3, 3, 5, 0) := by decide +kernel
theorem s_75_168 {x0 x1 x2 : Option Value} {o : Nat} {w : Int32} : mw d 75 Q 168 [x0, x1, x2] (.int w :: .ref o :: st) h = (mg h o 3 ∧ mw d 75 Q 171 [x0, x1, x2] (st) (mh_si h o 5 w)) := (mw_at mj_75_168).trans (z_puti (by decide) (by decide) rfl)
theorem mj_75_171 : mc_P 75 171 = some (.aload_n 0, 1, 0, 0, 0) := by decide +kernel
theorem s_75_171 {x1 x2 : Option Value} {w : Value} : mw d 75 Q 171 [some w, x1, x2] (st) h = mv_a w (mw d 75 Q 172 [some w, x1, x2] (w :: st) h) := (mw_at mj_75_171).trans (z_aload_n rfl)
theorem mj_75_172 : mc_P 75 172 = some (.sipush 174, 3, 0, 0, 0) := by decide +kernel
theorem s_75_172 {x0 x1 x2 : Option Value} : mw d 75 Q 172 [x0, x1, x2] (st) h = mw d 75 Q 175 [x0, x1, x2] (.int 174 :: st) h := (mw_at mj_75_172).trans (z_sipush (by decide))
theorem mj_75_175 : mc_P 75 175 = some (.invokevirtual 51, 3, 45, 3, 2) := by decide +kernel
theorem s_75_175 {x0 x1 x2 : Option Value} {o : Nat} {a1 : Value} : mw (d + 1) 75 Q 175 [x0, x1, x2] (a1 :: .ref o :: st) h = (mg h o 3 ∧ mca st 8 ∧ mca [.ref o, a1] 2 ∧ mcall d 45 [.ref o, a1] h (mK (d + 1) 75 Q 178 [x0, x1, x2] st)) := (mw_at mj_75_175).trans ((z_invv (As := [a1]) (by decide) rfl rfl).trans (congrArg (And _) (congrArg (And _) (mC_nl nl_45))))
theorem mj_75_178 : mc_P 75 178 = some (.aload_n 0, 1, 0, 0, 0) := by decide +kernel
theorem s_75_178 {x1 x2 : Option Value} {w : Value} : mw d 75 Q 178 [some w, x1, x2] (st) h = mv_a w (mw d 75 Q 179 [some w, x1, x2] (w :: st) h) := (mw_at mj_75_178).trans (z_aload_n rfl)
theorem mj_75_179 : mc_P 75 179 = some (.sipush 179, 3, 0, 0, 0) := by decide +kernel
theorem s_75_179 {x0 x1 x2 : Option Value} : mw d 75 Q 179 [x0, x1, x2] (st) h = mw d 75 Q 182 [x0, x1, x2] (.int 179 :: st) h := (mw_at mj_75_179).trans (z_sipush (by decide))
theorem mj_75_182 : mc_P 75 182 = some (.aload_n 0, 1, 0, 0, 0) := by decide +kernel
theorem s_75_182 {x1 x2 : Option Value} {w : Value} : mw d 75 Q 182 [some w, x1, x2] (st) h = mv_a w (mw d 75 Q 183 [some w, x1, x2] (w :: st) h) := (mw_at mj_75_182).trans (z_aload_n rfl)
theorem mj_75_183 : mc_P 75 183 = some (.getfield 23, 3, 3, 1, 0) := by decide +kernel
theorem s_75_183 {x0 x1 x2 : Option Value} {o : Nat} : mw d 75 Q 183 [x0, x1, x2] (.ref o :: st) h = (mg h o 3 ∧ mw d 75 Q 186 [x0, x1, x2] (va_rf (mh_r h o 1) :: st) h) := (mw_at mj_75_183).trans (z_getr (by decide) (by decide) rfl)
theorem mj_75_186 : mc_P 75 186 = some (.sipush 132, 3, 0, 0, 0) := by decide +kernel
theorem s_75_186 {x0 x1 x2 : Option Value} : mw d 75 Q 186 [x0, x1, x2] (st) h = mw d 75 Q 189 [x0, x1, x2] (.int 132 :: st) h := (mw_at mj_75_186).trans (z_sipush (by decide))
theorem mj_75_189 : mc_P 75 189 = some (.iconst 0, 1, 0, 0, 0) := by decide +kernel
theorem s_75_189 {x0 x1 x2 : Option Value} : mw d 75 Q 189 [x0, x1, x2] (st) h = mw d 75 Q 190 [x0, x1, x2] (.int 0 :: st) h := (mw_at mj_75_189).trans (z_iconst (by decide))
theorem mj_75_190 : mc_P 75 190 = some (.invokevirtual 321, 3, 130, 7, 3) := by decide +kernel
theorem s_75_190 {x0 x1 x2 : Option Value} {o : Nat} {a1 a2 : Value} : mw (d + 1) 75 Q 190 [x0, x1, x2] (a2 :: a1 :: .ref o :: st) h = (mg h o 7 ∧ mca st 8 ∧ mca [.ref o, a1, a2] 3 ∧ mcall d 130 [.ref o, a1, a2] h (mK (d + 1) 75 Q 193 [x0, x1, x2] st)) := (mw_at mj_75_190).trans ((z_invv (As := [a1, a2]) (by decide) rfl rfl).trans (congrArg (And _) (congrArg (And _) (mC_nl nl_130))))
theorem mj_75_193 : mc_P 75 193 = some (.invokevirtual 89, 3, 46, 3, 3) := by decide +kernel
theorem s_75_193 {x0 x1 x2 : Option Value} {o : Nat} {a1 a2 : Value} : mw (d + 1) 75 Q 193 [x0, x1, x2] (a2 :: a1 :: .ref o :: st) h = (mg h o 3 ∧ mca st 8 ∧ mca [.ref o, a1, a2] 3 ∧ mcall d 46 [.ref o, a1, a2] h (mK (d + 1) 75 Q 196 [x0, x1, x2] st)) := (mw_at mj_75_193).trans ((z_invv (As := [a1, a2]) (by decide) rfl rfl).trans (congrArg (And _) (congrArg (And _) (mC_nl nl_46))))
theorem mj_75_196 : mc_P 75 196 = some (.aload_n 0, 1, 0, 0, 0) := by decide +kernel
theorem s_75_196 {x1 x2 : Option Value} {w : Value} : mw d 75 Q 196 [some w, x1, x2] (st) h = mv_a w (mw d 75 Q 197 [some w, x1, x2] (w :: st) h) := (mw_at mj_75_196).trans (z_aload_n rfl)
theorem mj_75_197 : mc_P 75 197 = some (.sipush 175, 3, 0, 0, 0) := by decide +kernel
theorem s_75_197 {x0 x1 x2 : Option Value} : mw d 75 Q 197 [x0, x1, x2] (st) h = mw d 75 Q 200 [x0, x1, x2] (.int 175 :: st) h := (mw_at mj_75_197).trans (z_sipush (by decide))
theorem mj_75_200 : mc_P 75 200 = some (.invokevirtual 51, 3, 45, 3, 2) := by decide +kernel
theorem s_75_200 {x0 x1 x2 : Option Value} {o : Nat} {a1 : Value} : mw (d + 1) 75 Q 200 [x0, x1, x2] (a1 :: .ref o :: st) h = (mg h o 3 ∧ mca st 8 ∧ mca [.ref o, a1] 2 ∧ mcall d 45 [.ref o, a1] h (mK (d + 1) 75 Q 203 [x0, x1, x2] st)) := (mw_at mj_75_200).trans ((z_invv (As := [a1]) (by decide) rfl rfl).trans (congrArg (And _) (congrArg (And _) (mC_nl nl_45))))
theorem mj_75_203 : mc_P 75 203 = some (.goto 63, 3, 0, 0, 0) := by decide +kernel
theorem s_75_203 {x0 x1 x2 : Option Value} : mw d 75 Q 203 [x0, x1, x2] (st) h = mw d 75 Q 266 [x0, x1, x2] (st) h := (mw_at mj_75_203).trans (z_goto (by decide))
theorem mj_75_206 : mc_P 75 206 = some (.aload_n 0, 1, 0, 0, 0) := by decide +kernel
theorem s_75_206 {x1 x2 : Option Value} {w : Value} : mw d 75 Q 206 [some w, x1, x2] (st) h = mv_a w (mw d 75 Q 207 [some w, x1, x2] (w :: st) h) := (mw_at mj_75_206).trans (z_aload_n rfl)
theorem mj_75_207 : mc_P 75 207 = some (.invokevirtual 324, 3, 76, 3, 1) := by decide +kernel
theorem s_75_207 {x0 x1 x2 : Option Value} {o : Nat} : mw (d + 1) 75 Q 207 [x0, x1, x2] (.ref o :: st) h = (mg h o 3 ∧ mca st 8 ∧ mca [.ref o] 1 ∧ mcall d 76 [.ref o] h (mK (d + 1) 75 Q 210 [x0, x1, x2] st)) := (mw_at mj_75_207).trans ((z_invv (As := []) (by decide) rfl rfl).trans (congrArg (And _) (congrArg (And _) (mC_nl nl_76))))
theorem mj_75_210 : mc_P 75 210 = some (.goto 56, 3, 0, 0, 0) := by decide +kernel
theorem s_75_210 {x0 x1 x2 : Option Value} : mw d 75 Q 210 [x0, x1, x2] (st) h = mw d 75 Q 266 [x0, x1, x2] (st) h := (mw_at mj_75_210).trans (z_goto (by decide))
theorem mj_75_213 : mc_P 75 213 = some (.aload_n 0, 1, 0, 0, 0) := by decide +kernel
theorem s_75_213 {x1 x2 : Option Value} {w : Value} : mw d 75 Q 213 [some w, x1, x2] (st) h = mv_a w (mw d 75 Q 214 [some w, x1, x2] (w :: st) h) := (mw_at mj_75_213).trans (z_aload_n rfl)
theorem mj_75_214 : mc_P 75 214 = some (.invokevirtual 327, 3, 77, 3, 1) := by decide +kernel
theorem s_75_214 {x0 x1 x2 : Option Value} {o : Nat} : mw (d + 1) 75 Q 214 [x0, x1, x2] (.ref o :: st) h = (mg h o 3 ∧ mca st 8 ∧ mca [.ref o] 3 ∧ mcall d 77 [.ref o] h (mK (d + 1) 75 Q 217 [x0, x1, x2] st)) := (mw_at mj_75_214).trans ((z_invv (As := []) (by decide) rfl rfl).trans (congrArg (And _) (congrArg (And _) (mC_nl nl_77))))
theorem mj_75_217 : mc_P 75 217 = some (.goto 49, 3, 0, 0, 0) := by decide +kernel
theorem s_75_217 {x0 x1 x2 : Option Value} : mw d 75 Q 217 [x0, x1, x2] (st) h = mw d 75 Q 266 [x0, x1, x2] (st) h := (mw_at mj_75_217).trans (z_goto (by decide))
theorem mj_75_220 : mc_P 75 220 = some (.aload_n 0, 1, 0, 0, 0) := by decide +kernel
theorem s_75_220 {x1 x2 : Option Value} {w : Value} : mw d 75 Q 220 [some w, x1, x2] (st) h = mv_a w (mw d 75 Q 221 [some w, x1, x2] (w :: st) h) := (mw_at mj_75_220).trans (z_aload_n rfl)
theorem mj_75_221 : mc_P 75 221 = some (.getfield 23, 3, 3, 1, 0) := by decide +kernel
theorem s_75_221 {x0 x1 x2 : Option Value} {o : Nat} : mw d 75 Q 221 [x0, x1, x2] (.ref o :: st) h = (mg h o 3 ∧ mw d 75 Q 224 [x0, x1, x2] (va_rf (mh_r h o 1) :: st) h) := (mw_at mj_75_221).trans (z_getr (by decide) (by decide) rfl)
theorem mj_75_224 : mc_P 75 224 = some (.aload_n 0, 1, 0, 0, 0) := by decide +kernel
theorem s_75_224 {x1 x2 : Option Value} {w : Value} : mw d 75 Q 224 [some w, x1, x2] (st) h = mv_a w (mw d 75 Q 225 [some w, x1, x2] (w :: st) h) := (mw_at mj_75_224).trans (z_aload_n rfl)
theorem mj_75_225 : mc_P 75 225 = some (.getfield 330, 3, 3, 11, 0) := by decide +kernel
theorem s_75_225 {x0 x1 x2 : Option Value} {o : Nat} : mw d 75 Q 225 [x0, x1, x2] (.ref o :: st) h = (mg h o 3 ∧ mw d 75 Q 228 [x0, x1, x2] (.int (mh_i h o 11) :: st) h) := (mw_at mj_75_225).trans (z_geti (by decide) (by decide) (Or.inl rfl))
theorem mj_75_228 : mc_P 75 228 = some (.aload_n 0, 1, 0, 0, 0) := by decide +kernel
theorem s_75_228 {x1 x2 : Option Value} {w : Value} : mw d 75 Q 228 [some w, x1, x2] (st) h = mv_a w (mw d 75 Q 229 [some w, x1, x2] (w :: st) h) := (mw_at mj_75_228).trans (z_aload_n rfl)
theorem mj_75_229 : mc_P 75 229 = some (.getfield 23, 3, 3, 1, 0) := by decide +kernel
theorem s_75_229 {x0 x1 x2 : Option Value} {o : Nat} : mw d 75 Q 229 [x0, x1, x2] (.ref o :: st) h = (mg h o 3 ∧ mw d 75 Q 232 [x0, x1, x2] (va_rf (mh_r h o 1) :: st) h) := (mw_at mj_75_229).trans (z_getr (by decide) (by decide) rfl)
theorem mj_75_232 : mc_P 75 232 = some (.getfield 333, 3, 7, 8, 0) := by decide +kernel
theorem s_75_232 {x0 x1 x2 : Option Value} {o : Nat} : mw d 75 Q 232 [x0, x1, x2] (.ref o :: st) h = (mg h o 7 ∧ mw d 75 Q 235 [x0, x1, x2] (.int (mh_i h o 8) :: st) h) := (mw_at mj_75_232).trans (z_geti (by decide) (by decide) (Or.inl rfl))
theorem mj_75_235 : mc_P 75 235 = some (.iconst 2, 1, 0, 0, 0) := by decide +kernel
theorem s_75_235 {x0 x1 x2 : Option Value} : mw d 75 Q 235 [x0, x1, x2] (st) h = mw d 75 Q 236 [x0, x1, x2] (.int 2 :: st) h := (mw_at mj_75_235).trans (z_iconst (by decide))
theorem mj_75_236 : mc_P 75 236 = some (.isub, 1, 0, 0, 0) := by decide +kernel
theorem s_75_236 {x0 x1 x2 : Option Value} {x w : Int32} : mw d 75 Q 236 [x0, x1, x2] (.int w :: .int x :: st) h = mw d 75 Q 237 [x0, x1, x2] (.int (x - w) :: st) h := (mw_at mj_75_236).trans (z_isub)
theorem mj_75_237 : mc_P 75 237 = some (.invokevirtual 321, 3, 130, 7, 3) := by decide +kernel
theorem s_75_237 {x0 x1 x2 : Option Value} {o : Nat} {a1 a2 : Value} : mw (d + 1) 75 Q 237 [x0, x1, x2] (a2 :: a1 :: .ref o :: st) h = (mg h o 7 ∧ mca st 8 ∧ mca [.ref o, a1, a2] 3 ∧ mcall d 130 [.ref o, a1, a2] h (mK (d + 1) 75 Q 240 [x0, x1, x2] st)) := (mw_at mj_75_237).trans ((z_invv (As := [a1, a2]) (by decide) rfl rfl).trans (congrArg (And _) (congrArg (And _) (mC_nl nl_130))))
theorem mj_75_240 : mc_P 75 240 = some (.pop, 1, 0, 0, 0) := by decide +kernel
theorem s_75_240 {x0 x1 x2 : Option Value} {w : Value} : mw d 75 Q 240 [x0, x1, x2] (w :: st) h = (w.category = 1 ∧ mw d 75 Q 241 [x0, x1, x2] (st) h) := (mw_at mj_75_240).trans (z_pop)
theorem mj_75_241 : mc_P 75 241 = some (.goto 25, 3, 0, 0, 0) := by decide +kernel
theorem s_75_241 {x0 x1 x2 : Option Value} : mw d 75 Q 241 [x0, x1, x2] (st) h = mw d 75 Q 266 [x0, x1, x2] (st) h := (mw_at mj_75_241).trans (z_goto (by decide))
theorem mj_75_244 : mc_P 75 244 = some (.aload_n 0, 1, 0, 0, 0) := by decide +kernel
theorem s_75_244 {x1 x2 : Option Value} {w : Value} : mw d 75 Q 244 [some w, x1, x2] (st) h = mv_a w (mw d 75 Q 245 [some w, x1, x2] (w :: st) h) := (mw_at mj_75_244).trans (z_aload_n rfl)
theorem mj_75_245 : mc_P 75 245 = some (.getfield 23, 3, 3, 1, 0) := by decide +kernel
theorem s_75_245 {x0 x1 x2 : Option Value} {o : Nat} : mw d 75 Q 245 [x0, x1, x2] (.ref o :: st) h = (mg h o 3 ∧ mw d 75 Q 248 [x0, x1, x2] (va_rf (mh_r h o 1) :: st) h) := (mw_at mj_75_245).trans (z_getr (by decide) (by decide) rfl)
theorem mj_75_248 : mc_P 75 248 = some (.bipush 33, 2, 0, 0, 0) := by decide +kernel
theorem s_75_248 {x0 x1 x2 : Option Value} : mw d 75 Q 248 [x0, x1, x2] (st) h = mw d 75 Q 250 [x0, x1, x2] (.int 33 :: st) h := (mw_at mj_75_248).trans (z_bipush (by decide))
theorem mj_75_250 : mc_P 75 250 = some (.iconst 0, 1, 0, 0, 0) := by decide +kernel
theorem s_75_250 {x0 x1 x2 : Option Value} : mw d 75 Q 250 [x0, x1, x2] (st) h = mw d 75 Q 251 [x0, x1, x2] (.int 0 :: st) h := (mw_at mj_75_250).trans (z_iconst (by decide))
theorem mj_75_251 : mc_P 75 251 = some (.invokevirtual 321, 3, 130, 7, 3) := by decide +kernel
theorem s_75_251 {x0 x1 x2 : Option Value} {o : Nat} {a1 a2 : Value} : mw (d + 1) 75 Q 251 [x0, x1, x2] (a2 :: a1 :: .ref o :: st) h = (mg h o 7 ∧ mca st 8 ∧ mca [.ref o, a1, a2] 3 ∧ mcall d 130 [.ref o, a1, a2] h (mK (d + 1) 75 Q 254 [x0, x1, x2] st)) := (mw_at mj_75_251).trans ((z_invv (As := [a1, a2]) (by decide) rfl rfl).trans (congrArg (And _) (congrArg (And _) (mC_nl nl_130))))
theorem mj_75_254 : mc_P 75 254 = some (.pop, 1, 0, 0, 0) := by decide +kernel
theorem s_75_254 {x0 x1 x2 : Option Value} {w : Value} : mw d 75 Q 254 [x0, x1, x2] (w :: st) h = (w.category = 1 ∧ mw d 75 Q 255 [x0, x1, x2] (st) h) := (mw_at mj_75_254).trans (z_pop)
theorem mj_75_255 : mc_P 75 255 = some (.goto 11, 3, 0, 0, 0) := by decide +kernel
theorem s_75_255 {x0 x1 x2 : Option Value} : mw d 75 Q 255 [x0, x1, x2] (st) h = mw d 75 Q 266 [x0, x1, x2] (st) h := (mw_at mj_75_255).trans (z_goto (by decide))
theorem mj_75_258 : mc_P 75 258 = some (.aload_n 0, 1, 0, 0, 0) := by decide +kernel
theorem s_75_258 {x1 x2 : Option Value} {w : Value} : mw d 75 Q 258 [some w, x1, x2] (st) h = mv_a w (mw d 75 Q 259 [some w, x1, x2] (w :: st) h) := (mw_at mj_75_258).trans (z_aload_n rfl)
theorem mj_75_259 : mc_P 75 259 = some (.getfield 23, 3, 3, 1, 0) := by decide +kernel
theorem s_75_259 {x0 x1 x2 : Option Value} {o : Nat} : mw d 75 Q 259 [x0, x1, x2] (.ref o :: st) h = (mg h o 3 ∧ mw d 75 Q 262 [x0, x1, x2] (va_rf (mh_r h o 1) :: st) h) := (mw_at mj_75_259).trans (z_getr (by decide) (by decide) rfl)
theorem mj_75_262 : mc_P 75 262 = some (.iload_n 2, 1, 0, 0, 0) := by decide +kernel
theorem s_75_262 {x0 x1 : Option Value} {w : Value} : mw d 75 Q 262 [x0, x1, some w] (st) h = mv_i w (mw d 75 Q 263 [x0, x1, some w] (w :: st) h) := (mw_at mj_75_262).trans (z_iload_n rfl)
theorem mj_75_263 : mc_P 75 263 = some (.invokevirtual 334, 3, 131, 7, 2) := by decide +kernel
theorem s_75_263 {x0 x1 x2 : Option Value} {o : Nat} {a1 : Value} : mw (d + 1) 75 Q 263 [x0, x1, x2] (a1 :: .ref o :: st) h = (mg h o 7 ∧ mca st 8 ∧ mca [.ref o, a1] 2 ∧ mcall d 131 [.ref o, a1] h (mK (d + 1) 75 Q 266 [x0, x1, x2] st)) := (mw_at mj_75_263).trans ((z_invv (As := [a1]) (by decide) rfl rfl).trans (congrArg (And _) (congrArg (And _) (mC_nl nl_131))))
theorem mj_75_266 : mc_P 75 266 = some (.return_, 1, 0, 0, 0) := by decide +kernel
theorem s_75_266 {x0 x1 x2 : Option Value} : mw d 75 Q 266 [x0, x1, x2] ([]) h = Q none h := (mw_at mj_75_266).trans (z_vret)
theorem e_75 {a0 : Nat} {a1 : Int32} {a2 : Int32} : mcall d 75 [.ref a0, .int a1, .int a2] h Q = mw d 75 Q 0 [some (.ref a0), some (.int a1), some (.int a2)] [] h := by
  show mw d 75 Q 0 (me_en (mc_nl 75) _) [] h = _
  rw [nl_75]; rfl

/-! InvariantDesk$Parser.readTest()V -/
theorem mj_76_0 : mc_P 76 0 = some (.aload_n 0, 1, 0, 0, 0) := by decide +kernel
theorem s_76_0 {w : Value} : mw d 76 Q 0 [some w] (st) h = mv_a w (mw d 76 Q 1 [some w] (w :: st) h) := (mw_at mj_76_0).trans (z_aload_n rfl)
theorem mj_76_1 : mc_P 76 1 = some (.invokevirtual 108, 3, 47, 3, 1) := by decide +kernel
theorem s_76_1 {x0 : Option Value} {o : Nat} : mw (d + 1) 76 Q 1 [x0] (.ref o :: st) h = (mg h o 3 ∧ mca st 8 ∧ mca [.ref o] 1 ∧ mcall d 47 [.ref o] h (mK (d + 1) 76 Q 4 [x0] st)) := (mw_at mj_76_1).trans ((z_invv (As := []) (by decide) rfl rfl).trans (congrArg (And _) (congrArg (And _) (mC_nl nl_47))))
theorem mj_76_4 : mc_P 76 4 = some (.bipush 33, 2, 0, 0, 0) := by decide +kernel
theorem s_76_4 {x0 : Option Value} : mw d 76 Q 4 [x0] (st) h = mw d 76 Q 6 [x0] (.int 33 :: st) h := (mw_at mj_76_4).trans (z_bipush (by decide))
theorem mj_76_6 : mc_P 76 6 = some (.if_icmp .ne 44, 3, 0, 0, 0) := by decide +kernel
theorem s_76_6 {x0 : Option Value} {x w : Int32} : mw d 76 Q 6 [x0] (.int w :: .int x :: st) h = mB (¬ x = w) (mw d 76 Q) 50 9 [x0] st h := (mw_at mj_76_6).trans (z_icmp_ne (by decide) rfl)
theorem mj_76_9 : mc_P 76 9 = some (.aload_n 0, 1, 0, 0, 0) := by decide +kernel
theorem s_76_9 {w : Value} : mw d 76 Q 9 [some w] (st) h = mv_a w (mw d 76 Q 10 [some w] (w :: st) h) := (mw_at mj_76_9).trans (z_aload_n rfl)
theorem mj_76_10 : mc_P 76 10 = some (.dup, 1, 0, 0, 0) := by decide +kernel
theorem s_76_10 {x0 : Option Value} {w : Value} : mw d 76 Q 10 [x0] (w :: st) h = (w.category = 1 ∧ mw d 76 Q 11 [x0] (w :: w :: st) h) := (mw_at mj_76_10).trans (z_dup)
theorem mj_76_11 : mc_P 76 11 = some (.getfield 95, 3, 3, 5, 0) := by decide +kernel
theorem s_76_11 {x0 : Option Value} {o : Nat} : mw d 76 Q 11 [x0] (.ref o :: st) h = (mg h o 3 ∧ mw d 76 Q 14 [x0] (.int (mh_i h o 5) :: st) h) := (mw_at mj_76_11).trans (z_geti (by decide) (by decide) (Or.inl rfl))
theorem mj_76_14 : mc_P 76 14 = some (.iconst 1, 1, 0, 0, 0) := by decide +kernel
theorem s_76_14 {x0 : Option Value} : mw d 76 Q 14 [x0] (st) h = mw d 76 Q 15 [x0] (.int 1 :: st) h := (mw_at mj_76_14).trans (z_iconst (by decide))
theorem mj_76_15 : mc_P 76 15 = some (.iadd, 1, 0, 0, 0) := by decide +kernel
theorem s_76_15 {x0 : Option Value} {x w : Int32} : mw d 76 Q 15 [x0] (.int w :: .int x :: st) h = mw d 76 Q 16 [x0] (.int (x + w) :: st) h := (mw_at mj_76_15).trans (z_iadd)
theorem mj_76_16 : mc_P 76 16 = some (.putfield 95, 3, 3, 5, 0) := by decide +kernel
theorem s_76_16 {x0 : Option Value} {o : Nat} {w : Int32} : mw d 76 Q 16 [x0] (.int w :: .ref o :: st) h = (mg h o 3 ∧ mw d 76 Q 19 [x0] (st) (mh_si h o 5 w)) := (mw_at mj_76_16).trans (z_puti (by decide) (by decide) rfl)
theorem mj_76_19 : mc_P 76 19 = some (.aload_n 0, 1, 0, 0, 0) := by decide +kernel
theorem s_76_19 {w : Value} : mw d 76 Q 19 [some w] (st) h = mv_a w (mw d 76 Q 20 [some w] (w :: st) h) := (mw_at mj_76_19).trans (z_aload_n rfl)
theorem mj_76_20 : mc_P 76 20 = some (.invokevirtual 152, 3, 52, 3, 1) := by decide +kernel
theorem s_76_20 {x0 : Option Value} {o : Nat} : mw (d + 1) 76 Q 20 [x0] (.ref o :: st) h = (mg h o 3 ∧ mca st 8 ∧ mca [.ref o] 1 ∧ mcall d 52 [.ref o] h (mK (d + 1) 76 Q 23 [x0] st)) := (mw_at mj_76_20).trans ((z_invv (As := []) (by decide) rfl rfl).trans (congrArg (And _) (congrArg (And _) (mC_nl nl_52))))
theorem mj_76_23 : mc_P 76 23 = some (.ifCond .eq 91, 3, 0, 0, 0) := by decide +kernel
theorem s_76_23 {x0 : Option Value} {x : Int32} : mw d 76 Q 23 [x0] (.int x :: st) h = mB (x = 0) (mw d 76 Q) 114 26 [x0] st h := (mw_at mj_76_23).trans (z_if_eq (by decide) rfl)
theorem mj_76_26 : mc_P 76 26 = some (.aload_n 0, 1, 0, 0, 0) := by decide +kernel
theorem s_76_26 {w : Value} : mw d 76 Q 26 [some w] (st) h = mv_a w (mw d 76 Q 27 [some w] (w :: st) h) := (mw_at mj_76_26).trans (z_aload_n rfl)
theorem mj_76_27 : mc_P 76 27 = some (.sipush 170, 3, 0, 0, 0) := by decide +kernel
theorem s_76_27 {x0 : Option Value} : mw d 76 Q 27 [x0] (st) h = mw d 76 Q 30 [x0] (.int 170 :: st) h := (mw_at mj_76_27).trans (z_sipush (by decide))
theorem mj_76_30 : mc_P 76 30 = some (.invokevirtual 51, 3, 45, 3, 2) := by decide +kernel
theorem s_76_30 {x0 : Option Value} {o : Nat} {a1 : Value} : mw (d + 1) 76 Q 30 [x0] (a1 :: .ref o :: st) h = (mg h o 3 ∧ mca st 8 ∧ mca [.ref o, a1] 2 ∧ mcall d 45 [.ref o, a1] h (mK (d + 1) 76 Q 33 [x0] st)) := (mw_at mj_76_30).trans ((z_invv (As := [a1]) (by decide) rfl rfl).trans (congrArg (And _) (congrArg (And _) (mC_nl nl_45))))
theorem mj_76_33 : mc_P 76 33 = some (.aload_n 0, 1, 0, 0, 0) := by decide +kernel
theorem s_76_33 {w : Value} : mw d 76 Q 33 [some w] (st) h = mv_a w (mw d 76 Q 34 [some w] (w :: st) h) := (mw_at mj_76_33).trans (z_aload_n rfl)
theorem mj_76_34 : mc_P 76 34 = some (.sipush 178, 3, 0, 0, 0) := by decide +kernel
theorem s_76_34 {x0 : Option Value} : mw d 76 Q 34 [x0] (st) h = mw d 76 Q 37 [x0] (.int 178 :: st) h := (mw_at mj_76_34).trans (z_sipush (by decide))
theorem mj_76_37 : mc_P 76 37 = some (.invokevirtual 51, 3, 45, 3, 2) := by decide +kernel
theorem s_76_37 {x0 : Option Value} {o : Nat} {a1 : Value} : mw (d + 1) 76 Q 37 [x0] (a1 :: .ref o :: st) h = (mg h o 3 ∧ mca st 8 ∧ mca [.ref o, a1] 2 ∧ mcall d 45 [.ref o, a1] h (mK (d + 1) 76 Q 40 [x0] st)) := (mw_at mj_76_37).trans ((z_invv (As := [a1]) (by decide) rfl rfl).trans (congrArg (And _) (congrArg (And _) (mC_nl nl_45))))
theorem mj_76_40 : mc_P 76 40 = some (.aload_n 0, 1, 0, 0, 0) := by decide +kernel
theorem s_76_40 {w : Value} : mw d 76 Q 40 [some w] (st) h = mv_a w (mw d 76 Q 41 [some w] (w :: st) h) := (mw_at mj_76_40).trans (z_aload_n rfl)
theorem mj_76_41 : mc_P 76 41 = some (.sipush 175, 3, 0, 0, 0) := by decide +kernel
theorem s_76_41 {x0 : Option Value} : mw d 76 Q 41 [x0] (st) h = mw d 76 Q 44 [x0] (.int 175 :: st) h := (mw_at mj_76_41).trans (z_sipush (by decide))
theorem mj_76_44 : mc_P 76 44 = some (.invokevirtual 51, 3, 45, 3, 2) := by decide +kernel
theorem s_76_44 {x0 : Option Value} {o : Nat} {a1 : Value} : mw (d + 1) 76 Q 44 [x0] (a1 :: .ref o :: st) h = (mg h o 3 ∧ mca st 8 ∧ mca [.ref o, a1] 2 ∧ mcall d 45 [.ref o, a1] h (mK (d + 1) 76 Q 47 [x0] st)) := (mw_at mj_76_44).trans ((z_invv (As := [a1]) (by decide) rfl rfl).trans (congrArg (And _) (congrArg (And _) (mC_nl nl_45))))
theorem mj_76_47 : mc_P 76 47 = some (.goto 67, 3, 0, 0, 0) := by decide +kernel
theorem s_76_47 {x0 : Option Value} : mw d 76 Q 47 [x0] (st) h = mw d 76 Q 114 [x0] (st) h := (mw_at mj_76_47).trans (z_goto (by decide))
theorem mj_76_50 : mc_P 76 50 = some (.aload_n 0, 1, 0, 0, 0) := by decide +kernel
theorem s_76_50 {w : Value} : mw d 76 Q 50 [some w] (st) h = mv_a w (mw d 76 Q 51 [some w] (w :: st) h) := (mw_at mj_76_50).trans (z_aload_n rfl)
theorem mj_76_51 : mc_P 76 51 = some (.invokevirtual 108, 3, 47, 3, 1) := by decide +kernel
theorem s_76_51 {x0 : Option Value} {o : Nat} : mw (d + 1) 76 Q 51 [x0] (.ref o :: st) h = (mg h o 3 ∧ mca st 8 ∧ mca [.ref o] 1 ∧ mcall d 47 [.ref o] h (mK (d + 1) 76 Q 54 [x0] st)) := (mw_at mj_76_51).trans ((z_invv (As := []) (by decide) rfl rfl).trans (congrArg (And _) (congrArg (And _) (mC_nl nl_47))))
theorem mj_76_54 : mc_P 76 54 = some (.bipush 91, 2, 0, 0, 0) := by decide +kernel
theorem s_76_54 {x0 : Option Value} : mw d 76 Q 54 [x0] (st) h = mw d 76 Q 56 [x0] (.int 91 :: st) h := (mw_at mj_76_54).trans (z_bipush (by decide))
theorem mj_76_56 : mc_P 76 56 = some (.if_icmp .ne 29, 3, 0, 0, 0) := by decide +kernel
theorem s_76_56 {x0 : Option Value} {x w : Int32} : mw d 76 Q 56 [x0] (.int w :: .int x :: st) h = mB (¬ x = w) (mw d 76 Q) 85 59 [x0] st h := (mw_at mj_76_56).trans (z_icmp_ne (by decide) rfl)
theorem mj_76_59 : mc_P 76 59 = some (.aload_n 0, 1, 0, 0, 0) := by decide +kernel
theorem s_76_59 {w : Value} : mw d 76 Q 59 [some w] (st) h = mv_a w (mw d 76 Q 60 [some w] (w :: st) h) := (mw_at mj_76_59).trans (z_aload_n rfl)
theorem mj_76_60 : mc_P 76 60 = some (.dup, 1, 0, 0, 0) := by decide +kernel
theorem s_76_60 {x0 : Option Value} {w : Value} : mw d 76 Q 60 [x0] (w :: st) h = (w.category = 1 ∧ mw d 76 Q 61 [x0] (w :: w :: st) h) := (mw_at mj_76_60).trans (z_dup)
theorem mj_76_61 : mc_P 76 61 = some (.getfield 95, 3, 3, 5, 0) := by decide +kernel
theorem s_76_61 {x0 : Option Value} {o : Nat} : mw d 76 Q 61 [x0] (.ref o :: st) h = (mg h o 3 ∧ mw d 76 Q 64 [x0] (.int (mh_i h o 5) :: st) h) := (mw_at mj_76_61).trans (z_geti (by decide) (by decide) (Or.inl rfl))
theorem mj_76_64 : mc_P 76 64 = some (.iconst 1, 1, 0, 0, 0) := by decide +kernel
theorem s_76_64 {x0 : Option Value} : mw d 76 Q 64 [x0] (st) h = mw d 76 Q 65 [x0] (.int 1 :: st) h := (mw_at mj_76_64).trans (z_iconst (by decide))
theorem mj_76_65 : mc_P 76 65 = some (.iadd, 1, 0, 0, 0) := by decide +kernel
theorem s_76_65 {x0 : Option Value} {x w : Int32} : mw d 76 Q 65 [x0] (.int w :: .int x :: st) h = mw d 76 Q 66 [x0] (.int (x + w) :: st) h := (mw_at mj_76_65).trans (z_iadd)
theorem mj_76_66 : mc_P 76 66 = some (.putfield 95, 3, 3, 5, 0) := by decide +kernel
theorem s_76_66 {x0 : Option Value} {o : Nat} {w : Int32} : mw d 76 Q 66 [x0] (.int w :: .ref o :: st) h = (mg h o 3 ∧ mw d 76 Q 69 [x0] (st) (mh_si h o 5 w)) := (mw_at mj_76_66).trans (z_puti (by decide) (by decide) rfl)
theorem mj_76_69 : mc_P 76 69 = some (.aload_n 0, 1, 0, 0, 0) := by decide +kernel
theorem s_76_69 {w : Value} : mw d 76 Q 69 [some w] (st) h = mv_a w (mw d 76 Q 70 [some w] (w :: st) h) := (mw_at mj_76_69).trans (z_aload_n rfl)
theorem mj_76_70 : mc_P 76 70 = some (.bipush 93, 2, 0, 0, 0) := by decide +kernel
theorem s_76_70 {x0 : Option Value} : mw d 76 Q 70 [x0] (st) h = mw d 76 Q 72 [x0] (.int 93 :: st) h := (mw_at mj_76_70).trans (z_bipush (by decide))
theorem mj_76_72 : mc_P 76 72 = some (.invokevirtual 51, 3, 45, 3, 2) := by decide +kernel
theorem s_76_72 {x0 : Option Value} {o : Nat} {a1 : Value} : mw (d + 1) 76 Q 72 [x0] (a1 :: .ref o :: st) h = (mg h o 3 ∧ mca st 8 ∧ mca [.ref o, a1] 2 ∧ mcall d 45 [.ref o, a1] h (mK (d + 1) 76 Q 75 [x0] st)) := (mw_at mj_76_72).trans ((z_invv (As := [a1]) (by decide) rfl rfl).trans (congrArg (And _) (congrArg (And _) (mC_nl nl_45))))
theorem mj_76_75 : mc_P 76 75 = some (.aload_n 0, 1, 0, 0, 0) := by decide +kernel
theorem s_76_75 {w : Value} : mw d 76 Q 75 [some w] (st) h = mv_a w (mw d 76 Q 76 [some w] (w :: st) h) := (mw_at mj_76_75).trans (z_aload_n rfl)
theorem mj_76_76 : mc_P 76 76 = some (.sipush 171, 3, 0, 0, 0) := by decide +kernel
theorem s_76_76 {x0 : Option Value} : mw d 76 Q 76 [x0] (st) h = mw d 76 Q 79 [x0] (.int 171 :: st) h := (mw_at mj_76_76).trans (z_sipush (by decide))
theorem mj_76_79 : mc_P 76 79 = some (.invokevirtual 51, 3, 45, 3, 2) := by decide +kernel
theorem s_76_79 {x0 : Option Value} {o : Nat} {a1 : Value} : mw (d + 1) 76 Q 79 [x0] (a1 :: .ref o :: st) h = (mg h o 3 ∧ mca st 8 ∧ mca [.ref o, a1] 2 ∧ mcall d 45 [.ref o, a1] h (mK (d + 1) 76 Q 82 [x0] st)) := (mw_at mj_76_79).trans ((z_invv (As := [a1]) (by decide) rfl rfl).trans (congrArg (And _) (congrArg (And _) (mC_nl nl_45))))
theorem mj_76_82 : mc_P 76 82 = some (.goto 32, 3, 0, 0, 0) := by decide +kernel
theorem s_76_82 {x0 : Option Value} : mw d 76 Q 82 [x0] (st) h = mw d 76 Q 114 [x0] (st) h := (mw_at mj_76_82).trans (z_goto (by decide))
theorem mj_76_85 : mc_P 76 85 = some (.aload_n 0, 1, 0, 0, 0) := by decide +kernel
theorem s_76_85 {w : Value} : mw d 76 Q 85 [some w] (st) h = mv_a w (mw d 76 Q 86 [some w] (w :: st) h) := (mw_at mj_76_85).trans (z_aload_n rfl)
theorem mj_76_86 : mc_P 76 86 = some (.sipush 177, 3, 0, 0, 0) := by decide +kernel
theorem s_76_86 {x0 : Option Value} : mw d 76 Q 86 [x0] (st) h = mw d 76 Q 89 [x0] (.int 177 :: st) h := (mw_at mj_76_86).trans (z_sipush (by decide))
theorem mj_76_89 : mc_P 76 89 = some (.invokevirtual 51, 3, 45, 3, 2) := by decide +kernel
theorem s_76_89 {x0 : Option Value} {o : Nat} {a1 : Value} : mw (d + 1) 76 Q 89 [x0] (a1 :: .ref o :: st) h = (mg h o 3 ∧ mca st 8 ∧ mca [.ref o, a1] 2 ∧ mcall d 45 [.ref o, a1] h (mK (d + 1) 76 Q 92 [x0] st)) := (mw_at mj_76_89).trans ((z_invv (As := [a1]) (by decide) rfl rfl).trans (congrArg (And _) (congrArg (And _) (mC_nl nl_45))))
theorem mj_76_92 : mc_P 76 92 = some (.aload_n 0, 1, 0, 0, 0) := by decide +kernel
theorem s_76_92 {w : Value} : mw d 76 Q 92 [some w] (st) h = mv_a w (mw d 76 Q 93 [some w] (w :: st) h) := (mw_at mj_76_92).trans (z_aload_n rfl)
theorem mj_76_93 : mc_P 76 93 = some (.sipush 161, 3, 0, 0, 0) := by decide +kernel
theorem s_76_93 {x0 : Option Value} : mw d 76 Q 93 [x0] (st) h = mw d 76 Q 96 [x0] (.int 161 :: st) h := (mw_at mj_76_93).trans (z_sipush (by decide))
theorem mj_76_96 : mc_P 76 96 = some (.iconst 1, 1, 0, 0, 0) := by decide +kernel
theorem s_76_96 {x0 : Option Value} : mw d 76 Q 96 [x0] (st) h = mw d 76 Q 97 [x0] (.int 1 :: st) h := (mw_at mj_76_96).trans (z_iconst (by decide))
theorem mj_76_97 : mc_P 76 97 = some (.invokevirtual 89, 3, 46, 3, 3) := by decide +kernel
theorem s_76_97 {x0 : Option Value} {o : Nat} {a1 a2 : Value} : mw (d + 1) 76 Q 97 [x0] (a2 :: a1 :: .ref o :: st) h = (mg h o 3 ∧ mca st 8 ∧ mca [.ref o, a1, a2] 3 ∧ mcall d 46 [.ref o, a1, a2] h (mK (d + 1) 76 Q 100 [x0] st)) := (mw_at mj_76_97).trans ((z_invv (As := [a1, a2]) (by decide) rfl rfl).trans (congrArg (And _) (congrArg (And _) (mC_nl nl_46))))
theorem mj_76_100 : mc_P 76 100 = some (.aload_n 0, 1, 0, 0, 0) := by decide +kernel
theorem s_76_100 {w : Value} : mw d 76 Q 100 [some w] (st) h = mv_a w (mw d 76 Q 101 [some w] (w :: st) h) := (mw_at mj_76_100).trans (z_aload_n rfl)
theorem mj_76_101 : mc_P 76 101 = some (.sipush 176, 3, 0, 0, 0) := by decide +kernel
theorem s_76_101 {x0 : Option Value} : mw d 76 Q 101 [x0] (st) h = mw d 76 Q 104 [x0] (.int 176 :: st) h := (mw_at mj_76_101).trans (z_sipush (by decide))
theorem mj_76_104 : mc_P 76 104 = some (.invokevirtual 51, 3, 45, 3, 2) := by decide +kernel
theorem s_76_104 {x0 : Option Value} {o : Nat} {a1 : Value} : mw (d + 1) 76 Q 104 [x0] (a1 :: .ref o :: st) h = (mg h o 3 ∧ mca st 8 ∧ mca [.ref o, a1] 2 ∧ mcall d 45 [.ref o, a1] h (mK (d + 1) 76 Q 107 [x0] st)) := (mw_at mj_76_104).trans ((z_invv (As := [a1]) (by decide) rfl rfl).trans (congrArg (And _) (congrArg (And _) (mC_nl nl_45))))
theorem mj_76_107 : mc_P 76 107 = some (.aload_n 0, 1, 0, 0, 0) := by decide +kernel
theorem s_76_107 {w : Value} : mw d 76 Q 107 [some w] (st) h = mv_a w (mw d 76 Q 108 [some w] (w :: st) h) := (mw_at mj_76_107).trans (z_aload_n rfl)
theorem mj_76_108 : mc_P 76 108 = some (.sipush 161, 3, 0, 0, 0) := by decide +kernel
theorem s_76_108 {x0 : Option Value} : mw d 76 Q 108 [x0] (st) h = mw d 76 Q 111 [x0] (.int 161 :: st) h := (mw_at mj_76_108).trans (z_sipush (by decide))
theorem mj_76_111 : mc_P 76 111 = some (.invokevirtual 51, 3, 45, 3, 2) := by decide +kernel
theorem s_76_111 {x0 : Option Value} {o : Nat} {a1 : Value} : mw (d + 1) 76 Q 111 [x0] (a1 :: .ref o :: st) h = (mg h o 3 ∧ mca st 8 ∧ mca [.ref o, a1] 2 ∧ mcall d 45 [.ref o, a1] h (mK (d + 1) 76 Q 114 [x0] st)) := (mw_at mj_76_111).trans ((z_invv (As := [a1]) (by decide) rfl rfl).trans (congrArg (And _) (congrArg (And _) (mC_nl nl_45))))
theorem mj_76_114 : mc_P 76 114 = some (.return_, 1, 0, 0, 0) := by decide +kernel
theorem s_76_114 {x0 : Option Value} : mw d 76 Q 114 [x0] ([]) h = Q none h := (mw_at mj_76_114).trans (z_vret)
theorem e_76 {a0 : Nat} : mcall d 76 [.ref a0] h Q = mw d 76 Q 0 [some (.ref a0)] [] h := by
  show mw d 76 Q 0 (me_en (mc_nl 76) _) [] h = _
  rw [nl_76]; rfl

/-! InvariantDesk$Parser.readRelation()V -/
theorem mj_77_0 : mc_P 77 0 = some (.aload_n 0, 1, 0, 0, 0) := by decide +kernel
theorem s_77_0 {x1 x2 : Option Value} {w : Value} : mw d 77 Q 0 [some w, x1, x2] (st) h = mv_a w (mw d 77 Q 1 [some w, x1, x2] (w :: st) h) := (mw_at mj_77_0).trans (z_aload_n rfl)
theorem mj_77_1 : mc_P 77 1 = some (.invokevirtual 108, 3, 47, 3, 1) := by decide +kernel
theorem s_77_1 {x0 x1 x2 : Option Value} {o : Nat} : mw (d + 1) 77 Q 1 [x0, x1, x2] (.ref o :: st) h = (mg h o 3 ∧ mca st 8 ∧ mca [.ref o] 1 ∧ mcall d 47 [.ref o] h (mK (d + 1) 77 Q 4 [x0, x1, x2] st)) := (mw_at mj_77_1).trans ((z_invv (As := []) (by decide) rfl rfl).trans (congrArg (And _) (congrArg (And _) (mC_nl nl_47))))
theorem mj_77_4 : mc_P 77 4 = some (.istore_n 1, 1, 0, 0, 0) := by decide +kernel
theorem s_77_4 {x0 x1 x2 : Option Value} {w : Int32} : mw d 77 Q 4 [x0, x1, x2] (.int w :: st) h = mw d 77 Q 5 [mk2 x0, some (.int w), x2] (st) h := (mw_at mj_77_4).trans (z_istore_n (Nat.le_of_ble_eq_true rfl) (me_s1_mk (j := 0) (w := x0) rfl))
theorem mj_77_5 : mc_P 77 5 = some (.iload_n 1, 1, 0, 0, 0) := by decide +kernel
theorem s_77_5 {x0 x2 : Option Value} {w : Value} : mw d 77 Q 5 [x0, some w, x2] (st) h = mv_i w (mw d 77 Q 6 [x0, some w, x2] (w :: st) h) := (mw_at mj_77_5).trans (z_iload_n rfl)
theorem mj_77_6 : mc_P 77 6 = some (.bipush 60, 2, 0, 0, 0) := by decide +kernel
theorem s_77_6 {x0 x1 x2 : Option Value} : mw d 77 Q 6 [x0, x1, x2] (st) h = mw d 77 Q 8 [x0, x1, x2] (.int 60 :: st) h := (mw_at mj_77_6).trans (z_bipush (by decide))
theorem mj_77_8 : mc_P 77 8 = some (.if_icmp .eq 16, 3, 0, 0, 0) := by decide +kernel
theorem s_77_8 {x0 x1 x2 : Option Value} {x w : Int32} : mw d 77 Q 8 [x0, x1, x2] (.int w :: .int x :: st) h = mB (x = w) (mw d 77 Q) 24 11 [x0, x1, x2] st h := (mw_at mj_77_8).trans (z_icmp_eq (by decide) rfl)
theorem mj_77_11 : mc_P 77 11 = some (.iload_n 1, 1, 0, 0, 0) := by decide +kernel
theorem s_77_11 {x0 x2 : Option Value} {w : Value} : mw d 77 Q 11 [x0, some w, x2] (st) h = mv_i w (mw d 77 Q 12 [x0, some w, x2] (w :: st) h) := (mw_at mj_77_11).trans (z_iload_n rfl)
theorem mj_77_12 : mc_P 77 12 = some (.bipush 62, 2, 0, 0, 0) := by decide +kernel
theorem s_77_12 {x0 x1 x2 : Option Value} : mw d 77 Q 12 [x0, x1, x2] (st) h = mw d 77 Q 14 [x0, x1, x2] (.int 62 :: st) h := (mw_at mj_77_12).trans (z_bipush (by decide))
theorem mj_77_14 : mc_P 77 14 = some (.if_icmp .eq 10, 3, 0, 0, 0) := by decide +kernel
theorem s_77_14 {x0 x1 x2 : Option Value} {x w : Int32} : mw d 77 Q 14 [x0, x1, x2] (.int w :: .int x :: st) h = mB (x = w) (mw d 77 Q) 24 17 [x0, x1, x2] st h := (mw_at mj_77_14).trans (z_icmp_eq (by decide) rfl)
theorem mj_77_17 : mc_P 77 17 = some (.iload_n 1, 1, 0, 0, 0) := by decide +kernel
theorem s_77_17 {x0 x2 : Option Value} {w : Value} : mw d 77 Q 17 [x0, some w, x2] (st) h = mv_i w (mw d 77 Q 18 [x0, some w, x2] (w :: st) h) := (mw_at mj_77_17).trans (z_iload_n rfl)
theorem mj_77_18 : mc_P 77 18 = some (.sipush 131, 3, 0, 0, 0) := by decide +kernel
theorem s_77_18 {x0 x1 x2 : Option Value} : mw d 77 Q 18 [x0, x1, x2] (st) h = mw d 77 Q 21 [x0, x1, x2] (.int 131 :: st) h := (mw_at mj_77_18).trans (z_sipush (by decide))
theorem mj_77_21 : mc_P 77 21 = some (.if_icmp .ne 7, 3, 0, 0, 0) := by decide +kernel
theorem s_77_21 {x0 x1 x2 : Option Value} {x w : Int32} : mw d 77 Q 21 [x0, x1, x2] (.int w :: .int x :: st) h = mB (¬ x = w) (mw d 77 Q) 28 24 [x0, x1, x2] st h := (mw_at mj_77_21).trans (z_icmp_ne (by decide) rfl)
theorem mj_77_24 : mc_P 77 24 = some (.iconst 1, 1, 0, 0, 0) := by decide +kernel
theorem s_77_24 {x0 x1 x2 : Option Value} : mw d 77 Q 24 [x0, x1, x2] (st) h = mw d 77 Q 25 [x0, x1, x2] (.int 1 :: st) h := (mw_at mj_77_24).trans (z_iconst (by decide))
theorem mj_77_25 : mc_P 77 25 = some (.goto 4, 3, 0, 0, 0) := by decide +kernel
theorem s_77_25 {x0 x1 x2 : Option Value} : mw d 77 Q 25 [x0, x1, x2] (st) h = mw d 77 Q 29 [x0, x1, x2] (st) h := (mw_at mj_77_25).trans (z_goto (by decide))
theorem mj_77_28 : mc_P 77 28 = some (.iconst 0, 1, 0, 0, 0) := by decide +kernel
theorem s_77_28 {x0 x1 x2 : Option Value} : mw d 77 Q 28 [x0, x1, x2] (st) h = mw d 77 Q 29 [x0, x1, x2] (.int 0 :: st) h := (mw_at mj_77_28).trans (z_iconst (by decide))
theorem mj_77_29 : mc_P 77 29 = some (.istore_n 2, 1, 0, 0, 0) := by decide +kernel
theorem s_77_29 {x0 x1 x2 : Option Value} {w : Int32} : mw d 77 Q 29 [x0, x1, x2] (.int w :: st) h = mw d 77 Q 30 [x0, mk2 x1, some (.int w)] (st) h := (mw_at mj_77_29).trans (z_istore_n (Nat.le_of_ble_eq_true rfl) (me_s1_mk (j := 1) (w := x1) rfl))
theorem mj_77_30 : mc_P 77 30 = some (.iload_n 2, 1, 0, 0, 0) := by decide +kernel
theorem s_77_30 {x0 x1 : Option Value} {w : Value} : mw d 77 Q 30 [x0, x1, some w] (st) h = mv_i w (mw d 77 Q 31 [x0, x1, some w] (w :: st) h) := (mw_at mj_77_30).trans (z_iload_n rfl)
theorem mj_77_31 : mc_P 77 31 = some (.ifCond .ne 24, 3, 0, 0, 0) := by decide +kernel
theorem s_77_31 {x0 x1 x2 : Option Value} {x : Int32} : mw d 77 Q 31 [x0, x1, x2] (.int x :: st) h = mB (¬ x = 0) (mw d 77 Q) 55 34 [x0, x1, x2] st h := (mw_at mj_77_31).trans (z_if_ne (by decide) rfl)
theorem mj_77_34 : mc_P 77 34 = some (.iload_n 1, 1, 0, 0, 0) := by decide +kernel
theorem s_77_34 {x0 x2 : Option Value} {w : Value} : mw d 77 Q 34 [x0, some w, x2] (st) h = mv_i w (mw d 77 Q 35 [x0, some w, x2] (w :: st) h) := (mw_at mj_77_34).trans (z_iload_n rfl)
theorem mj_77_35 : mc_P 77 35 = some (.sipush 128, 3, 0, 0, 0) := by decide +kernel
theorem s_77_35 {x0 x1 x2 : Option Value} : mw d 77 Q 35 [x0, x1, x2] (st) h = mw d 77 Q 38 [x0, x1, x2] (.int 128 :: st) h := (mw_at mj_77_35).trans (z_sipush (by decide))
theorem mj_77_38 : mc_P 77 38 = some (.if_icmp .eq 17, 3, 0, 0, 0) := by decide +kernel
theorem s_77_38 {x0 x1 x2 : Option Value} {x w : Int32} : mw d 77 Q 38 [x0, x1, x2] (.int w :: .int x :: st) h = mB (x = w) (mw d 77 Q) 55 41 [x0, x1, x2] st h := (mw_at mj_77_38).trans (z_icmp_eq (by decide) rfl)
theorem mj_77_41 : mc_P 77 41 = some (.iload_n 1, 1, 0, 0, 0) := by decide +kernel
theorem s_77_41 {x0 x2 : Option Value} {w : Value} : mw d 77 Q 41 [x0, some w, x2] (st) h = mv_i w (mw d 77 Q 42 [x0, some w, x2] (w :: st) h) := (mw_at mj_77_41).trans (z_iload_n rfl)
theorem mj_77_42 : mc_P 77 42 = some (.sipush 129, 3, 0, 0, 0) := by decide +kernel
theorem s_77_42 {x0 x1 x2 : Option Value} : mw d 77 Q 42 [x0, x1, x2] (st) h = mw d 77 Q 45 [x0, x1, x2] (.int 129 :: st) h := (mw_at mj_77_42).trans (z_sipush (by decide))
theorem mj_77_45 : mc_P 77 45 = some (.if_icmp .eq 10, 3, 0, 0, 0) := by decide +kernel
theorem s_77_45 {x0 x1 x2 : Option Value} {x w : Int32} : mw d 77 Q 45 [x0, x1, x2] (.int w :: .int x :: st) h = mB (x = w) (mw d 77 Q) 55 48 [x0, x1, x2] st h := (mw_at mj_77_45).trans (z_icmp_eq (by decide) rfl)
theorem mj_77_48 : mc_P 77 48 = some (.iload_n 1, 1, 0, 0, 0) := by decide +kernel
theorem s_77_48 {x0 x2 : Option Value} {w : Value} : mw d 77 Q 48 [x0, some w, x2] (st) h = mv_i w (mw d 77 Q 49 [x0, some w, x2] (w :: st) h) := (mw_at mj_77_48).trans (z_iload_n rfl)
theorem mj_77_49 : mc_P 77 49 = some (.sipush 130, 3, 0, 0, 0) := by decide +kernel
theorem s_77_49 {x0 x1 x2 : Option Value} : mw d 77 Q 49 [x0, x1, x2] (st) h = mw d 77 Q 52 [x0, x1, x2] (.int 130 :: st) h := (mw_at mj_77_49).trans (z_sipush (by decide))
theorem mj_77_52 : mc_P 77 52 = some (.if_icmp .ne 21, 3, 0, 0, 0) := by decide +kernel
theorem s_77_52 {x0 x1 x2 : Option Value} {x w : Int32} : mw d 77 Q 52 [x0, x1, x2] (.int w :: .int x :: st) h = mB (¬ x = w) (mw d 77 Q) 73 55 [x0, x1, x2] st h := (mw_at mj_77_52).trans (z_icmp_ne (by decide) rfl)
theorem mj_77_55 : mc_P 77 55 = some (.aload_n 0, 1, 0, 0, 0) := by decide +kernel
theorem s_77_55 {x1 x2 : Option Value} {w : Value} : mw d 77 Q 55 [some w, x1, x2] (st) h = mv_a w (mw d 77 Q 56 [some w, x1, x2] (w :: st) h) := (mw_at mj_77_55).trans (z_aload_n rfl)
theorem mj_77_56 : mc_P 77 56 = some (.iload_n 1, 1, 0, 0, 0) := by decide +kernel
theorem s_77_56 {x0 x2 : Option Value} {w : Value} : mw d 77 Q 56 [x0, some w, x2] (st) h = mv_i w (mw d 77 Q 57 [x0, some w, x2] (w :: st) h) := (mw_at mj_77_56).trans (z_iload_n rfl)
theorem mj_77_57 : mc_P 77 57 = some (.putfield 330, 3, 3, 11, 0) := by decide +kernel
theorem s_77_57 {x0 x1 x2 : Option Value} {o : Nat} {w : Int32} : mw d 77 Q 57 [x0, x1, x2] (.int w :: .ref o :: st) h = (mg h o 3 ∧ mw d 77 Q 60 [x0, x1, x2] (st) (mh_si h o 11 w)) := (mw_at mj_77_57).trans (z_puti (by decide) (by decide) rfl)
theorem mj_77_60 : mc_P 77 60 = some (.aload_n 0, 1, 0, 0, 0) := by decide +kernel
theorem s_77_60 {x1 x2 : Option Value} {w : Value} : mw d 77 Q 60 [some w, x1, x2] (st) h = mv_a w (mw d 77 Q 61 [some w, x1, x2] (w :: st) h) := (mw_at mj_77_60).trans (z_aload_n rfl)
theorem mj_77_61 : mc_P 77 61 = some (.dup, 1, 0, 0, 0) := by decide +kernel
theorem s_77_61 {x0 x1 x2 : Option Value} {w : Value} : mw d 77 Q 61 [x0, x1, x2] (w :: st) h = (w.category = 1 ∧ mw d 77 Q 62 [x0, x1, x2] (w :: w :: st) h) := (mw_at mj_77_61).trans (z_dup)
theorem mj_77_62 : mc_P 77 62 = some (.getfield 95, 3, 3, 5, 0) := by decide +kernel
theorem s_77_62 {x0 x1 x2 : Option Value} {o : Nat} : mw d 77 Q 62 [x0, x1, x2] (.ref o :: st) h = (mg h o 3 ∧ mw d 77 Q 65 [x0, x1, x2] (.int (mh_i h o 5) :: st) h) := (mw_at mj_77_62).trans (z_geti (by decide) (by decide) (Or.inl rfl))
theorem mj_77_65 : mc_P 77 65 = some (.iconst 1, 1, 0, 0, 0) := by decide +kernel
theorem s_77_65 {x0 x1 x2 : Option Value} : mw d 77 Q 65 [x0, x1, x2] (st) h = mw d 77 Q 66 [x0, x1, x2] (.int 1 :: st) h := (mw_at mj_77_65).trans (z_iconst (by decide))
theorem mj_77_66 : mc_P 77 66 = some (.iadd, 1, 0, 0, 0) := by decide +kernel
theorem s_77_66 {x0 x1 x2 : Option Value} {x w : Int32} : mw d 77 Q 66 [x0, x1, x2] (.int w :: .int x :: st) h = mw d 77 Q 67 [x0, x1, x2] (.int (x + w) :: st) h := (mw_at mj_77_66).trans (z_iadd)
theorem mj_77_67 : mc_P 77 67 = some (.putfield 95, 3, 3, 5, 0) := by decide +kernel
theorem s_77_67 {x0 x1 x2 : Option Value} {o : Nat} {w : Int32} : mw d 77 Q 67 [x0, x1, x2] (.int w :: .ref o :: st) h = (mg h o 3 ∧ mw d 77 Q 70 [x0, x1, x2] (st) (mh_si h o 5 w)) := (mw_at mj_77_67).trans (z_puti (by decide) (by decide) rfl)
theorem mj_77_70 : mc_P 77 70 = some (.goto 7, 3, 0, 0, 0) := by decide +kernel
theorem s_77_70 {x0 x1 x2 : Option Value} : mw d 77 Q 70 [x0, x1, x2] (st) h = mw d 77 Q 77 [x0, x1, x2] (st) h := (mw_at mj_77_70).trans (z_goto (by decide))
theorem mj_77_73 : mc_P 77 73 = some (.aload_n 0, 1, 0, 0, 0) := by decide +kernel
theorem s_77_73 {x1 x2 : Option Value} {w : Value} : mw d 77 Q 73 [some w, x1, x2] (st) h = mv_a w (mw d 77 Q 74 [some w, x1, x2] (w :: st) h) := (mw_at mj_77_73).trans (z_aload_n rfl)
theorem mj_77_74 : mc_P 77 74 = some (.invokevirtual 111, 3, 50, 3, 1) := by decide +kernel
theorem s_77_74 {x0 x1 x2 : Option Value} {o : Nat} : mw (d + 1) 77 Q 74 [x0, x1, x2] (.ref o :: st) h = (mg h o 3 ∧ mca st 8 ∧ mca [.ref o] 1 ∧ mcall d 50 [.ref o] h (mK (d + 1) 77 Q 77 [x0, x1, x2] st)) := (mw_at mj_77_74).trans ((z_invv (As := []) (by decide) rfl rfl).trans (congrArg (And _) (congrArg (And _) (mC_nl nl_50))))
theorem mj_77_77 : mc_P 77 77 = some (.return_, 1, 0, 0, 0) := by decide +kernel
theorem s_77_77 {x0 x1 x2 : Option Value} : mw d 77 Q 77 [x0, x1, x2] ([]) h = Q none h := (mw_at mj_77_77).trans (z_vret)
theorem e_77 {a0 : Nat} : mcall d 77 [.ref a0] h Q = mw d 77 Q 0 [some (.ref a0), none, none] [] h := by
  show mw d 77 Q 0 (me_en (mc_nl 77) _) [] h = _
  rw [nl_77]; rfl

/-! InvariantDesk$Scope.openBlock()V -/
theorem mj_117_0 : mc_P 117 0 = some (.aload_n 0, 1, 0, 0, 0) := by decide +kernel
theorem s_117_0 {w : Value} : mw d 117 Q 0 [some w] (st) h = mv_a w (mw d 117 Q 1 [some w] (w :: st) h) := (mw_at mj_117_0).trans (z_aload_n rfl)
theorem mj_117_1 : mc_P 117 1 = some (.getfield 9, 3, 6, 5, 0) := by decide +kernel
theorem s_117_1 {x0 : Option Value} {o : Nat} : mw d 117 Q 1 [x0] (.ref o :: st) h = (mg h o 6 ∧ mw d 117 Q 4 [x0] (va_rf (mh_r h o 5) :: st) h) := (mw_at mj_117_1).trans (z_getr (by decide) (by decide) rfl)
theorem mj_117_4 : mc_P 117 4 = some (.aload_n 0, 1, 0, 0, 0) := by decide +kernel
theorem s_117_4 {w : Value} : mw d 117 Q 4 [some w] (st) h = mv_a w (mw d 117 Q 5 [some w] (w :: st) h) := (mw_at mj_117_4).trans (z_aload_n rfl)
theorem mj_117_5 : mc_P 117 5 = some (.getfield 34, 3, 6, 6, 0) := by decide +kernel
theorem s_117_5 {x0 : Option Value} {o : Nat} : mw d 117 Q 5 [x0] (.ref o :: st) h = (mg h o 6 ∧ mw d 117 Q 8 [x0] (.int (mh_i h o 6) :: st) h) := (mw_at mj_117_5).trans (z_geti (by decide) (by decide) (Or.inl rfl))
theorem mj_117_8 : mc_P 117 8 = some (.aload_n 0, 1, 0, 0, 0) := by decide +kernel
theorem s_117_8 {w : Value} : mw d 117 Q 8 [some w] (st) h = mv_a w (mw d 117 Q 9 [some w] (w :: st) h) := (mw_at mj_117_8).trans (z_aload_n rfl)
theorem mj_117_9 : mc_P 117 9 = some (.getfield 38, 3, 6, 4, 0) := by decide +kernel
theorem s_117_9 {x0 : Option Value} {o : Nat} : mw d 117 Q 9 [x0] (.ref o :: st) h = (mg h o 6 ∧ mw d 117 Q 12 [x0] (.int (mh_i h o 4) :: st) h) := (mw_at mj_117_9).trans (z_geti (by decide) (by decide) (Or.inl rfl))
theorem mj_117_12 : mc_P 117 12 = some (.iastore, 1, 0, 0, 0) := by decide +kernel
theorem s_117_12 {x0 : Option Value} {o : Nat} {i w : Int32} : mw d 117 Q 12 [x0] (.int w :: .int i :: .ref o :: st) h = (mg h o 100 ∧ mx i (mh_l h o) ∧ mw d 117 Q 13 [x0] (st) (mh_si h o i.toNatClampNeg w)) := (mw_at mj_117_12).trans (z_iast)
theorem mj_117_13 : mc_P 117 13 = some (.aload_n 0, 1, 0, 0, 0) := by decide +kernel
theorem s_117_13 {w : Value} : mw d 117 Q 13 [some w] (st) h = mv_a w (mw d 117 Q 14 [some w] (w :: st) h) := (mw_at mj_117_13).trans (z_aload_n rfl)
theorem mj_117_14 : mc_P 117 14 = some (.dup, 1, 0, 0, 0) := by decide +kernel
theorem s_117_14 {x0 : Option Value} {w : Value} : mw d 117 Q 14 [x0] (w :: st) h = (w.category = 1 ∧ mw d 117 Q 15 [x0] (w :: w :: st) h) := (mw_at mj_117_14).trans (z_dup)
theorem mj_117_15 : mc_P 117 15 = some (.getfield 34, 3, 6, 6, 0) := by decide +kernel
theorem s_117_15 {x0 : Option Value} {o : Nat} : mw d 117 Q 15 [x0] (.ref o :: st) h = (mg h o 6 ∧ mw d 117 Q 18 [x0] (.int (mh_i h o 6) :: st) h) := (mw_at mj_117_15).trans (z_geti (by decide) (by decide) (Or.inl rfl))
theorem mj_117_18 : mc_P 117 18 = some (.iconst 1, 1, 0, 0, 0) := by decide +kernel
theorem s_117_18 {x0 : Option Value} : mw d 117 Q 18 [x0] (st) h = mw d 117 Q 19 [x0] (.int 1 :: st) h := (mw_at mj_117_18).trans (z_iconst (by decide))
theorem mj_117_19 : mc_P 117 19 = some (.iadd, 1, 0, 0, 0) := by decide +kernel
theorem s_117_19 {x0 : Option Value} {x w : Int32} : mw d 117 Q 19 [x0] (.int w :: .int x :: st) h = mw d 117 Q 20 [x0] (.int (x + w) :: st) h := (mw_at mj_117_19).trans (z_iadd)
theorem mj_117_20 : mc_P 117 20 = some (.putfield 34, 3, 6, 6, 0) := by decide +kernel
theorem s_117_20 {x0 : Option Value} {o : Nat} {w : Int32} : mw d 117 Q 20 [x0] (.int w :: .ref o :: st) h = (mg h o 6 ∧ mw d 117 Q 23 [x0] (st) (mh_si h o 6 w)) := (mw_at mj_117_20).trans (z_puti (by decide) (by decide) rfl)
theorem mj_117_23 : mc_P 117 23 = some (.return_, 1, 0, 0, 0) := by decide +kernel
theorem s_117_23 {x0 : Option Value} : mw d 117 Q 23 [x0] ([]) h = Q none h := (mw_at mj_117_23).trans (z_vret)
theorem e_117 {a0 : Nat} : mcall d 117 [.ref a0] h Q = mw d 117 Q 0 [some (.ref a0)] [] h := by
  show mw d 117 Q 0 (me_en (mc_nl 117) _) [] h = _
  rw [nl_117]; rfl

/-! InvariantDesk$Scope.shutBlock()V -/
theorem mj_118_0 : mc_P 118 0 = some (.aload_n 0, 1, 0, 0, 0) := by decide +kernel
theorem s_118_0 {x1 : Option Value} {w : Value} : mw d 118 Q 0 [some w, x1] (st) h = mv_a w (mw d 118 Q 1 [some w, x1] (w :: st) h) := (mw_at mj_118_0).trans (z_aload_n rfl)
theorem mj_118_1 : mc_P 118 1 = some (.dup, 1, 0, 0, 0) := by decide +kernel
theorem s_118_1 {x0 x1 : Option Value} {w : Value} : mw d 118 Q 1 [x0, x1] (w :: st) h = (w.category = 1 ∧ mw d 118 Q 2 [x0, x1] (w :: w :: st) h) := (mw_at mj_118_1).trans (z_dup)
theorem mj_118_2 : mc_P 118 2 = some (.getfield 34, 3, 6, 6, 0) := by decide +kernel
theorem s_118_2 {x0 x1 : Option Value} {o : Nat} : mw d 118 Q 2 [x0, x1] (.ref o :: st) h = (mg h o 6 ∧ mw d 118 Q 5 [x0, x1] (.int (mh_i h o 6) :: st) h) := (mw_at mj_118_2).trans (z_geti (by decide) (by decide) (Or.inl rfl))
theorem mj_118_5 : mc_P 118 5 = some (.iconst 1, 1, 0, 0, 0) := by decide +kernel
theorem s_118_5 {x0 x1 : Option Value} : mw d 118 Q 5 [x0, x1] (st) h = mw d 118 Q 6 [x0, x1] (.int 1 :: st) h := (mw_at mj_118_5).trans (z_iconst (by decide))
theorem mj_118_6 : mc_P 118 6 = some (.isub, 1, 0, 0, 0) := by decide +kernel
theorem s_118_6 {x0 x1 : Option Value} {x w : Int32} : mw d 118 Q 6 [x0, x1] (.int w :: .int x :: st) h = mw d 118 Q 7 [x0, x1] (.int (x - w) :: st) h := (mw_at mj_118_6).trans (z_isub)
theorem mj_118_7 : mc_P 118 7 = some (.putfield 34, 3, 6, 6, 0) := by decide +kernel
theorem s_118_7 {x0 x1 : Option Value} {o : Nat} {w : Int32} : mw d 118 Q 7 [x0, x1] (.int w :: .ref o :: st) h = (mg h o 6 ∧ mw d 118 Q 10 [x0, x1] (st) (mh_si h o 6 w)) := (mw_at mj_118_7).trans (z_puti (by decide) (by decide) rfl)
theorem mj_118_10 : mc_P 118 10 = some (.aload_n 0, 1, 0, 0, 0) := by decide +kernel
theorem s_118_10 {x1 : Option Value} {w : Value} : mw d 118 Q 10 [some w, x1] (st) h = mv_a w (mw d 118 Q 11 [some w, x1] (w :: st) h) := (mw_at mj_118_10).trans (z_aload_n rfl)
theorem mj_118_11 : mc_P 118 11 = some (.getfield 9, 3, 6, 5, 0) := by decide +kernel
theorem s_118_11 {x0 x1 : Option Value} {o : Nat} : mw d 118 Q 11 [x0, x1] (.ref o :: st) h = (mg h o 6 ∧ mw d 118 Q 14 [x0, x1] (va_rf (mh_r h o 5) :: st) h) := (mw_at mj_118_11).trans (z_getr (by decide) (by decide) rfl)
theorem mj_118_14 : mc_P 118 14 = some (.aload_n 0, 1, 0, 0, 0) := by decide +kernel
theorem s_118_14 {x1 : Option Value} {w : Value} : mw d 118 Q 14 [some w, x1] (st) h = mv_a w (mw d 118 Q 15 [some w, x1] (w :: st) h) := (mw_at mj_118_14).trans (z_aload_n rfl)
theorem mj_118_15 : mc_P 118 15 = some (.getfield 34, 3, 6, 6, 0) := by decide +kernel
theorem s_118_15 {x0 x1 : Option Value} {o : Nat} : mw d 118 Q 15 [x0, x1] (.ref o :: st) h = (mg h o 6 ∧ mw d 118 Q 18 [x0, x1] (.int (mh_i h o 6) :: st) h) := (mw_at mj_118_15).trans (z_geti (by decide) (by decide) (Or.inl rfl))
theorem mj_118_18 : mc_P 118 18 = some (.iaload, 1, 0, 0, 0) := by decide +kernel
theorem s_118_18 {x0 x1 : Option Value} {o : Nat} {i : Int32} : mw d 118 Q 18 [x0, x1] (.int i :: .ref o :: st) h = (mg h o 100 ∧ mx i (mh_l h o) ∧ mw d 118 Q 19 [x0, x1] (.int (mh_i h o i.toNatClampNeg) :: st) h) := (mw_at mj_118_18).trans (z_iald)
theorem mj_118_19 : mc_P 118 19 = some (.istore_n 1, 1, 0, 0, 0) := by decide +kernel
theorem s_118_19 {x0 x1 : Option Value} {w : Int32} : mw d 118 Q 19 [x0, x1] (.int w :: st) h = mw d 118 Q 20 [mk2 x0, some (.int w)] (st) h := (mw_at mj_118_19).trans (z_istore_n (Nat.le_of_ble_eq_true rfl) (me_s1_mk (j := 0) (w := x0) rfl))
theorem mj_118_20 : mc_P 118 20 = some (.iload_n 1, 1, 0, 0, 0) := by decide +kernel
theorem s_118_20 {x0 : Option Value} {w : Value} : mw d 118 Q 20 [x0, some w] (st) h = mv_i w (mw d 118 Q 21 [x0, some w] (w :: st) h) := (mw_at mj_118_20).trans (z_iload_n rfl)
theorem mj_118_21 : mc_P 118 21 = some (.aload_n 0, 1, 0, 0, 0) := by decide +kernel
theorem s_118_21 {x1 : Option Value} {w : Value} : mw d 118 Q 21 [some w, x1] (st) h = mv_a w (mw d 118 Q 22 [some w, x1] (w :: st) h) := (mw_at mj_118_21).trans (z_aload_n rfl)
theorem mj_118_22 : mc_P 118 22 = some (.getfield 38, 3, 6, 4, 0) := by decide +kernel
theorem s_118_22 {x0 x1 : Option Value} {o : Nat} : mw d 118 Q 22 [x0, x1] (.ref o :: st) h = (mg h o 6 ∧ mw d 118 Q 25 [x0, x1] (.int (mh_i h o 4) :: st) h) := (mw_at mj_118_22).trans (z_geti (by decide) (by decide) (Or.inl rfl))
theorem mj_118_25 : mc_P 118 25 = some (.if_icmp .ge 41, 3, 0, 0, 0) := by decide +kernel
theorem s_118_25 {x0 x1 : Option Value} {x w : Int32} : mw d 118 Q 25 [x0, x1] (.int w :: .int x :: st) h = mB (w ≤ x) (mw d 118 Q) 66 28 [x0, x1] st h := (mw_at mj_118_25).trans (z_icmp_ge (by decide) rfl)
theorem mj_118_28 : mc_P 118 28 = some (.aload_n 0, 1, 0, 0, 0) := by decide +kernel
theorem s_118_28 {x1 : Option Value} {w : Value} : mw d 118 Q 28 [some w, x1] (st) h = mv_a w (mw d 118 Q 29 [some w, x1] (w :: st) h) := (mw_at mj_118_28).trans (z_aload_n rfl)
theorem mj_118_29 : mc_P 118 29 = some (.getfield 31, 3, 6, 3, 0) := by decide +kernel
theorem s_118_29 {x0 x1 : Option Value} {o : Nat} : mw d 118 Q 29 [x0, x1] (.ref o :: st) h = (mg h o 6 ∧ mw d 118 Q 32 [x0, x1] (va_rf (mh_r h o 3) :: st) h) := (mw_at mj_118_29).trans (z_getr (by decide) (by decide) rfl)
theorem mj_118_32 : mc_P 118 32 = some (.iload_n 1, 1, 0, 0, 0) := by decide +kernel
theorem s_118_32 {x0 : Option Value} {w : Value} : mw d 118 Q 32 [x0, some w] (st) h = mv_i w (mw d 118 Q 33 [x0, some w] (w :: st) h) := (mw_at mj_118_32).trans (z_iload_n rfl)
theorem mj_118_33 : mc_P 118 33 = some (.iaload, 1, 0, 0, 0) := by decide +kernel
theorem s_118_33 {x0 x1 : Option Value} {o : Nat} {i : Int32} : mw d 118 Q 33 [x0, x1] (.int i :: .ref o :: st) h = (mg h o 100 ∧ mx i (mh_l h o) ∧ mw d 118 Q 34 [x0, x1] (.int (mh_i h o i.toNatClampNeg) :: st) h) := (mw_at mj_118_33).trans (z_iald)
theorem mj_118_34 : mc_P 118 34 = some (.ifCond .ne 16, 3, 0, 0, 0) := by decide +kernel
theorem s_118_34 {x0 x1 : Option Value} {x : Int32} : mw d 118 Q 34 [x0, x1] (.int x :: st) h = mB (¬ x = 0) (mw d 118 Q) 50 37 [x0, x1] st h := (mw_at mj_118_34).trans (z_if_ne (by decide) rfl)
theorem mj_118_37 : mc_P 118 37 = some (.aload_n 0, 1, 0, 0, 0) := by decide +kernel
theorem s_118_37 {x1 : Option Value} {w : Value} : mw d 118 Q 37 [some w, x1] (st) h = mv_a w (mw d 118 Q 38 [some w, x1] (w :: st) h) := (mw_at mj_118_37).trans (z_aload_n rfl)
theorem mj_118_38 : mc_P 118 38 = some (.dup, 1, 0, 0, 0) := by decide +kernel
theorem s_118_38 {x0 x1 : Option Value} {w : Value} : mw d 118 Q 38 [x0, x1] (w :: st) h = (w.category = 1 ∧ mw d 118 Q 39 [x0, x1] (w :: w :: st) h) := (mw_at mj_118_38).trans (z_dup)
theorem mj_118_39 : mc_P 118 39 = some (.getfield 41, 3, 6, 7, 0) := by decide +kernel
theorem s_118_39 {x0 x1 : Option Value} {o : Nat} : mw d 118 Q 39 [x0, x1] (.ref o :: st) h = (mg h o 6 ∧ mw d 118 Q 42 [x0, x1] (.int (mh_i h o 7) :: st) h) := (mw_at mj_118_39).trans (z_geti (by decide) (by decide) (Or.inl rfl))
theorem mj_118_42 : mc_P 118 42 = some (.iconst 1, 1, 0, 0, 0) := by decide +kernel
theorem s_118_42 {x0 x1 : Option Value} : mw d 118 Q 42 [x0, x1] (st) h = mw d 118 Q 43 [x0, x1] (.int 1 :: st) h := (mw_at mj_118_42).trans (z_iconst (by decide))
theorem mj_118_43 : mc_P 118 43 = some (.isub, 1, 0, 0, 0) := by decide +kernel
theorem s_118_43 {x0 x1 : Option Value} {x w : Int32} : mw d 118 Q 43 [x0, x1] (.int w :: .int x :: st) h = mw d 118 Q 44 [x0, x1] (.int (x - w) :: st) h := (mw_at mj_118_43).trans (z_isub)
theorem mj_118_44 : mc_P 118 44 = some (.putfield 41, 3, 6, 7, 0) := by decide +kernel
theorem s_118_44 {x0 x1 : Option Value} {o : Nat} {w : Int32} : mw d 118 Q 44 [x0, x1] (.int w :: .ref o :: st) h = (mg h o 6 ∧ mw d 118 Q 47 [x0, x1] (st) (mh_si h o 7 w)) := (mw_at mj_118_44).trans (z_puti (by decide) (by decide) rfl)
theorem mj_118_47 : mc_P 118 47 = some (.goto 13, 3, 0, 0, 0) := by decide +kernel
theorem s_118_47 {x0 x1 : Option Value} : mw d 118 Q 47 [x0, x1] (st) h = mw d 118 Q 60 [x0, x1] (st) h := (mw_at mj_118_47).trans (z_goto (by decide))
theorem mj_118_50 : mc_P 118 50 = some (.aload_n 0, 1, 0, 0, 0) := by decide +kernel
theorem s_118_50 {x1 : Option Value} {w : Value} : mw d 118 Q 50 [some w, x1] (st) h = mv_a w (mw d 118 Q 51 [some w, x1] (w :: st) h) := (mw_at mj_118_50).trans (z_aload_n rfl)
theorem mj_118_51 : mc_P 118 51 = some (.dup, 1, 0, 0, 0) := by decide +kernel
theorem s_118_51 {x0 x1 : Option Value} {w : Value} : mw d 118 Q 51 [x0, x1] (w :: st) h = (w.category = 1 ∧ mw d 118 Q 52 [x0, x1] (w :: w :: st) h) := (mw_at mj_118_51).trans (z_dup)
theorem mj_118_52 : mc_P 118 52 = some (.getfield 44, 3, 6, 8, 0) := by decide +kernel
theorem s_118_52 {x0 x1 : Option Value} {o : Nat} : mw d 118 Q 52 [x0, x1] (.ref o :: st) h = (mg h o 6 ∧ mw d 118 Q 55 [x0, x1] (.int (mh_i h o 8) :: st) h) := (mw_at mj_118_52).trans (z_geti (by decide) (by decide) (Or.inl rfl))
theorem mj_118_55 : mc_P 118 55 = some (.iconst 1, 1, 0, 0, 0) := by decide +kernel
theorem s_118_55 {x0 x1 : Option Value} : mw d 118 Q 55 [x0, x1] (st) h = mw d 118 Q 56 [x0, x1] (.int 1 :: st) h := (mw_at mj_118_55).trans (z_iconst (by decide))
theorem mj_118_56 : mc_P 118 56 = some (.isub, 1, 0, 0, 0) := by decide +kernel
theorem s_118_56 {x0 x1 : Option Value} {x w : Int32} : mw d 118 Q 56 [x0, x1] (.int w :: .int x :: st) h = mw d 118 Q 57 [x0, x1] (.int (x - w) :: st) h := (mw_at mj_118_56).trans (z_isub)
theorem mj_118_57 : mc_P 118 57 = some (.putfield 44, 3, 6, 8, 0) := by decide +kernel
theorem s_118_57 {x0 x1 : Option Value} {o : Nat} {w : Int32} : mw d 118 Q 57 [x0, x1] (.int w :: .ref o :: st) h = (mg h o 6 ∧ mw d 118 Q 60 [x0, x1] (st) (mh_si h o 8 w)) := (mw_at mj_118_57).trans (z_puti (by decide) (by decide) rfl)
theorem mj_118_60 : mc_P 118 60 = some (.iinc 1 1, 3, 0, 0, 0) := by decide +kernel
theorem s_118_60 {x0 : Option Value} {w : Int32} : mw d 118 Q 60 [x0, some (.int w)] (st) h = mw d 118 Q 63 [mk2 x0, some (.int (w + 1))] (st) h := (mw_at mj_118_60).trans (z_iinc rfl (Nat.le_of_ble_eq_true rfl) (by decide) (me_s1_mk (j := 0) (w := x0) rfl))
theorem mj_118_63 : mc_P 118 63 = some (.goto (-43), 3, 0, 0, 0) := by decide +kernel
theorem s_118_63 {x0 x1 : Option Value} : mw d 118 Q 63 [x0, x1] (st) h = mw d 118 Q 20 [x0, x1] (st) h := (mw_at mj_118_63).trans (z_goto (by decide))
theorem mj_118_66 : mc_P 118 66 = some (.aload_n 0, 1, 0, 0, 0) := by decide +kernel
theorem s_118_66 {x1 : Option Value} {w : Value} : mw d 118 Q 66 [some w, x1] (st) h = mv_a w (mw d 118 Q 67 [some w, x1] (w :: st) h) := (mw_at mj_118_66).trans (z_aload_n rfl)
theorem mj_118_67 : mc_P 118 67 = some (.aload_n 0, 1, 0, 0, 0) := by decide +kernel
theorem s_118_67 {x1 : Option Value} {w : Value} : mw d 118 Q 67 [some w, x1] (st) h = mv_a w (mw d 118 Q 68 [some w, x1] (w :: st) h) := (mw_at mj_118_67).trans (z_aload_n rfl)
theorem mj_118_68 : mc_P 118 68 = some (.getfield 9, 3, 6, 5, 0) := by decide +kernel
theorem s_118_68 {x0 x1 : Option Value} {o : Nat} : mw d 118 Q 68 [x0, x1] (.ref o :: st) h = (mg h o 6 ∧ mw d 118 Q 71 [x0, x1] (va_rf (mh_r h o 5) :: st) h) := (mw_at mj_118_68).trans (z_getr (by decide) (by decide) rfl)
theorem mj_118_71 : mc_P 118 71 = some (.aload_n 0, 1, 0, 0, 0) := by decide +kernel
theorem s_118_71 {x1 : Option Value} {w : Value} : mw d 118 Q 71 [some w, x1] (st) h = mv_a w (mw d 118 Q 72 [some w, x1] (w :: st) h) := (mw_at mj_118_71).trans (z_aload_n rfl)
theorem mj_118_72 : mc_P 118 72 = some (.getfield 34, 3, 6, 6, 0) := by decide +kernel
theorem s_118_72 {x0 x1 : Option Value} {o : Nat} : mw d 118 Q 72 [x0, x1] (.ref o :: st) h = (mg h o 6 ∧ mw d 118 Q 75 [x0, x1] (.int (mh_i h o 6) :: st) h) := (mw_at mj_118_72).trans (z_geti (by decide) (by decide) (Or.inl rfl))
theorem mj_118_75 : mc_P 118 75 = some (.iaload, 1, 0, 0, 0) := by decide +kernel
theorem s_118_75 {x0 x1 : Option Value} {o : Nat} {i : Int32} : mw d 118 Q 75 [x0, x1] (.int i :: .ref o :: st) h = (mg h o 100 ∧ mx i (mh_l h o) ∧ mw d 118 Q 76 [x0, x1] (.int (mh_i h o i.toNatClampNeg) :: st) h) := (mw_at mj_118_75).trans (z_iald)
theorem mj_118_76 : mc_P 118 76 = some (.putfield 38, 3, 6, 4, 0) := by decide +kernel
theorem s_118_76 {x0 x1 : Option Value} {o : Nat} {w : Int32} : mw d 118 Q 76 [x0, x1] (.int w :: .ref o :: st) h = (mg h o 6 ∧ mw d 118 Q 79 [x0, x1] (st) (mh_si h o 4 w)) := (mw_at mj_118_76).trans (z_puti (by decide) (by decide) rfl)
theorem mj_118_79 : mc_P 118 79 = some (.return_, 1, 0, 0, 0) := by decide +kernel
theorem s_118_79 {x0 x1 : Option Value} : mw d 118 Q 79 [x0, x1] ([]) h = Q none h := (mw_at mj_118_79).trans (z_vret)
theorem e_118 {a0 : Nat} : mcall d 118 [.ref a0] h Q = mw d 118 Q 0 [some (.ref a0), none] [] h := by
  show mw d 118 Q 0 (me_en (mc_nl 118) _) [] h = _
  rw [nl_118]; rfl

/-! InvariantDesk$Scope.find(I)I -/
theorem mj_119_0 : mc_P 119 0 = some (.aload_n 0, 1, 0, 0, 0) := by decide +kernel
theorem s_119_0 {x1 x2 : Option Value} {w : Value} : mw d 119 Q 0 [some w, x1, x2] (st) h = mv_a w (mw d 119 Q 1 [some w, x1, x2] (w :: st) h) := (mw_at mj_119_0).trans (z_aload_n rfl)
theorem mj_119_1 : mc_P 119 1 = some (.getfield 38, 3, 6, 4, 0) := by decide +kernel
theorem s_119_1 {x0 x1 x2 : Option Value} {o : Nat} : mw d 119 Q 1 [x0, x1, x2] (.ref o :: st) h = (mg h o 6 ∧ mw d 119 Q 4 [x0, x1, x2] (.int (mh_i h o 4) :: st) h) := (mw_at mj_119_1).trans (z_geti (by decide) (by decide) (Or.inl rfl))
theorem mj_119_4 : mc_P 119 4 = some (.iconst 1, 1, 0, 0, 0) := by decide +kernel
theorem s_119_4 {x0 x1 x2 : Option Value} : mw d 119 Q 4 [x0, x1, x2] (st) h = mw d 119 Q 5 [x0, x1, x2] (.int 1 :: st) h := (mw_at mj_119_4).trans (z_iconst (by decide))
theorem mj_119_5 : mc_P 119 5 = some (.isub, 1, 0, 0, 0) := by decide +kernel
theorem s_119_5 {x0 x1 x2 : Option Value} {x w : Int32} : mw d 119 Q 5 [x0, x1, x2] (.int w :: .int x :: st) h = mw d 119 Q 6 [x0, x1, x2] (.int (x - w) :: st) h := (mw_at mj_119_5).trans (z_isub)
theorem mj_119_6 : mc_P 119 6 = some (.istore_n 2, 1, 0, 0, 0) := by decide +kernel
theorem s_119_6 {x0 x1 x2 : Option Value} {w : Int32} : mw d 119 Q 6 [x0, x1, x2] (.int w :: st) h = mw d 119 Q 7 [x0, mk2 x1, some (.int w)] (st) h := (mw_at mj_119_6).trans (z_istore_n (Nat.le_of_ble_eq_true rfl) (me_s1_mk (j := 1) (w := x1) rfl))
theorem mj_119_7 : mc_P 119 7 = some (.iload_n 2, 1, 0, 0, 0) := by decide +kernel
theorem s_119_7 {x0 x1 : Option Value} {w : Value} : mw d 119 Q 7 [x0, x1, some w] (st) h = mv_i w (mw d 119 Q 8 [x0, x1, some w] (w :: st) h) := (mw_at mj_119_7).trans (z_iload_n rfl)
theorem mj_119_8 : mc_P 119 8 = some (.ifCond .lt 28, 3, 0, 0, 0) := by decide +kernel
theorem s_119_8 {x0 x1 x2 : Option Value} {x : Int32} : mw d 119 Q 8 [x0, x1, x2] (.int x :: st) h = mB (x < 0) (mw d 119 Q) 36 11 [x0, x1, x2] st h := (mw_at mj_119_8).trans (z_if_lt (by decide) rfl)
theorem mj_119_11 : mc_P 119 11 = some (.aload_n 0, 1, 0, 0, 0) := by decide +kernel
theorem s_119_11 {x1 x2 : Option Value} {w : Value} : mw d 119 Q 11 [some w, x1, x2] (st) h = mv_a w (mw d 119 Q 12 [some w, x1, x2] (w :: st) h) := (mw_at mj_119_11).trans (z_aload_n rfl)
theorem mj_119_12 : mc_P 119 12 = some (.getfield 15, 3, 6, 0, 0) := by decide +kernel
theorem s_119_12 {x0 x1 x2 : Option Value} {o : Nat} : mw d 119 Q 12 [x0, x1, x2] (.ref o :: st) h = (mg h o 6 ∧ mw d 119 Q 15 [x0, x1, x2] (va_rf (mh_r h o 0) :: st) h) := (mw_at mj_119_12).trans (z_getr (by decide) (by decide) rfl)
theorem mj_119_15 : mc_P 119 15 = some (.aload_n 0, 1, 0, 0, 0) := by decide +kernel
theorem s_119_15 {x1 x2 : Option Value} {w : Value} : mw d 119 Q 15 [some w, x1, x2] (st) h = mv_a w (mw d 119 Q 16 [some w, x1, x2] (w :: st) h) := (mw_at mj_119_15).trans (z_aload_n rfl)
theorem mj_119_16 : mc_P 119 16 = some (.getfield 25, 3, 6, 1, 0) := by decide +kernel
theorem s_119_16 {x0 x1 x2 : Option Value} {o : Nat} : mw d 119 Q 16 [x0, x1, x2] (.ref o :: st) h = (mg h o 6 ∧ mw d 119 Q 19 [x0, x1, x2] (va_rf (mh_r h o 1) :: st) h) := (mw_at mj_119_16).trans (z_getr (by decide) (by decide) rfl)
theorem mj_119_19 : mc_P 119 19 = some (.iload_n 2, 1, 0, 0, 0) := by decide +kernel
theorem s_119_19 {x0 x1 : Option Value} {w : Value} : mw d 119 Q 19 [x0, x1, some w] (st) h = mv_i w (mw d 119 Q 20 [x0, x1, some w] (w :: st) h) := (mw_at mj_119_19).trans (z_iload_n rfl)
theorem mj_119_20 : mc_P 119 20 = some (.iaload, 1, 0, 0, 0) := by decide +kernel
theorem s_119_20 {x0 x1 x2 : Option Value} {o : Nat} {i : Int32} : mw d 119 Q 20 [x0, x1, x2] (.int i :: .ref o :: st) h = (mg h o 100 ∧ mx i (mh_l h o) ∧ mw d 119 Q 21 [x0, x1, x2] (.int (mh_i h o i.toNatClampNeg) :: st) h) := (mw_at mj_119_20).trans (z_iald)
theorem mj_119_21 : mc_P 119 21 = some (.iload_n 1, 1, 0, 0, 0) := by decide +kernel
theorem s_119_21 {x0 x2 : Option Value} {w : Value} : mw d 119 Q 21 [x0, some w, x2] (st) h = mv_i w (mw d 119 Q 22 [x0, some w, x2] (w :: st) h) := (mw_at mj_119_21).trans (z_iload_n rfl)
theorem mj_119_22 : mc_P 119 22 = some (.invokevirtual 47, 3, 182, 10, 3) := by decide +kernel
theorem s_119_22 {x0 x1 x2 : Option Value} {o : Nat} {a1 a2 : Value} : mw (d + 1) 119 Q 22 [x0, x1, x2] (a2 :: a1 :: .ref o :: st) h = (mg h o 10 ∧ mca st 8 ∧ mca [.ref o, a1, a2] 4 ∧ mcall d 182 [.ref o, a1, a2] h (mK (d + 1) 119 Q 25 [x0, x1, x2] st)) := (mw_at mj_119_22).trans ((z_invv (As := [a1, a2]) (by decide) rfl rfl).trans (congrArg (And _) (congrArg (And _) (mC_nl nl_182))))
theorem mj_119_25 : mc_P 119 25 = some (.ifCond .eq 5, 3, 0, 0, 0) := by decide +kernel
theorem s_119_25 {x0 x1 x2 : Option Value} {x : Int32} : mw d 119 Q 25 [x0, x1, x2] (.int x :: st) h = mB (x = 0) (mw d 119 Q) 30 28 [x0, x1, x2] st h := (mw_at mj_119_25).trans (z_if_eq (by decide) rfl)
theorem mj_119_28 : mc_P 119 28 = some (.iload_n 2, 1, 0, 0, 0) := by decide +kernel
theorem s_119_28 {x0 x1 : Option Value} {w : Value} : mw d 119 Q 28 [x0, x1, some w] (st) h = mv_i w (mw d 119 Q 29 [x0, x1, some w] (w :: st) h) := (mw_at mj_119_28).trans (z_iload_n rfl)
theorem mj_119_29 : mc_P 119 29 = some (.ireturn, 1, 0, 0, 0) := by decide +kernel
theorem s_119_29 {x0 x1 x2 : Option Value} {x : Int32} : mw d 119 Q 29 [x0, x1, x2] ([.int x]) h = (Q (some (.int x)) h) := (mw_at mj_119_29).trans (z_iret)
theorem mj_119_30 : mc_P 119 30 = some (.iinc 2 (-1), 3, 0, 0, 0) := by decide +kernel
theorem s_119_30 {x0 x1 : Option Value} {w : Int32} : mw d 119 Q 30 [x0, x1, some (.int w)] (st) h = mw d 119 Q 33 [x0, mk2 x1, some (.int (w + (-1)))] (st) h := (mw_at mj_119_30).trans (z_iinc rfl (Nat.le_of_ble_eq_true rfl) (by decide) (me_s1_mk (j := 1) (w := x1) rfl))
theorem mj_119_33 : mc_P 119 33 = some (.goto (-26), 3, 0, 0, 0) := by decide +kernel
theorem s_119_33 {x0 x1 x2 : Option Value} : mw d 119 Q 33 [x0, x1, x2] (st) h = mw d 119 Q 7 [x0, x1, x2] (st) h := (mw_at mj_119_33).trans (z_goto (by decide))
theorem mj_119_36 : mc_P 119 36 = some (.iconst (-1), 1, 0, 0, 0) := by decide +kernel
theorem s_119_36 {x0 x1 x2 : Option Value} : mw d 119 Q 36 [x0, x1, x2] (st) h = mw d 119 Q 37 [x0, x1, x2] (.int (-1) :: st) h := (mw_at mj_119_36).trans (z_iconst (by decide))
theorem mj_119_37 : mc_P 119 37 = some (.ireturn, 1, 0, 0, 0) := by decide +kernel
theorem s_119_37 {x0 x1 x2 : Option Value} {x : Int32} : mw d 119 Q 37 [x0, x1, x2] ([.int x]) h = (Q (some (.int x)) h) := (mw_at mj_119_37).trans (z_iret)
theorem e_119 {a0 : Nat} {a1 : Int32} : mcall d 119 [.ref a0, .int a1] h Q = mw d 119 Q 0 [some (.ref a0), some (.int a1), none] [] h := by
  show mw d 119 Q 0 (me_en (mc_nl 119) _) [] h = _
  rw [nl_119]; rfl

/-! InvariantDesk$Scope.isTwice(I)Z -/
theorem mj_120_0 : mc_P 120 0 = some (.aload_n 0, 1, 0, 0, 0) := by decide +kernel
theorem s_120_0 {x1 : Option Value} {w : Value} : mw d 120 Q 0 [some w, x1] (st) h = mv_a w (mw d 120 Q 1 [some w, x1] (w :: st) h) := (mw_at mj_120_0).trans (z_aload_n rfl)
theorem mj_120_1 : mc_P 120 1 = some (.getfield 34, 3, 6, 6, 0) := by decide +kernel
theorem s_120_1 {x0 x1 : Option Value} {o : Nat} : mw d 120 Q 1 [x0, x1] (.ref o :: st) h = (mg h o 6 ∧ mw d 120 Q 4 [x0, x1] (.int (mh_i h o 6) :: st) h) := (mw_at mj_120_1).trans (z_geti (by decide) (by decide) (Or.inl rfl))
theorem mj_120_4 : mc_P 120 4 = some (.ifCond .le 26, 3, 0, 0, 0) := by decide +kernel
theorem s_120_4 {x0 x1 : Option Value} {x : Int32} : mw d 120 Q 4 [x0, x1] (.int x :: st) h = mB (x ≤ 0) (mw d 120 Q) 30 7 [x0, x1] st h := (mw_at mj_120_4).trans (z_if_le (by decide) rfl)
theorem mj_120_7 : mc_P 120 7 = some (.aload_n 0, 1, 0, 0, 0) := by decide +kernel
theorem s_120_7 {x1 : Option Value} {w : Value} : mw d 120 Q 7 [some w, x1] (st) h = mv_a w (mw d 120 Q 8 [some w, x1] (w :: st) h) := (mw_at mj_120_7).trans (z_aload_n rfl)
theorem mj_120_8 : mc_P 120 8 = some (.iload_n 1, 1, 0, 0, 0) := by decide +kernel
theorem s_120_8 {x0 : Option Value} {w : Value} : mw d 120 Q 8 [x0, some w] (st) h = mv_i w (mw d 120 Q 9 [x0, some w] (w :: st) h) := (mw_at mj_120_8).trans (z_iload_n rfl)
theorem mj_120_9 : mc_P 120 9 = some (.invokevirtual 51, 3, 119, 6, 2) := by decide +kernel
theorem s_120_9 {x0 x1 : Option Value} {o : Nat} {a1 : Value} : mw (d + 1) 120 Q 9 [x0, x1] (a1 :: .ref o :: st) h = (mg h o 6 ∧ mca st 8 ∧ mca [.ref o, a1] 3 ∧ mcall d 119 [.ref o, a1] h (mK (d + 1) 120 Q 12 [x0, x1] st)) := (mw_at mj_120_9).trans ((z_invv (As := [a1]) (by decide) rfl rfl).trans (congrArg (And _) (congrArg (And _) (mC_nl nl_119))))
theorem mj_120_12 : mc_P 120 12 = some (.aload_n 0, 1, 0, 0, 0) := by decide +kernel
theorem s_120_12 {x1 : Option Value} {w : Value} : mw d 120 Q 12 [some w, x1] (st) h = mv_a w (mw d 120 Q 13 [some w, x1] (w :: st) h) := (mw_at mj_120_12).trans (z_aload_n rfl)
theorem mj_120_13 : mc_P 120 13 = some (.getfield 9, 3, 6, 5, 0) := by decide +kernel
theorem s_120_13 {x0 x1 : Option Value} {o : Nat} : mw d 120 Q 13 [x0, x1] (.ref o :: st) h = (mg h o 6 ∧ mw d 120 Q 16 [x0, x1] (va_rf (mh_r h o 5) :: st) h) := (mw_at mj_120_13).trans (z_getr (by decide) (by decide) rfl)
theorem mj_120_16 : mc_P 120 16 = some (.aload_n 0, 1, 0, 0, 0) := by decide +kernel
theorem s_120_16 {x1 : Option Value} {w : Value} : mw d 120 Q 16 [some w, x1] (st) h = mv_a w (mw d 120 Q 17 [some w, x1] (w :: st) h) := (mw_at mj_120_16).trans (z_aload_n rfl)
theorem mj_120_17 : mc_P 120 17 = some (.getfield 34, 3, 6, 6, 0) := by decide +kernel
theorem s_120_17 {x0 x1 : Option Value} {o : Nat} : mw d 120 Q 17 [x0, x1] (.ref o :: st) h = (mg h o 6 ∧ mw d 120 Q 20 [x0, x1] (.int (mh_i h o 6) :: st) h) := (mw_at mj_120_17).trans (z_geti (by decide) (by decide) (Or.inl rfl))
theorem mj_120_20 : mc_P 120 20 = some (.iconst 1, 1, 0, 0, 0) := by decide +kernel
theorem s_120_20 {x0 x1 : Option Value} : mw d 120 Q 20 [x0, x1] (st) h = mw d 120 Q 21 [x0, x1] (.int 1 :: st) h := (mw_at mj_120_20).trans (z_iconst (by decide))
theorem mj_120_21 : mc_P 120 21 = some (.isub, 1, 0, 0, 0) := by decide +kernel
theorem s_120_21 {x0 x1 : Option Value} {x w : Int32} : mw d 120 Q 21 [x0, x1] (.int w :: .int x :: st) h = mw d 120 Q 22 [x0, x1] (.int (x - w) :: st) h := (mw_at mj_120_21).trans (z_isub)
theorem mj_120_22 : mc_P 120 22 = some (.iaload, 1, 0, 0, 0) := by decide +kernel
theorem s_120_22 {x0 x1 : Option Value} {o : Nat} {i : Int32} : mw d 120 Q 22 [x0, x1] (.int i :: .ref o :: st) h = (mg h o 100 ∧ mx i (mh_l h o) ∧ mw d 120 Q 23 [x0, x1] (.int (mh_i h o i.toNatClampNeg) :: st) h) := (mw_at mj_120_22).trans (z_iald)
theorem mj_120_23 : mc_P 120 23 = some (.if_icmp .lt 7, 3, 0, 0, 0) := by decide +kernel
theorem s_120_23 {x0 x1 : Option Value} {x w : Int32} : mw d 120 Q 23 [x0, x1] (.int w :: .int x :: st) h = mB (x < w) (mw d 120 Q) 30 26 [x0, x1] st h := (mw_at mj_120_23).trans (z_icmp_lt (by decide) rfl)
theorem mj_120_26 : mc_P 120 26 = some (.iconst 1, 1, 0, 0, 0) := by decide +kernel
theorem s_120_26 {x0 x1 : Option Value} : mw d 120 Q 26 [x0, x1] (st) h = mw d 120 Q 27 [x0, x1] (.int 1 :: st) h := (mw_at mj_120_26).trans (z_iconst (by decide))
theorem mj_120_27 : mc_P 120 27 = some (.goto 4, 3, 0, 0, 0) := by decide +kernel
theorem s_120_27 {x0 x1 : Option Value} : mw d 120 Q 27 [x0, x1] (st) h = mw d 120 Q 31 [x0, x1] (st) h := (mw_at mj_120_27).trans (z_goto (by decide))
theorem mj_120_30 : mc_P 120 30 = some (.iconst 0, 1, 0, 0, 0) := by decide +kernel
theorem s_120_30 {x0 x1 : Option Value} : mw d 120 Q 30 [x0, x1] (st) h = mw d 120 Q 31 [x0, x1] (.int 0 :: st) h := (mw_at mj_120_30).trans (z_iconst (by decide))
theorem mj_120_31 : mc_P 120 31 = some (.ireturn, 1, 0, 3, 0) := by decide +kernel
theorem s_120_31 {x0 x1 : Option Value} {x : Int32} : mw d 120 Q 31 [x0, x1] ([.int x]) h = ((x = 0 ∨ x = 1) ∧ Q (some (.int x)) h) := (mw_at mj_120_31).trans (z_zret)
theorem e_120 {a0 : Nat} {a1 : Int32} : mcall d 120 [.ref a0, .int a1] h Q = mw d 120 Q 0 [some (.ref a0), some (.int a1)] [] h := by
  show mw d 120 Q 0 (me_en (mc_nl 120) _) [] h = _
  rw [nl_120]; rfl

/-! InvariantDesk$Scope.add(II)V -/
theorem mj_121_0 : mc_P 121 0 = some (.aload_n 0, 1, 0, 0, 0) := by decide +kernel
theorem s_121_0 {x1 x2 : Option Value} {w : Value} : mw d 121 Q 0 [some w, x1, x2] (st) h = mv_a w (mw d 121 Q 1 [some w, x1, x2] (w :: st) h) := (mw_at mj_121_0).trans (z_aload_n rfl)
theorem mj_121_1 : mc_P 121 1 = some (.getfield 25, 3, 6, 1, 0) := by decide +kernel
theorem s_121_1 {x0 x1 x2 : Option Value} {o : Nat} : mw d 121 Q 1 [x0, x1, x2] (.ref o :: st) h = (mg h o 6 ∧ mw d 121 Q 4 [x0, x1, x2] (va_rf (mh_r h o 1) :: st) h) := (mw_at mj_121_1).trans (z_getr (by decide) (by decide) rfl)
theorem mj_121_4 : mc_P 121 4 = some (.aload_n 0, 1, 0, 0, 0) := by decide +kernel
theorem s_121_4 {x1 x2 : Option Value} {w : Value} : mw d 121 Q 4 [some w, x1, x2] (st) h = mv_a w (mw d 121 Q 5 [some w, x1, x2] (w :: st) h) := (mw_at mj_121_4).trans (z_aload_n rfl)
theorem mj_121_5 : mc_P 121 5 = some (.getfield 38, 3, 6, 4, 0) := by decide +kernel
theorem s_121_5 {x0 x1 x2 : Option Value} {o : Nat} : mw d 121 Q 5 [x0, x1, x2] (.ref o :: st) h = (mg h o 6 ∧ mw d 121 Q 8 [x0, x1, x2] (.int (mh_i h o 4) :: st) h) := (mw_at mj_121_5).trans (z_geti (by decide) (by decide) (Or.inl rfl))
theorem mj_121_8 : mc_P 121 8 = some (.iload_n 1, 1, 0, 0, 0) := by decide +kernel
theorem s_121_8 {x0 x2 : Option Value} {w : Value} : mw d 121 Q 8 [x0, some w, x2] (st) h = mv_i w (mw d 121 Q 9 [x0, some w, x2] (w :: st) h) := (mw_at mj_121_8).trans (z_iload_n rfl)
theorem mj_121_9 : mc_P 121 9 = some (.iastore, 1, 0, 0, 0) := by decide +kernel
theorem s_121_9 {x0 x1 x2 : Option Value} {o : Nat} {i w : Int32} : mw d 121 Q 9 [x0, x1, x2] (.int w :: .int i :: .ref o :: st) h = (mg h o 100 ∧ mx i (mh_l h o) ∧ mw d 121 Q 10 [x0, x1, x2] (st) (mh_si h o i.toNatClampNeg w)) := (mw_at mj_121_9).trans (z_iast)
theorem mj_121_10 : mc_P 121 10 = some (.aload_n 0, 1, 0, 0, 0) := by decide +kernel
theorem s_121_10 {x1 x2 : Option Value} {w : Value} : mw d 121 Q 10 [some w, x1, x2] (st) h = mv_a w (mw d 121 Q 11 [some w, x1, x2] (w :: st) h) := (mw_at mj_121_10).trans (z_aload_n rfl)
theorem mj_121_11 : mc_P 121 11 = some (.getfield 31, 3, 6, 3, 0) := by decide +kernel
theorem s_121_11 {x0 x1 x2 : Option Value} {o : Nat} : mw d 121 Q 11 [x0, x1, x2] (.ref o :: st) h = (mg h o 6 ∧ mw d 121 Q 14 [x0, x1, x2] (va_rf (mh_r h o 3) :: st) h) := (mw_at mj_121_11).trans (z_getr (by decide) (by decide) rfl)
theorem mj_121_14 : mc_P 121 14 = some (.aload_n 0, 1, 0, 0, 0) := by decide +kernel
theorem s_121_14 {x1 x2 : Option Value} {w : Value} : mw d 121 Q 14 [some w, x1, x2] (st) h = mv_a w (mw d 121 Q 15 [some w, x1, x2] (w :: st) h) := (mw_at mj_121_14).trans (z_aload_n rfl)
theorem mj_121_15 : mc_P 121 15 = some (.getfield 38, 3, 6, 4, 0) := by decide +kernel
theorem s_121_15 {x0 x1 x2 : Option Value} {o : Nat} : mw d 121 Q 15 [x0, x1, x2] (.ref o :: st) h = (mg h o 6 ∧ mw d 121 Q 18 [x0, x1, x2] (.int (mh_i h o 4) :: st) h) := (mw_at mj_121_15).trans (z_geti (by decide) (by decide) (Or.inl rfl))
theorem mj_121_18 : mc_P 121 18 = some (.iload_n 2, 1, 0, 0, 0) := by decide +kernel
theorem s_121_18 {x0 x1 : Option Value} {w : Value} : mw d 121 Q 18 [x0, x1, some w] (st) h = mv_i w (mw d 121 Q 19 [x0, x1, some w] (w :: st) h) := (mw_at mj_121_18).trans (z_iload_n rfl)
theorem mj_121_19 : mc_P 121 19 = some (.iastore, 1, 0, 0, 0) := by decide +kernel
theorem s_121_19 {x0 x1 x2 : Option Value} {o : Nat} {i w : Int32} : mw d 121 Q 19 [x0, x1, x2] (.int w :: .int i :: .ref o :: st) h = (mg h o 100 ∧ mx i (mh_l h o) ∧ mw d 121 Q 20 [x0, x1, x2] (st) (mh_si h o i.toNatClampNeg w)) := (mw_at mj_121_19).trans (z_iast)
theorem mj_121_20 : mc_P 121 20 = some (.iload_n 2, 1, 0, 0, 0) := by decide +kernel
theorem s_121_20 {x0 x1 : Option Value} {w : Value} : mw d 121 Q 20 [x0, x1, some w] (st) h = mv_i w (mw d 121 Q 21 [x0, x1, some w] (w :: st) h) := (mw_at mj_121_20).trans (z_iload_n rfl)
theorem mj_121_21 : mc_P 121 21 = some (.ifCond .ne 29, 3, 0, 0, 0) := by decide +kernel
theorem s_121_21 {x0 x1 x2 : Option Value} {x : Int32} : mw d 121 Q 21 [x0, x1, x2] (.int x :: st) h = mB (¬ x = 0) (mw d 121 Q) 50 24 [x0, x1, x2] st h := (mw_at mj_121_21).trans (z_if_ne (by decide) rfl)
theorem mj_121_24 : mc_P 121 24 = some (.aload_n 0, 1, 0, 0, 0) := by decide +kernel
theorem s_121_24 {x1 x2 : Option Value} {w : Value} : mw d 121 Q 24 [some w, x1, x2] (st) h = mv_a w (mw d 121 Q 25 [some w, x1, x2] (w :: st) h) := (mw_at mj_121_24).trans (z_aload_n rfl)
theorem mj_121_25 : mc_P 121 25 = some (.getfield 28, 3, 6, 2, 0) := by decide +kernel
theorem s_121_25 {x0 x1 x2 : Option Value} {o : Nat} : mw d 121 Q 25 [x0, x1, x2] (.ref o :: st) h = (mg h o 6 ∧ mw d 121 Q 28 [x0, x1, x2] (va_rf (mh_r h o 2) :: st) h) := (mw_at mj_121_25).trans (z_getr (by decide) (by decide) rfl)
theorem mj_121_28 : mc_P 121 28 = some (.aload_n 0, 1, 0, 0, 0) := by decide +kernel
theorem s_121_28 {x1 x2 : Option Value} {w : Value} : mw d 121 Q 28 [some w, x1, x2] (st) h = mv_a w (mw d 121 Q 29 [some w, x1, x2] (w :: st) h) := (mw_at mj_121_28).trans (z_aload_n rfl)
theorem mj_121_29 : mc_P 121 29 = some (.getfield 38, 3, 6, 4, 0) := by decide +kernel
theorem s_121_29 {x0 x1 x2 : Option Value} {o : Nat} : mw d 121 Q 29 [x0, x1, x2] (.ref o :: st) h = (mg h o 6 ∧ mw d 121 Q 32 [x0, x1, x2] (.int (mh_i h o 4) :: st) h) := (mw_at mj_121_29).trans (z_geti (by decide) (by decide) (Or.inl rfl))
theorem mj_121_32 : mc_P 121 32 = some (.aload_n 0, 1, 0, 0, 0) := by decide +kernel
theorem s_121_32 {x1 x2 : Option Value} {w : Value} : mw d 121 Q 32 [some w, x1, x2] (st) h = mv_a w (mw d 121 Q 33 [some w, x1, x2] (w :: st) h) := (mw_at mj_121_32).trans (z_aload_n rfl)
theorem mj_121_33 : mc_P 121 33 = some (.getfield 41, 3, 6, 7, 0) := by decide +kernel
theorem s_121_33 {x0 x1 x2 : Option Value} {o : Nat} : mw d 121 Q 33 [x0, x1, x2] (.ref o :: st) h = (mg h o 6 ∧ mw d 121 Q 36 [x0, x1, x2] (.int (mh_i h o 7) :: st) h) := (mw_at mj_121_33).trans (z_geti (by decide) (by decide) (Or.inl rfl))
theorem mj_121_36 : mc_P 121 36 = some (.iastore, 1, 0, 0, 0) := by decide +kernel
theorem s_121_36 {x0 x1 x2 : Option Value} {o : Nat} {i w : Int32} : mw d 121 Q 36 [x0, x1, x2] (.int w :: .int i :: .ref o :: st) h = (mg h o 100 ∧ mx i (mh_l h o) ∧ mw d 121 Q 37 [x0, x1, x2] (st) (mh_si h o i.toNatClampNeg w)) := (mw_at mj_121_36).trans (z_iast)
theorem mj_121_37 : mc_P 121 37 = some (.aload_n 0, 1, 0, 0, 0) := by decide +kernel
theorem s_121_37 {x1 x2 : Option Value} {w : Value} : mw d 121 Q 37 [some w, x1, x2] (st) h = mv_a w (mw d 121 Q 38 [some w, x1, x2] (w :: st) h) := (mw_at mj_121_37).trans (z_aload_n rfl)
theorem mj_121_38 : mc_P 121 38 = some (.dup, 1, 0, 0, 0) := by decide +kernel
theorem s_121_38 {x0 x1 x2 : Option Value} {w : Value} : mw d 121 Q 38 [x0, x1, x2] (w :: st) h = (w.category = 1 ∧ mw d 121 Q 39 [x0, x1, x2] (w :: w :: st) h) := (mw_at mj_121_38).trans (z_dup)
theorem mj_121_39 : mc_P 121 39 = some (.getfield 41, 3, 6, 7, 0) := by decide +kernel
theorem s_121_39 {x0 x1 x2 : Option Value} {o : Nat} : mw d 121 Q 39 [x0, x1, x2] (.ref o :: st) h = (mg h o 6 ∧ mw d 121 Q 42 [x0, x1, x2] (.int (mh_i h o 7) :: st) h) := (mw_at mj_121_39).trans (z_geti (by decide) (by decide) (Or.inl rfl))
theorem mj_121_42 : mc_P 121 42 = some (.iconst 1, 1, 0, 0, 0) := by decide +kernel
theorem s_121_42 {x0 x1 x2 : Option Value} : mw d 121 Q 42 [x0, x1, x2] (st) h = mw d 121 Q 43 [x0, x1, x2] (.int 1 :: st) h := (mw_at mj_121_42).trans (z_iconst (by decide))
theorem mj_121_43 : mc_P 121 43 = some (.iadd, 1, 0, 0, 0) := by decide +kernel
theorem s_121_43 {x0 x1 x2 : Option Value} {x w : Int32} : mw d 121 Q 43 [x0, x1, x2] (.int w :: .int x :: st) h = mw d 121 Q 44 [x0, x1, x2] (.int (x + w) :: st) h := (mw_at mj_121_43).trans (z_iadd)
theorem mj_121_44 : mc_P 121 44 = some (.putfield 41, 3, 6, 7, 0) := by decide +kernel
theorem s_121_44 {x0 x1 x2 : Option Value} {o : Nat} {w : Int32} : mw d 121 Q 44 [x0, x1, x2] (.int w :: .ref o :: st) h = (mg h o 6 ∧ mw d 121 Q 47 [x0, x1, x2] (st) (mh_si h o 7 w)) := (mw_at mj_121_44).trans (z_puti (by decide) (by decide) rfl)
theorem mj_121_47 : mc_P 121 47 = some (.goto 26, 3, 0, 0, 0) := by decide +kernel
theorem s_121_47 {x0 x1 x2 : Option Value} : mw d 121 Q 47 [x0, x1, x2] (st) h = mw d 121 Q 73 [x0, x1, x2] (st) h := (mw_at mj_121_47).trans (z_goto (by decide))
theorem mj_121_50 : mc_P 121 50 = some (.aload_n 0, 1, 0, 0, 0) := by decide +kernel
theorem s_121_50 {x1 x2 : Option Value} {w : Value} : mw d 121 Q 50 [some w, x1, x2] (st) h = mv_a w (mw d 121 Q 51 [some w, x1, x2] (w :: st) h) := (mw_at mj_121_50).trans (z_aload_n rfl)
theorem mj_121_51 : mc_P 121 51 = some (.getfield 28, 3, 6, 2, 0) := by decide +kernel
theorem s_121_51 {x0 x1 x2 : Option Value} {o : Nat} : mw d 121 Q 51 [x0, x1, x2] (.ref o :: st) h = (mg h o 6 ∧ mw d 121 Q 54 [x0, x1, x2] (va_rf (mh_r h o 2) :: st) h) := (mw_at mj_121_51).trans (z_getr (by decide) (by decide) rfl)
theorem mj_121_54 : mc_P 121 54 = some (.aload_n 0, 1, 0, 0, 0) := by decide +kernel
theorem s_121_54 {x1 x2 : Option Value} {w : Value} : mw d 121 Q 54 [some w, x1, x2] (st) h = mv_a w (mw d 121 Q 55 [some w, x1, x2] (w :: st) h) := (mw_at mj_121_54).trans (z_aload_n rfl)
theorem mj_121_55 : mc_P 121 55 = some (.getfield 38, 3, 6, 4, 0) := by decide +kernel
theorem s_121_55 {x0 x1 x2 : Option Value} {o : Nat} : mw d 121 Q 55 [x0, x1, x2] (.ref o :: st) h = (mg h o 6 ∧ mw d 121 Q 58 [x0, x1, x2] (.int (mh_i h o 4) :: st) h) := (mw_at mj_121_55).trans (z_geti (by decide) (by decide) (Or.inl rfl))
theorem mj_121_58 : mc_P 121 58 = some (.aload_n 0, 1, 0, 0, 0) := by decide +kernel
theorem s_121_58 {x1 x2 : Option Value} {w : Value} : mw d 121 Q 58 [some w, x1, x2] (st) h = mv_a w (mw d 121 Q 59 [some w, x1, x2] (w :: st) h) := (mw_at mj_121_58).trans (z_aload_n rfl)
theorem mj_121_59 : mc_P 121 59 = some (.getfield 44, 3, 6, 8, 0) := by decide +kernel
theorem s_121_59 {x0 x1 x2 : Option Value} {o : Nat} : mw d 121 Q 59 [x0, x1, x2] (.ref o :: st) h = (mg h o 6 ∧ mw d 121 Q 62 [x0, x1, x2] (.int (mh_i h o 8) :: st) h) := (mw_at mj_121_59).trans (z_geti (by decide) (by decide) (Or.inl rfl))
theorem mj_121_62 : mc_P 121 62 = some (.iastore, 1, 0, 0, 0) := by decide +kernel
theorem s_121_62 {x0 x1 x2 : Option Value} {o : Nat} {i w : Int32} : mw d 121 Q 62 [x0, x1, x2] (.int w :: .int i :: .ref o :: st) h = (mg h o 100 ∧ mx i (mh_l h o) ∧ mw d 121 Q 63 [x0, x1, x2] (st) (mh_si h o i.toNatClampNeg w)) := (mw_at mj_121_62).trans (z_iast)
theorem mj_121_63 : mc_P 121 63 = some (.aload_n 0, 1, 0, 0, 0) := by decide +kernel
theorem s_121_63 {x1 x2 : Option Value} {w : Value} : mw d 121 Q 63 [some w, x1, x2] (st) h = mv_a w (mw d 121 Q 64 [some w, x1, x2] (w :: st) h) := (mw_at mj_121_63).trans (z_aload_n rfl)
theorem mj_121_64 : mc_P 121 64 = some (.dup, 1, 0, 0, 0) := by decide +kernel
theorem s_121_64 {x0 x1 x2 : Option Value} {w : Value} : mw d 121 Q 64 [x0, x1, x2] (w :: st) h = (w.category = 1 ∧ mw d 121 Q 65 [x0, x1, x2] (w :: w :: st) h) := (mw_at mj_121_64).trans (z_dup)
theorem mj_121_65 : mc_P 121 65 = some (.getfield 44, 3, 6, 8, 0) := by decide +kernel
theorem s_121_65 {x0 x1 x2 : Option Value} {o : Nat} : mw d 121 Q 65 [x0, x1, x2] (.ref o :: st) h = (mg h o 6 ∧ mw d 121 Q 68 [x0, x1, x2] (.int (mh_i h o 8) :: st) h) := (mw_at mj_121_65).trans (z_geti (by decide) (by decide) (Or.inl rfl))
theorem mj_121_68 : mc_P 121 68 = some (.iconst 1, 1, 0, 0, 0) := by decide +kernel
theorem s_121_68 {x0 x1 x2 : Option Value} : mw d 121 Q 68 [x0, x1, x2] (st) h = mw d 121 Q 69 [x0, x1, x2] (.int 1 :: st) h := (mw_at mj_121_68).trans (z_iconst (by decide))
theorem mj_121_69 : mc_P 121 69 = some (.iadd, 1, 0, 0, 0) := by decide +kernel
theorem s_121_69 {x0 x1 x2 : Option Value} {x w : Int32} : mw d 121 Q 69 [x0, x1, x2] (.int w :: .int x :: st) h = mw d 121 Q 70 [x0, x1, x2] (.int (x + w) :: st) h := (mw_at mj_121_69).trans (z_iadd)
theorem mj_121_70 : mc_P 121 70 = some (.putfield 44, 3, 6, 8, 0) := by decide +kernel
theorem s_121_70 {x0 x1 x2 : Option Value} {o : Nat} {w : Int32} : mw d 121 Q 70 [x0, x1, x2] (.int w :: .ref o :: st) h = (mg h o 6 ∧ mw d 121 Q 73 [x0, x1, x2] (st) (mh_si h o 8 w)) := (mw_at mj_121_70).trans (z_puti (by decide) (by decide) rfl)
theorem mj_121_73 : mc_P 121 73 = some (.aload_n 0, 1, 0, 0, 0) := by decide +kernel
theorem s_121_73 {x1 x2 : Option Value} {w : Value} : mw d 121 Q 73 [some w, x1, x2] (st) h = mv_a w (mw d 121 Q 74 [some w, x1, x2] (w :: st) h) := (mw_at mj_121_73).trans (z_aload_n rfl)
theorem mj_121_74 : mc_P 121 74 = some (.dup, 1, 0, 0, 0) := by decide +kernel
theorem s_121_74 {x0 x1 x2 : Option Value} {w : Value} : mw d 121 Q 74 [x0, x1, x2] (w :: st) h = (w.category = 1 ∧ mw d 121 Q 75 [x0, x1, x2] (w :: w :: st) h) := (mw_at mj_121_74).trans (z_dup)
theorem mj_121_75 : mc_P 121 75 = some (.getfield 38, 3, 6, 4, 0) := by decide +kernel
theorem s_121_75 {x0 x1 x2 : Option Value} {o : Nat} : mw d 121 Q 75 [x0, x1, x2] (.ref o :: st) h = (mg h o 6 ∧ mw d 121 Q 78 [x0, x1, x2] (.int (mh_i h o 4) :: st) h) := (mw_at mj_121_75).trans (z_geti (by decide) (by decide) (Or.inl rfl))
theorem mj_121_78 : mc_P 121 78 = some (.iconst 1, 1, 0, 0, 0) := by decide +kernel
theorem s_121_78 {x0 x1 x2 : Option Value} : mw d 121 Q 78 [x0, x1, x2] (st) h = mw d 121 Q 79 [x0, x1, x2] (.int 1 :: st) h := (mw_at mj_121_78).trans (z_iconst (by decide))
theorem mj_121_79 : mc_P 121 79 = some (.iadd, 1, 0, 0, 0) := by decide +kernel
theorem s_121_79 {x0 x1 x2 : Option Value} {x w : Int32} : mw d 121 Q 79 [x0, x1, x2] (.int w :: .int x :: st) h = mw d 121 Q 80 [x0, x1, x2] (.int (x + w) :: st) h := (mw_at mj_121_79).trans (z_iadd)
theorem mj_121_80 : mc_P 121 80 = some (.putfield 38, 3, 6, 4, 0) := by decide +kernel
theorem s_121_80 {x0 x1 x2 : Option Value} {o : Nat} {w : Int32} : mw d 121 Q 80 [x0, x1, x2] (.int w :: .ref o :: st) h = (mg h o 6 ∧ mw d 121 Q 83 [x0, x1, x2] (st) (mh_si h o 4 w)) := (mw_at mj_121_80).trans (z_puti (by decide) (by decide) rfl)
theorem mj_121_83 : mc_P 121 83 = some (.return_, 1, 0, 0, 0) := by decide +kernel
theorem s_121_83 {x0 x1 x2 : Option Value} : mw d 121 Q 83 [x0, x1, x2] ([]) h = Q none h := (mw_at mj_121_83).trans (z_vret)
theorem e_121 {a0 : Nat} {a1 : Int32} {a2 : Int32} : mcall d 121 [.ref a0, .int a1, .int a2] h Q = mw d 121 Q 0 [some (.ref a0), some (.int a1), some (.int a2)] [] h := by
  show mw d 121 Q 0 (me_en (mc_nl 121) _) [] h = _
  rw [nl_121]; rfl

/-! InvariantDesk$Scope.isArray(I)Z -/
theorem mj_122_0 : mc_P 122 0 = some (.aload_n 0, 1, 0, 0, 0) := by decide +kernel
theorem s_122_0 {x1 : Option Value} {w : Value} : mw d 122 Q 0 [some w, x1] (st) h = mv_a w (mw d 122 Q 1 [some w, x1] (w :: st) h) := (mw_at mj_122_0).trans (z_aload_n rfl)
theorem mj_122_1 : mc_P 122 1 = some (.getfield 31, 3, 6, 3, 0) := by decide +kernel
theorem s_122_1 {x0 x1 : Option Value} {o : Nat} : mw d 122 Q 1 [x0, x1] (.ref o :: st) h = (mg h o 6 ∧ mw d 122 Q 4 [x0, x1] (va_rf (mh_r h o 3) :: st) h) := (mw_at mj_122_1).trans (z_getr (by decide) (by decide) rfl)
theorem mj_122_4 : mc_P 122 4 = some (.iload_n 1, 1, 0, 0, 0) := by decide +kernel
theorem s_122_4 {x0 : Option Value} {w : Value} : mw d 122 Q 4 [x0, some w] (st) h = mv_i w (mw d 122 Q 5 [x0, some w] (w :: st) h) := (mw_at mj_122_4).trans (z_iload_n rfl)
theorem mj_122_5 : mc_P 122 5 = some (.iaload, 1, 0, 0, 0) := by decide +kernel
theorem s_122_5 {x0 x1 : Option Value} {o : Nat} {i : Int32} : mw d 122 Q 5 [x0, x1] (.int i :: .ref o :: st) h = (mg h o 100 ∧ mx i (mh_l h o) ∧ mw d 122 Q 6 [x0, x1] (.int (mh_i h o i.toNatClampNeg) :: st) h) := (mw_at mj_122_5).trans (z_iald)
theorem mj_122_6 : mc_P 122 6 = some (.ifCond .le 7, 3, 0, 0, 0) := by decide +kernel
theorem s_122_6 {x0 x1 : Option Value} {x : Int32} : mw d 122 Q 6 [x0, x1] (.int x :: st) h = mB (x ≤ 0) (mw d 122 Q) 13 9 [x0, x1] st h := (mw_at mj_122_6).trans (z_if_le (by decide) rfl)
theorem mj_122_9 : mc_P 122 9 = some (.iconst 1, 1, 0, 0, 0) := by decide +kernel
theorem s_122_9 {x0 x1 : Option Value} : mw d 122 Q 9 [x0, x1] (st) h = mw d 122 Q 10 [x0, x1] (.int 1 :: st) h := (mw_at mj_122_9).trans (z_iconst (by decide))
theorem mj_122_10 : mc_P 122 10 = some (.goto 4, 3, 0, 0, 0) := by decide +kernel
theorem s_122_10 {x0 x1 : Option Value} : mw d 122 Q 10 [x0, x1] (st) h = mw d 122 Q 14 [x0, x1] (st) h := (mw_at mj_122_10).trans (z_goto (by decide))
theorem mj_122_13 : mc_P 122 13 = some (.iconst 0, 1, 0, 0, 0) := by decide +kernel
theorem s_122_13 {x0 x1 : Option Value} : mw d 122 Q 13 [x0, x1] (st) h = mw d 122 Q 14 [x0, x1] (.int 0 :: st) h := (mw_at mj_122_13).trans (z_iconst (by decide))
theorem mj_122_14 : mc_P 122 14 = some (.ireturn, 1, 0, 3, 0) := by decide +kernel
theorem s_122_14 {x0 x1 : Option Value} {x : Int32} : mw d 122 Q 14 [x0, x1] ([.int x]) h = ((x = 0 ∨ x = 1) ∧ Q (some (.int x)) h) := (mw_at mj_122_14).trans (z_zret)
theorem e_122 {a0 : Nat} {a1 : Int32} : mcall d 122 [.ref a0, .int a1] h Q = mw d 122 Q 0 [some (.ref a0), some (.int a1)] [] h := by
  show mw d 122 Q 0 (me_en (mc_nl 122) _) [] h = _
  rw [nl_122]; rfl

/-! InvariantDesk$Scope.slotOf(I)I -/
theorem mj_123_0 : mc_P 123 0 = some (.aload_n 0, 1, 0, 0, 0) := by decide +kernel
theorem s_123_0 {x1 : Option Value} {w : Value} : mw d 123 Q 0 [some w, x1] (st) h = mv_a w (mw d 123 Q 1 [some w, x1] (w :: st) h) := (mw_at mj_123_0).trans (z_aload_n rfl)
theorem mj_123_1 : mc_P 123 1 = some (.getfield 28, 3, 6, 2, 0) := by decide +kernel
theorem s_123_1 {x0 x1 : Option Value} {o : Nat} : mw d 123 Q 1 [x0, x1] (.ref o :: st) h = (mg h o 6 ∧ mw d 123 Q 4 [x0, x1] (va_rf (mh_r h o 2) :: st) h) := (mw_at mj_123_1).trans (z_getr (by decide) (by decide) rfl)
theorem mj_123_4 : mc_P 123 4 = some (.iload_n 1, 1, 0, 0, 0) := by decide +kernel
theorem s_123_4 {x0 : Option Value} {w : Value} : mw d 123 Q 4 [x0, some w] (st) h = mv_i w (mw d 123 Q 5 [x0, some w] (w :: st) h) := (mw_at mj_123_4).trans (z_iload_n rfl)
theorem mj_123_5 : mc_P 123 5 = some (.iaload, 1, 0, 0, 0) := by decide +kernel
theorem s_123_5 {x0 x1 : Option Value} {o : Nat} {i : Int32} : mw d 123 Q 5 [x0, x1] (.int i :: .ref o :: st) h = (mg h o 100 ∧ mx i (mh_l h o) ∧ mw d 123 Q 6 [x0, x1] (.int (mh_i h o i.toNatClampNeg) :: st) h) := (mw_at mj_123_5).trans (z_iald)
theorem mj_123_6 : mc_P 123 6 = some (.ireturn, 1, 0, 0, 0) := by decide +kernel
theorem s_123_6 {x0 x1 : Option Value} {x : Int32} : mw d 123 Q 6 [x0, x1] ([.int x]) h = (Q (some (.int x)) h) := (mw_at mj_123_6).trans (z_iret)
theorem e_123 {a0 : Nat} {a1 : Int32} : mcall d 123 [.ref a0, .int a1] h Q = mw d 123 Q 0 [some (.ref a0), some (.int a1)] [] h := by
  show mw d 123 Q 0 (me_en (mc_nl 123) _) [] h = _
  rw [nl_123]; rfl

/-! InvariantDesk$Scope.sizeOf(I)I -/
theorem mj_124_0 : mc_P 124 0 = some (.aload_n 0, 1, 0, 0, 0) := by decide +kernel
theorem s_124_0 {x1 : Option Value} {w : Value} : mw d 124 Q 0 [some w, x1] (st) h = mv_a w (mw d 124 Q 1 [some w, x1] (w :: st) h) := (mw_at mj_124_0).trans (z_aload_n rfl)
theorem mj_124_1 : mc_P 124 1 = some (.getfield 31, 3, 6, 3, 0) := by decide +kernel
theorem s_124_1 {x0 x1 : Option Value} {o : Nat} : mw d 124 Q 1 [x0, x1] (.ref o :: st) h = (mg h o 6 ∧ mw d 124 Q 4 [x0, x1] (va_rf (mh_r h o 3) :: st) h) := (mw_at mj_124_1).trans (z_getr (by decide) (by decide) rfl)
theorem mj_124_4 : mc_P 124 4 = some (.iload_n 1, 1, 0, 0, 0) := by decide +kernel
theorem s_124_4 {x0 : Option Value} {w : Value} : mw d 124 Q 4 [x0, some w] (st) h = mv_i w (mw d 124 Q 5 [x0, some w] (w :: st) h) := (mw_at mj_124_4).trans (z_iload_n rfl)
theorem mj_124_5 : mc_P 124 5 = some (.iaload, 1, 0, 0, 0) := by decide +kernel
theorem s_124_5 {x0 x1 : Option Value} {o : Nat} {i : Int32} : mw d 124 Q 5 [x0, x1] (.int i :: .ref o :: st) h = (mg h o 100 ∧ mx i (mh_l h o) ∧ mw d 124 Q 6 [x0, x1] (.int (mh_i h o i.toNatClampNeg) :: st) h) := (mw_at mj_124_5).trans (z_iald)
theorem mj_124_6 : mc_P 124 6 = some (.ireturn, 1, 0, 0, 0) := by decide +kernel
theorem s_124_6 {x0 x1 : Option Value} {x : Int32} : mw d 124 Q 6 [x0, x1] ([.int x]) h = (Q (some (.int x)) h) := (mw_at mj_124_6).trans (z_iret)
theorem e_124 {a0 : Nat} {a1 : Int32} : mcall d 124 [.ref a0, .int a1] h Q = mw d 124 Q 0 [some (.ref a0), some (.int a1)] [] h := by
  show mw d 124 Q 0 (me_en (mc_nl 124) _) [] h = _
  rw [nl_124]; rfl

/-! InvariantDesk$Source.emit(III)V -/
theorem mj_126_0 : mc_P 126 0 = some (.aload_n 0, 1, 0, 0, 0) := by decide +kernel
theorem s_126_0 {x1 x2 x3 : Option Value} {w : Value} : mw d 126 Q 0 [some w, x1, x2, x3] (st) h = mv_a w (mw d 126 Q 1 [some w, x1, x2, x3] (w :: st) h) := (mw_at mj_126_0).trans (z_aload_n rfl)
theorem mj_126_1 : mc_P 126 1 = some (.getfield 9, 3, 7, 0, 0) := by decide +kernel
theorem s_126_1 {x0 x1 x2 x3 : Option Value} {o : Nat} : mw d 126 Q 1 [x0, x1, x2, x3] (.ref o :: st) h = (mg h o 7 ∧ mw d 126 Q 4 [x0, x1, x2, x3] (va_rf (mh_r h o 0) :: st) h) := (mw_at mj_126_1).trans (z_getr (by decide) (by decide) rfl)
theorem mj_126_4 : mc_P 126 4 = some (.iconst 3, 1, 0, 0, 0) := by decide +kernel
theorem s_126_4 {x0 x1 x2 x3 : Option Value} : mw d 126 Q 4 [x0, x1, x2, x3] (st) h = mw d 126 Q 5 [x0, x1, x2, x3] (.int 3 :: st) h := (mw_at mj_126_4).trans (z_iconst (by decide))
theorem mj_126_5 : mc_P 126 5 = some (.aload_n 0, 1, 0, 0, 0) := by decide +kernel
theorem s_126_5 {x1 x2 x3 : Option Value} {w : Value} : mw d 126 Q 5 [some w, x1, x2, x3] (st) h = mv_a w (mw d 126 Q 6 [some w, x1, x2, x3] (w :: st) h) := (mw_at mj_126_5).trans (z_aload_n rfl)
theorem mj_126_6 : mc_P 126 6 = some (.getfield 45, 3, 7, 1, 0) := by decide +kernel
theorem s_126_6 {x0 x1 x2 x3 : Option Value} {o : Nat} : mw d 126 Q 6 [x0, x1, x2, x3] (.ref o :: st) h = (mg h o 7 ∧ mw d 126 Q 9 [x0, x1, x2, x3] (.int (mh_i h o 1) :: st) h) := (mw_at mj_126_6).trans (z_geti (by decide) (by decide) (Or.inl rfl))
theorem mj_126_9 : mc_P 126 9 = some (.imul, 1, 0, 0, 0) := by decide +kernel
theorem s_126_9 {x0 x1 x2 x3 : Option Value} {x w : Int32} : mw d 126 Q 9 [x0, x1, x2, x3] (.int w :: .int x :: st) h = mw d 126 Q 10 [x0, x1, x2, x3] (.int (x * w) :: st) h := (mw_at mj_126_9).trans (z_imul)
theorem mj_126_10 : mc_P 126 10 = some (.iload_n 1, 1, 0, 0, 0) := by decide +kernel
theorem s_126_10 {x0 x2 x3 : Option Value} {w : Value} : mw d 126 Q 10 [x0, some w, x2, x3] (st) h = mv_i w (mw d 126 Q 11 [x0, some w, x2, x3] (w :: st) h) := (mw_at mj_126_10).trans (z_iload_n rfl)
theorem mj_126_11 : mc_P 126 11 = some (.iastore, 1, 0, 0, 0) := by decide +kernel
theorem s_126_11 {x0 x1 x2 x3 : Option Value} {o : Nat} {i w : Int32} : mw d 126 Q 11 [x0, x1, x2, x3] (.int w :: .int i :: .ref o :: st) h = (mg h o 100 ∧ mx i (mh_l h o) ∧ mw d 126 Q 12 [x0, x1, x2, x3] (st) (mh_si h o i.toNatClampNeg w)) := (mw_at mj_126_11).trans (z_iast)
theorem mj_126_12 : mc_P 126 12 = some (.aload_n 0, 1, 0, 0, 0) := by decide +kernel
theorem s_126_12 {x1 x2 x3 : Option Value} {w : Value} : mw d 126 Q 12 [some w, x1, x2, x3] (st) h = mv_a w (mw d 126 Q 13 [some w, x1, x2, x3] (w :: st) h) := (mw_at mj_126_12).trans (z_aload_n rfl)
theorem mj_126_13 : mc_P 126 13 = some (.getfield 9, 3, 7, 0, 0) := by decide +kernel
theorem s_126_13 {x0 x1 x2 x3 : Option Value} {o : Nat} : mw d 126 Q 13 [x0, x1, x2, x3] (.ref o :: st) h = (mg h o 7 ∧ mw d 126 Q 16 [x0, x1, x2, x3] (va_rf (mh_r h o 0) :: st) h) := (mw_at mj_126_13).trans (z_getr (by decide) (by decide) rfl)
theorem mj_126_16 : mc_P 126 16 = some (.iconst 3, 1, 0, 0, 0) := by decide +kernel
theorem s_126_16 {x0 x1 x2 x3 : Option Value} : mw d 126 Q 16 [x0, x1, x2, x3] (st) h = mw d 126 Q 17 [x0, x1, x2, x3] (.int 3 :: st) h := (mw_at mj_126_16).trans (z_iconst (by decide))
theorem mj_126_17 : mc_P 126 17 = some (.aload_n 0, 1, 0, 0, 0) := by decide +kernel
theorem s_126_17 {x1 x2 x3 : Option Value} {w : Value} : mw d 126 Q 17 [some w, x1, x2, x3] (st) h = mv_a w (mw d 126 Q 18 [some w, x1, x2, x3] (w :: st) h) := (mw_at mj_126_17).trans (z_aload_n rfl)
theorem mj_126_18 : mc_P 126 18 = some (.getfield 45, 3, 7, 1, 0) := by decide +kernel
theorem s_126_18 {x0 x1 x2 x3 : Option Value} {o : Nat} : mw d 126 Q 18 [x0, x1, x2, x3] (.ref o :: st) h = (mg h o 7 ∧ mw d 126 Q 21 [x0, x1, x2, x3] (.int (mh_i h o 1) :: st) h) := (mw_at mj_126_18).trans (z_geti (by decide) (by decide) (Or.inl rfl))
theorem mj_126_21 : mc_P 126 21 = some (.imul, 1, 0, 0, 0) := by decide +kernel
theorem s_126_21 {x0 x1 x2 x3 : Option Value} {x w : Int32} : mw d 126 Q 21 [x0, x1, x2, x3] (.int w :: .int x :: st) h = mw d 126 Q 22 [x0, x1, x2, x3] (.int (x * w) :: st) h := (mw_at mj_126_21).trans (z_imul)
theorem mj_126_22 : mc_P 126 22 = some (.iconst 1, 1, 0, 0, 0) := by decide +kernel
theorem s_126_22 {x0 x1 x2 x3 : Option Value} : mw d 126 Q 22 [x0, x1, x2, x3] (st) h = mw d 126 Q 23 [x0, x1, x2, x3] (.int 1 :: st) h := (mw_at mj_126_22).trans (z_iconst (by decide))
theorem mj_126_23 : mc_P 126 23 = some (.iadd, 1, 0, 0, 0) := by decide +kernel
theorem s_126_23 {x0 x1 x2 x3 : Option Value} {x w : Int32} : mw d 126 Q 23 [x0, x1, x2, x3] (.int w :: .int x :: st) h = mw d 126 Q 24 [x0, x1, x2, x3] (.int (x + w) :: st) h := (mw_at mj_126_23).trans (z_iadd)
theorem mj_126_24 : mc_P 126 24 = some (.iload_n 2, 1, 0, 0, 0) := by decide +kernel
theorem s_126_24 {x0 x1 x3 : Option Value} {w : Value} : mw d 126 Q 24 [x0, x1, some w, x3] (st) h = mv_i w (mw d 126 Q 25 [x0, x1, some w, x3] (w :: st) h) := (mw_at mj_126_24).trans (z_iload_n rfl)
theorem mj_126_25 : mc_P 126 25 = some (.iastore, 1, 0, 0, 0) := by decide +kernel
theorem s_126_25 {x0 x1 x2 x3 : Option Value} {o : Nat} {i w : Int32} : mw d 126 Q 25 [x0, x1, x2, x3] (.int w :: .int i :: .ref o :: st) h = (mg h o 100 ∧ mx i (mh_l h o) ∧ mw d 126 Q 26 [x0, x1, x2, x3] (st) (mh_si h o i.toNatClampNeg w)) := (mw_at mj_126_25).trans (z_iast)
theorem mj_126_26 : mc_P 126 26 = some (.aload_n 0, 1, 0, 0, 0) := by decide +kernel
theorem s_126_26 {x1 x2 x3 : Option Value} {w : Value} : mw d 126 Q 26 [some w, x1, x2, x3] (st) h = mv_a w (mw d 126 Q 27 [some w, x1, x2, x3] (w :: st) h) := (mw_at mj_126_26).trans (z_aload_n rfl)
theorem mj_126_27 : mc_P 126 27 = some (.getfield 9, 3, 7, 0, 0) := by decide +kernel
theorem s_126_27 {x0 x1 x2 x3 : Option Value} {o : Nat} : mw d 126 Q 27 [x0, x1, x2, x3] (.ref o :: st) h = (mg h o 7 ∧ mw d 126 Q 30 [x0, x1, x2, x3] (va_rf (mh_r h o 0) :: st) h) := (mw_at mj_126_27).trans (z_getr (by decide) (by decide) rfl)
theorem mj_126_30 : mc_P 126 30 = some (.iconst 3, 1, 0, 0, 0) := by decide +kernel
theorem s_126_30 {x0 x1 x2 x3 : Option Value} : mw d 126 Q 30 [x0, x1, x2, x3] (st) h = mw d 126 Q 31 [x0, x1, x2, x3] (.int 3 :: st) h := (mw_at mj_126_30).trans (z_iconst (by decide))
theorem mj_126_31 : mc_P 126 31 = some (.aload_n 0, 1, 0, 0, 0) := by decide +kernel
theorem s_126_31 {x1 x2 x3 : Option Value} {w : Value} : mw d 126 Q 31 [some w, x1, x2, x3] (st) h = mv_a w (mw d 126 Q 32 [some w, x1, x2, x3] (w :: st) h) := (mw_at mj_126_31).trans (z_aload_n rfl)
theorem mj_126_32 : mc_P 126 32 = some (.getfield 45, 3, 7, 1, 0) := by decide +kernel
theorem s_126_32 {x0 x1 x2 x3 : Option Value} {o : Nat} : mw d 126 Q 32 [x0, x1, x2, x3] (.ref o :: st) h = (mg h o 7 ∧ mw d 126 Q 35 [x0, x1, x2, x3] (.int (mh_i h o 1) :: st) h) := (mw_at mj_126_32).trans (z_geti (by decide) (by decide) (Or.inl rfl))
theorem mj_126_35 : mc_P 126 35 = some (.imul, 1, 0, 0, 0) := by decide +kernel
theorem s_126_35 {x0 x1 x2 x3 : Option Value} {x w : Int32} : mw d 126 Q 35 [x0, x1, x2, x3] (.int w :: .int x :: st) h = mw d 126 Q 36 [x0, x1, x2, x3] (.int (x * w) :: st) h := (mw_at mj_126_35).trans (z_imul)
theorem mj_126_36 : mc_P 126 36 = some (.iconst 2, 1, 0, 0, 0) := by decide +kernel
theorem s_126_36 {x0 x1 x2 x3 : Option Value} : mw d 126 Q 36 [x0, x1, x2, x3] (st) h = mw d 126 Q 37 [x0, x1, x2, x3] (.int 2 :: st) h := (mw_at mj_126_36).trans (z_iconst (by decide))
theorem mj_126_37 : mc_P 126 37 = some (.iadd, 1, 0, 0, 0) := by decide +kernel
theorem s_126_37 {x0 x1 x2 x3 : Option Value} {x w : Int32} : mw d 126 Q 37 [x0, x1, x2, x3] (.int w :: .int x :: st) h = mw d 126 Q 38 [x0, x1, x2, x3] (.int (x + w) :: st) h := (mw_at mj_126_37).trans (z_iadd)
theorem mj_126_38 : mc_P 126 38 = some (.iload_n 3, 1, 0, 0, 0) := by decide +kernel
theorem s_126_38 {x0 x1 x2 : Option Value} {w : Value} : mw d 126 Q 38 [x0, x1, x2, some w] (st) h = mv_i w (mw d 126 Q 39 [x0, x1, x2, some w] (w :: st) h) := (mw_at mj_126_38).trans (z_iload_n rfl)
theorem mj_126_39 : mc_P 126 39 = some (.iastore, 1, 0, 0, 0) := by decide +kernel
theorem s_126_39 {x0 x1 x2 x3 : Option Value} {o : Nat} {i w : Int32} : mw d 126 Q 39 [x0, x1, x2, x3] (.int w :: .int i :: .ref o :: st) h = (mg h o 100 ∧ mx i (mh_l h o) ∧ mw d 126 Q 40 [x0, x1, x2, x3] (st) (mh_si h o i.toNatClampNeg w)) := (mw_at mj_126_39).trans (z_iast)
theorem mj_126_40 : mc_P 126 40 = some (.aload_n 0, 1, 0, 0, 0) := by decide +kernel
theorem s_126_40 {x1 x2 x3 : Option Value} {w : Value} : mw d 126 Q 40 [some w, x1, x2, x3] (st) h = mv_a w (mw d 126 Q 41 [some w, x1, x2, x3] (w :: st) h) := (mw_at mj_126_40).trans (z_aload_n rfl)
theorem mj_126_41 : mc_P 126 41 = some (.dup, 1, 0, 0, 0) := by decide +kernel
theorem s_126_41 {x0 x1 x2 x3 : Option Value} {w : Value} : mw d 126 Q 41 [x0, x1, x2, x3] (w :: st) h = (w.category = 1 ∧ mw d 126 Q 42 [x0, x1, x2, x3] (w :: w :: st) h) := (mw_at mj_126_41).trans (z_dup)
theorem mj_126_42 : mc_P 126 42 = some (.getfield 45, 3, 7, 1, 0) := by decide +kernel
theorem s_126_42 {x0 x1 x2 x3 : Option Value} {o : Nat} : mw d 126 Q 42 [x0, x1, x2, x3] (.ref o :: st) h = (mg h o 7 ∧ mw d 126 Q 45 [x0, x1, x2, x3] (.int (mh_i h o 1) :: st) h) := (mw_at mj_126_42).trans (z_geti (by decide) (by decide) (Or.inl rfl))
theorem mj_126_45 : mc_P 126 45 = some (.iconst 1, 1, 0, 0, 0) := by decide +kernel
theorem s_126_45 {x0 x1 x2 x3 : Option Value} : mw d 126 Q 45 [x0, x1, x2, x3] (st) h = mw d 126 Q 46 [x0, x1, x2, x3] (.int 1 :: st) h := (mw_at mj_126_45).trans (z_iconst (by decide))
theorem mj_126_46 : mc_P 126 46 = some (.iadd, 1, 0, 0, 0) := by decide +kernel
theorem s_126_46 {x0 x1 x2 x3 : Option Value} {x w : Int32} : mw d 126 Q 46 [x0, x1, x2, x3] (.int w :: .int x :: st) h = mw d 126 Q 47 [x0, x1, x2, x3] (.int (x + w) :: st) h := (mw_at mj_126_46).trans (z_iadd)
theorem mj_126_47 : mc_P 126 47 = some (.putfield 45, 3, 7, 1, 0) := by decide +kernel
theorem s_126_47 {x0 x1 x2 x3 : Option Value} {o : Nat} {w : Int32} : mw d 126 Q 47 [x0, x1, x2, x3] (.int w :: .ref o :: st) h = (mg h o 7 ∧ mw d 126 Q 50 [x0, x1, x2, x3] (st) (mh_si h o 1 w)) := (mw_at mj_126_47).trans (z_puti (by decide) (by decide) rfl)
theorem mj_126_50 : mc_P 126 50 = some (.return_, 1, 0, 0, 0) := by decide +kernel
theorem s_126_50 {x0 x1 x2 x3 : Option Value} : mw d 126 Q 50 [x0, x1, x2, x3] ([]) h = Q none h := (mw_at mj_126_50).trans (z_vret)
theorem e_126 {a0 : Nat} {a1 : Int32} {a2 : Int32} {a3 : Int32} : mcall d 126 [.ref a0, .int a1, .int a2, .int a3] h Q = mw d 126 Q 0 [some (.ref a0), some (.int a1), some (.int a2), some (.int a3)] [] h := by
  show mw d 126 Q 0 (me_en (mc_nl 126) _) [] h = _
  rw [nl_126]; rfl

/-! InvariantDesk$Source.addPart(II)V -/
theorem mj_127_0 : mc_P 127 0 = some (.aload_n 0, 1, 0, 0, 0) := by decide +kernel
theorem s_127_0 {x1 x2 : Option Value} {w : Value} : mw d 127 Q 0 [some w, x1, x2] (st) h = mv_a w (mw d 127 Q 1 [some w, x1, x2] (w :: st) h) := (mw_at mj_127_0).trans (z_aload_n rfl)
theorem mj_127_1 : mc_P 127 1 = some (.getfield 15, 3, 7, 2, 0) := by decide +kernel
theorem s_127_1 {x0 x1 x2 : Option Value} {o : Nat} : mw d 127 Q 1 [x0, x1, x2] (.ref o :: st) h = (mg h o 7 ∧ mw d 127 Q 4 [x0, x1, x2] (va_rf (mh_r h o 2) :: st) h) := (mw_at mj_127_1).trans (z_getr (by decide) (by decide) rfl)
theorem mj_127_4 : mc_P 127 4 = some (.aload_n 0, 1, 0, 0, 0) := by decide +kernel
theorem s_127_4 {x1 x2 : Option Value} {w : Value} : mw d 127 Q 4 [some w, x1, x2] (st) h = mv_a w (mw d 127 Q 5 [some w, x1, x2] (w :: st) h) := (mw_at mj_127_4).trans (z_aload_n rfl)
theorem mj_127_5 : mc_P 127 5 = some (.getfield 49, 3, 7, 5, 0) := by decide +kernel
theorem s_127_5 {x0 x1 x2 : Option Value} {o : Nat} : mw d 127 Q 5 [x0, x1, x2] (.ref o :: st) h = (mg h o 7 ∧ mw d 127 Q 8 [x0, x1, x2] (.int (mh_i h o 5) :: st) h) := (mw_at mj_127_5).trans (z_geti (by decide) (by decide) (Or.inl rfl))
theorem mj_127_8 : mc_P 127 8 = some (.aload_n 0, 1, 0, 0, 0) := by decide +kernel
theorem s_127_8 {x1 x2 : Option Value} {w : Value} : mw d 127 Q 8 [some w, x1, x2] (st) h = mv_a w (mw d 127 Q 9 [some w, x1, x2] (w :: st) h) := (mw_at mj_127_8).trans (z_aload_n rfl)
theorem mj_127_9 : mc_P 127 9 = some (.getfield 45, 3, 7, 1, 0) := by decide +kernel
theorem s_127_9 {x0 x1 x2 : Option Value} {o : Nat} : mw d 127 Q 9 [x0, x1, x2] (.ref o :: st) h = (mg h o 7 ∧ mw d 127 Q 12 [x0, x1, x2] (.int (mh_i h o 1) :: st) h) := (mw_at mj_127_9).trans (z_geti (by decide) (by decide) (Or.inl rfl))
theorem mj_127_12 : mc_P 127 12 = some (.iastore, 1, 0, 0, 0) := by decide +kernel
theorem s_127_12 {x0 x1 x2 : Option Value} {o : Nat} {i w : Int32} : mw d 127 Q 12 [x0, x1, x2] (.int w :: .int i :: .ref o :: st) h = (mg h o 100 ∧ mx i (mh_l h o) ∧ mw d 127 Q 13 [x0, x1, x2] (st) (mh_si h o i.toNatClampNeg w)) := (mw_at mj_127_12).trans (z_iast)
theorem mj_127_13 : mc_P 127 13 = some (.aload_n 0, 1, 0, 0, 0) := by decide +kernel
theorem s_127_13 {x1 x2 : Option Value} {w : Value} : mw d 127 Q 13 [some w, x1, x2] (st) h = mv_a w (mw d 127 Q 14 [some w, x1, x2] (w :: st) h) := (mw_at mj_127_13).trans (z_aload_n rfl)
theorem mj_127_14 : mc_P 127 14 = some (.getfield 18, 3, 7, 3, 0) := by decide +kernel
theorem s_127_14 {x0 x1 x2 : Option Value} {o : Nat} : mw d 127 Q 14 [x0, x1, x2] (.ref o :: st) h = (mg h o 7 ∧ mw d 127 Q 17 [x0, x1, x2] (va_rf (mh_r h o 3) :: st) h) := (mw_at mj_127_14).trans (z_getr (by decide) (by decide) rfl)
theorem mj_127_17 : mc_P 127 17 = some (.aload_n 0, 1, 0, 0, 0) := by decide +kernel
theorem s_127_17 {x1 x2 : Option Value} {w : Value} : mw d 127 Q 17 [some w, x1, x2] (st) h = mv_a w (mw d 127 Q 18 [some w, x1, x2] (w :: st) h) := (mw_at mj_127_17).trans (z_aload_n rfl)
theorem mj_127_18 : mc_P 127 18 = some (.getfield 49, 3, 7, 5, 0) := by decide +kernel
theorem s_127_18 {x0 x1 x2 : Option Value} {o : Nat} : mw d 127 Q 18 [x0, x1, x2] (.ref o :: st) h = (mg h o 7 ∧ mw d 127 Q 21 [x0, x1, x2] (.int (mh_i h o 5) :: st) h) := (mw_at mj_127_18).trans (z_geti (by decide) (by decide) (Or.inl rfl))
theorem mj_127_21 : mc_P 127 21 = some (.iload_n 1, 1, 0, 0, 0) := by decide +kernel
theorem s_127_21 {x0 x2 : Option Value} {w : Value} : mw d 127 Q 21 [x0, some w, x2] (st) h = mv_i w (mw d 127 Q 22 [x0, some w, x2] (w :: st) h) := (mw_at mj_127_21).trans (z_iload_n rfl)
theorem mj_127_22 : mc_P 127 22 = some (.iastore, 1, 0, 0, 0) := by decide +kernel
theorem s_127_22 {x0 x1 x2 : Option Value} {o : Nat} {i w : Int32} : mw d 127 Q 22 [x0, x1, x2] (.int w :: .int i :: .ref o :: st) h = (mg h o 100 ∧ mx i (mh_l h o) ∧ mw d 127 Q 23 [x0, x1, x2] (st) (mh_si h o i.toNatClampNeg w)) := (mw_at mj_127_22).trans (z_iast)
theorem mj_127_23 : mc_P 127 23 = some (.aload_n 0, 1, 0, 0, 0) := by decide +kernel
theorem s_127_23 {x1 x2 : Option Value} {w : Value} : mw d 127 Q 23 [some w, x1, x2] (st) h = mv_a w (mw d 127 Q 24 [some w, x1, x2] (w :: st) h) := (mw_at mj_127_23).trans (z_aload_n rfl)
theorem mj_127_24 : mc_P 127 24 = some (.getfield 21, 3, 7, 4, 0) := by decide +kernel
theorem s_127_24 {x0 x1 x2 : Option Value} {o : Nat} : mw d 127 Q 24 [x0, x1, x2] (.ref o :: st) h = (mg h o 7 ∧ mw d 127 Q 27 [x0, x1, x2] (va_rf (mh_r h o 4) :: st) h) := (mw_at mj_127_24).trans (z_getr (by decide) (by decide) rfl)
theorem mj_127_27 : mc_P 127 27 = some (.aload_n 0, 1, 0, 0, 0) := by decide +kernel
theorem s_127_27 {x1 x2 : Option Value} {w : Value} : mw d 127 Q 27 [some w, x1, x2] (st) h = mv_a w (mw d 127 Q 28 [some w, x1, x2] (w :: st) h) := (mw_at mj_127_27).trans (z_aload_n rfl)
theorem mj_127_28 : mc_P 127 28 = some (.getfield 49, 3, 7, 5, 0) := by decide +kernel
theorem s_127_28 {x0 x1 x2 : Option Value} {o : Nat} : mw d 127 Q 28 [x0, x1, x2] (.ref o :: st) h = (mg h o 7 ∧ mw d 127 Q 31 [x0, x1, x2] (.int (mh_i h o 5) :: st) h) := (mw_at mj_127_28).trans (z_geti (by decide) (by decide) (Or.inl rfl))
theorem mj_127_31 : mc_P 127 31 = some (.iload_n 2, 1, 0, 0, 0) := by decide +kernel
theorem s_127_31 {x0 x1 : Option Value} {w : Value} : mw d 127 Q 31 [x0, x1, some w] (st) h = mv_i w (mw d 127 Q 32 [x0, x1, some w] (w :: st) h) := (mw_at mj_127_31).trans (z_iload_n rfl)
theorem mj_127_32 : mc_P 127 32 = some (.iastore, 1, 0, 0, 0) := by decide +kernel
theorem s_127_32 {x0 x1 x2 : Option Value} {o : Nat} {i w : Int32} : mw d 127 Q 32 [x0, x1, x2] (.int w :: .int i :: .ref o :: st) h = (mg h o 100 ∧ mx i (mh_l h o) ∧ mw d 127 Q 33 [x0, x1, x2] (st) (mh_si h o i.toNatClampNeg w)) := (mw_at mj_127_32).trans (z_iast)
theorem mj_127_33 : mc_P 127 33 = some (.aload_n 0, 1, 0, 0, 0) := by decide +kernel
theorem s_127_33 {x1 x2 : Option Value} {w : Value} : mw d 127 Q 33 [some w, x1, x2] (st) h = mv_a w (mw d 127 Q 34 [some w, x1, x2] (w :: st) h) := (mw_at mj_127_33).trans (z_aload_n rfl)
theorem mj_127_34 : mc_P 127 34 = some (.dup, 1, 0, 0, 0) := by decide +kernel
theorem s_127_34 {x0 x1 x2 : Option Value} {w : Value} : mw d 127 Q 34 [x0, x1, x2] (w :: st) h = (w.category = 1 ∧ mw d 127 Q 35 [x0, x1, x2] (w :: w :: st) h) := (mw_at mj_127_34).trans (z_dup)
theorem mj_127_35 : mc_P 127 35 = some (.getfield 49, 3, 7, 5, 0) := by decide +kernel
theorem s_127_35 {x0 x1 x2 : Option Value} {o : Nat} : mw d 127 Q 35 [x0, x1, x2] (.ref o :: st) h = (mg h o 7 ∧ mw d 127 Q 38 [x0, x1, x2] (.int (mh_i h o 5) :: st) h) := (mw_at mj_127_35).trans (z_geti (by decide) (by decide) (Or.inl rfl))
theorem mj_127_38 : mc_P 127 38 = some (.iconst 1, 1, 0, 0, 0) := by decide +kernel
theorem s_127_38 {x0 x1 x2 : Option Value} : mw d 127 Q 38 [x0, x1, x2] (st) h = mw d 127 Q 39 [x0, x1, x2] (.int 1 :: st) h := (mw_at mj_127_38).trans (z_iconst (by decide))
theorem mj_127_39 : mc_P 127 39 = some (.iadd, 1, 0, 0, 0) := by decide +kernel
theorem s_127_39 {x0 x1 x2 : Option Value} {x w : Int32} : mw d 127 Q 39 [x0, x1, x2] (.int w :: .int x :: st) h = mw d 127 Q 40 [x0, x1, x2] (.int (x + w) :: st) h := (mw_at mj_127_39).trans (z_iadd)
theorem mj_127_40 : mc_P 127 40 = some (.putfield 49, 3, 7, 5, 0) := by decide +kernel
theorem s_127_40 {x0 x1 x2 : Option Value} {o : Nat} {w : Int32} : mw d 127 Q 40 [x0, x1, x2] (.int w :: .ref o :: st) h = (mg h o 7 ∧ mw d 127 Q 43 [x0, x1, x2] (st) (mh_si h o 5 w)) := (mw_at mj_127_40).trans (z_puti (by decide) (by decide) rfl)
theorem mj_127_43 : mc_P 127 43 = some (.return_, 1, 0, 0, 0) := by decide +kernel
theorem s_127_43 {x0 x1 x2 : Option Value} : mw d 127 Q 43 [x0, x1, x2] ([]) h = Q none h := (mw_at mj_127_43).trans (z_vret)
theorem e_127 {a0 : Nat} {a1 : Int32} {a2 : Int32} : mcall d 127 [.ref a0, .int a1, .int a2] h Q = mw d 127 Q 0 [some (.ref a0), some (.int a1), some (.int a2)] [] h := by
  show mw d 127 Q 0 (me_en (mc_nl 127) _) [] h = _
  rw [nl_127]; rfl

/-! InvariantDesk$Source.makeWhole(II)V -/
theorem mj_128_0 : mc_P 128 0 = some (.aload_n 0, 1, 0, 0, 0) := by decide +kernel
theorem s_128_0 {x1 x2 : Option Value} {w : Value} : mw d 128 Q 0 [some w, x1, x2] (st) h = mv_a w (mw d 128 Q 1 [some w, x1, x2] (w :: st) h) := (mw_at mj_128_0).trans (z_aload_n rfl)
theorem mj_128_1 : mc_P 128 1 = some (.iload_n 1, 1, 0, 0, 0) := by decide +kernel
theorem s_128_1 {x0 x2 : Option Value} {w : Value} : mw d 128 Q 1 [x0, some w, x2] (st) h = mv_i w (mw d 128 Q 2 [x0, some w, x2] (w :: st) h) := (mw_at mj_128_1).trans (z_iload_n rfl)
theorem mj_128_2 : mc_P 128 2 = some (.putfield 49, 3, 7, 5, 0) := by decide +kernel
theorem s_128_2 {x0 x1 x2 : Option Value} {o : Nat} {w : Int32} : mw d 128 Q 2 [x0, x1, x2] (.int w :: .ref o :: st) h = (mg h o 7 ∧ mw d 128 Q 5 [x0, x1, x2] (st) (mh_si h o 5 w)) := (mw_at mj_128_2).trans (z_puti (by decide) (by decide) rfl)
theorem mj_128_5 : mc_P 128 5 = some (.aload_n 0, 1, 0, 0, 0) := by decide +kernel
theorem s_128_5 {x1 x2 : Option Value} {w : Value} : mw d 128 Q 5 [some w, x1, x2] (st) h = mv_a w (mw d 128 Q 6 [some w, x1, x2] (w :: st) h) := (mw_at mj_128_5).trans (z_aload_n rfl)
theorem mj_128_6 : mc_P 128 6 = some (.iload_n 2, 1, 0, 0, 0) := by decide +kernel
theorem s_128_6 {x0 x1 : Option Value} {w : Value} : mw d 128 Q 6 [x0, x1, some w] (st) h = mv_i w (mw d 128 Q 7 [x0, x1, some w] (w :: st) h) := (mw_at mj_128_6).trans (z_iload_n rfl)
theorem mj_128_7 : mc_P 128 7 = some (.bipush (-2), 2, 0, 0, 0) := by decide +kernel
theorem s_128_7 {x0 x1 x2 : Option Value} : mw d 128 Q 7 [x0, x1, x2] (st) h = mw d 128 Q 9 [x0, x1, x2] (.int (-2) :: st) h := (mw_at mj_128_7).trans (z_bipush (by decide))
theorem mj_128_9 : mc_P 128 9 = some (.invokevirtual 52, 3, 127, 7, 3) := by decide +kernel
theorem s_128_9 {x0 x1 x2 : Option Value} {o : Nat} {a1 a2 : Value} : mw (d + 1) 128 Q 9 [x0, x1, x2] (a2 :: a1 :: .ref o :: st) h = (mg h o 7 ∧ mca st 8 ∧ mca [.ref o, a1, a2] 3 ∧ mcall d 127 [.ref o, a1, a2] h (mK (d + 1) 128 Q 12 [x0, x1, x2] st)) := (mw_at mj_128_9).trans ((z_invv (As := [a1, a2]) (by decide) rfl rfl).trans (congrArg (And _) (congrArg (And _) (mC_nl nl_127))))
theorem mj_128_12 : mc_P 128 12 = some (.return_, 1, 0, 0, 0) := by decide +kernel
theorem s_128_12 {x0 x1 x2 : Option Value} : mw d 128 Q 12 [x0, x1, x2] ([]) h = Q none h := (mw_at mj_128_12).trans (z_vret)
theorem e_128 {a0 : Nat} {a1 : Int32} {a2 : Int32} : mcall d 128 [.ref a0, .int a1, .int a2] h Q = mw d 128 Q 0 [some (.ref a0), some (.int a1), some (.int a2)] [] h := by
  show mw d 128 Q 0 (me_en (mc_nl 128) _) [] h = _
  rw [nl_128]; rfl

/-! InvariantDesk$Source.openSum()V -/
theorem mj_129_0 : mc_P 129 0 = some (.aload_n 0, 1, 0, 0, 0) := by decide +kernel
theorem s_129_0 {w : Value} : mw d 129 Q 0 [some w] (st) h = mv_a w (mw d 129 Q 1 [some w] (w :: st) h) := (mw_at mj_129_0).trans (z_aload_n rfl)
theorem mj_129_1 : mc_P 129 1 = some (.getfield 24, 3, 7, 6, 0) := by decide +kernel
theorem s_129_1 {x0 : Option Value} {o : Nat} : mw d 129 Q 1 [x0] (.ref o :: st) h = (mg h o 7 ∧ mw d 129 Q 4 [x0] (va_rf (mh_r h o 6) :: st) h) := (mw_at mj_129_1).trans (z_getr (by decide) (by decide) rfl)
theorem mj_129_4 : mc_P 129 4 = some (.aload_n 0, 1, 0, 0, 0) := by decide +kernel
theorem s_129_4 {w : Value} : mw d 129 Q 4 [some w] (st) h = mv_a w (mw d 129 Q 5 [some w] (w :: st) h) := (mw_at mj_129_4).trans (z_aload_n rfl)
theorem mj_129_5 : mc_P 129 5 = some (.getfield 56, 3, 7, 8, 0) := by decide +kernel
theorem s_129_5 {x0 : Option Value} {o : Nat} : mw d 129 Q 5 [x0] (.ref o :: st) h = (mg h o 7 ∧ mw d 129 Q 8 [x0] (.int (mh_i h o 8) :: st) h) := (mw_at mj_129_5).trans (z_geti (by decide) (by decide) (Or.inl rfl))
theorem mj_129_8 : mc_P 129 8 = some (.aload_n 0, 1, 0, 0, 0) := by decide +kernel
theorem s_129_8 {w : Value} : mw d 129 Q 8 [some w] (st) h = mv_a w (mw d 129 Q 9 [some w] (w :: st) h) := (mw_at mj_129_8).trans (z_aload_n rfl)
theorem mj_129_9 : mc_P 129 9 = some (.getfield 45, 3, 7, 1, 0) := by decide +kernel
theorem s_129_9 {x0 : Option Value} {o : Nat} : mw d 129 Q 9 [x0] (.ref o :: st) h = (mg h o 7 ∧ mw d 129 Q 12 [x0] (.int (mh_i h o 1) :: st) h) := (mw_at mj_129_9).trans (z_geti (by decide) (by decide) (Or.inl rfl))
theorem mj_129_12 : mc_P 129 12 = some (.iastore, 1, 0, 0, 0) := by decide +kernel
theorem s_129_12 {x0 : Option Value} {o : Nat} {i w : Int32} : mw d 129 Q 12 [x0] (.int w :: .int i :: .ref o :: st) h = (mg h o 100 ∧ mx i (mh_l h o) ∧ mw d 129 Q 13 [x0] (st) (mh_si h o i.toNatClampNeg w)) := (mw_at mj_129_12).trans (z_iast)
theorem mj_129_13 : mc_P 129 13 = some (.aload_n 0, 1, 0, 0, 0) := by decide +kernel
theorem s_129_13 {w : Value} : mw d 129 Q 13 [some w] (st) h = mv_a w (mw d 129 Q 14 [some w] (w :: st) h) := (mw_at mj_129_13).trans (z_aload_n rfl)
theorem mj_129_14 : mc_P 129 14 = some (.getfield 27, 3, 7, 7, 0) := by decide +kernel
theorem s_129_14 {x0 : Option Value} {o : Nat} : mw d 129 Q 14 [x0] (.ref o :: st) h = (mg h o 7 ∧ mw d 129 Q 17 [x0] (va_rf (mh_r h o 7) :: st) h) := (mw_at mj_129_14).trans (z_getr (by decide) (by decide) rfl)
theorem mj_129_17 : mc_P 129 17 = some (.aload_n 0, 1, 0, 0, 0) := by decide +kernel
theorem s_129_17 {w : Value} : mw d 129 Q 17 [some w] (st) h = mv_a w (mw d 129 Q 18 [some w] (w :: st) h) := (mw_at mj_129_17).trans (z_aload_n rfl)
theorem mj_129_18 : mc_P 129 18 = some (.getfield 56, 3, 7, 8, 0) := by decide +kernel
theorem s_129_18 {x0 : Option Value} {o : Nat} : mw d 129 Q 18 [x0] (.ref o :: st) h = (mg h o 7 ∧ mw d 129 Q 21 [x0] (.int (mh_i h o 8) :: st) h) := (mw_at mj_129_18).trans (z_geti (by decide) (by decide) (Or.inl rfl))
theorem mj_129_21 : mc_P 129 21 = some (.aload_n 0, 1, 0, 0, 0) := by decide +kernel
theorem s_129_21 {w : Value} : mw d 129 Q 21 [some w] (st) h = mv_a w (mw d 129 Q 22 [some w] (w :: st) h) := (mw_at mj_129_21).trans (z_aload_n rfl)
theorem mj_129_22 : mc_P 129 22 = some (.getfield 49, 3, 7, 5, 0) := by decide +kernel
theorem s_129_22 {x0 : Option Value} {o : Nat} : mw d 129 Q 22 [x0] (.ref o :: st) h = (mg h o 7 ∧ mw d 129 Q 25 [x0] (.int (mh_i h o 5) :: st) h) := (mw_at mj_129_22).trans (z_geti (by decide) (by decide) (Or.inl rfl))
theorem mj_129_25 : mc_P 129 25 = some (.iastore, 1, 0, 0, 0) := by decide +kernel
theorem s_129_25 {x0 : Option Value} {o : Nat} {i w : Int32} : mw d 129 Q 25 [x0] (.int w :: .int i :: .ref o :: st) h = (mg h o 100 ∧ mx i (mh_l h o) ∧ mw d 129 Q 26 [x0] (st) (mh_si h o i.toNatClampNeg w)) := (mw_at mj_129_25).trans (z_iast)
theorem mj_129_26 : mc_P 129 26 = some (.aload_n 0, 1, 0, 0, 0) := by decide +kernel
theorem s_129_26 {w : Value} : mw d 129 Q 26 [some w] (st) h = mv_a w (mw d 129 Q 27 [some w] (w :: st) h) := (mw_at mj_129_26).trans (z_aload_n rfl)
theorem mj_129_27 : mc_P 129 27 = some (.dup, 1, 0, 0, 0) := by decide +kernel
theorem s_129_27 {x0 : Option Value} {w : Value} : mw d 129 Q 27 [x0] (w :: st) h = (w.category = 1 ∧ mw d 129 Q 28 [x0] (w :: w :: st) h) := (mw_at mj_129_27).trans (z_dup)
theorem mj_129_28 : mc_P 129 28 = some (.getfield 56, 3, 7, 8, 0) := by decide +kernel
theorem s_129_28 {x0 : Option Value} {o : Nat} : mw d 129 Q 28 [x0] (.ref o :: st) h = (mg h o 7 ∧ mw d 129 Q 31 [x0] (.int (mh_i h o 8) :: st) h) := (mw_at mj_129_28).trans (z_geti (by decide) (by decide) (Or.inl rfl))
theorem mj_129_31 : mc_P 129 31 = some (.iconst 1, 1, 0, 0, 0) := by decide +kernel
theorem s_129_31 {x0 : Option Value} : mw d 129 Q 31 [x0] (st) h = mw d 129 Q 32 [x0] (.int 1 :: st) h := (mw_at mj_129_31).trans (z_iconst (by decide))
theorem mj_129_32 : mc_P 129 32 = some (.iadd, 1, 0, 0, 0) := by decide +kernel
theorem s_129_32 {x0 : Option Value} {x w : Int32} : mw d 129 Q 32 [x0] (.int w :: .int x :: st) h = mw d 129 Q 33 [x0] (.int (x + w) :: st) h := (mw_at mj_129_32).trans (z_iadd)
theorem mj_129_33 : mc_P 129 33 = some (.putfield 56, 3, 7, 8, 0) := by decide +kernel
theorem s_129_33 {x0 : Option Value} {o : Nat} {w : Int32} : mw d 129 Q 33 [x0] (.int w :: .ref o :: st) h = (mg h o 7 ∧ mw d 129 Q 36 [x0] (st) (mh_si h o 8 w)) := (mw_at mj_129_33).trans (z_puti (by decide) (by decide) rfl)
theorem mj_129_36 : mc_P 129 36 = some (.return_, 1, 0, 0, 0) := by decide +kernel
theorem s_129_36 {x0 : Option Value} : mw d 129 Q 36 [x0] ([]) h = Q none h := (mw_at mj_129_36).trans (z_vret)
theorem e_129 {a0 : Nat} : mcall d 129 [.ref a0] h Q = mw d 129 Q 0 [some (.ref a0)] [] h := by
  show mw d 129 Q 0 (me_en (mc_nl 129) _) [] h = _
  rw [nl_129]; rfl

/-! InvariantDesk$Source.addCond(II)I -/
theorem mj_130_0 : mc_P 130 0 = some (.aload_n 0, 1, 0, 0, 0) := by decide +kernel
theorem s_130_0 {x1 x2 : Option Value} {w : Value} : mw d 130 Q 0 [some w, x1, x2] (st) h = mv_a w (mw d 130 Q 1 [some w, x1, x2] (w :: st) h) := (mw_at mj_130_0).trans (z_aload_n rfl)
theorem mj_130_1 : mc_P 130 1 = some (.getfield 30, 3, 7, 9, 0) := by decide +kernel
theorem s_130_1 {x0 x1 x2 : Option Value} {o : Nat} : mw d 130 Q 1 [x0, x1, x2] (.ref o :: st) h = (mg h o 7 ∧ mw d 130 Q 4 [x0, x1, x2] (va_rf (mh_r h o 9) :: st) h) := (mw_at mj_130_1).trans (z_getr (by decide) (by decide) rfl)
theorem mj_130_4 : mc_P 130 4 = some (.aload_n 0, 1, 0, 0, 0) := by decide +kernel
theorem s_130_4 {x1 x2 : Option Value} {w : Value} : mw d 130 Q 4 [some w, x1, x2] (st) h = mv_a w (mw d 130 Q 5 [some w, x1, x2] (w :: st) h) := (mw_at mj_130_4).trans (z_aload_n rfl)
theorem mj_130_5 : mc_P 130 5 = some (.getfield 59, 3, 7, 11, 0) := by decide +kernel
theorem s_130_5 {x0 x1 x2 : Option Value} {o : Nat} : mw d 130 Q 5 [x0, x1, x2] (.ref o :: st) h = (mg h o 7 ∧ mw d 130 Q 8 [x0, x1, x2] (.int (mh_i h o 11) :: st) h) := (mw_at mj_130_5).trans (z_geti (by decide) (by decide) (Or.inl rfl))
theorem mj_130_8 : mc_P 130 8 = some (.iload_n 1, 1, 0, 0, 0) := by decide +kernel
theorem s_130_8 {x0 x2 : Option Value} {w : Value} : mw d 130 Q 8 [x0, some w, x2] (st) h = mv_i w (mw d 130 Q 9 [x0, some w, x2] (w :: st) h) := (mw_at mj_130_8).trans (z_iload_n rfl)
theorem mj_130_9 : mc_P 130 9 = some (.iastore, 1, 0, 0, 0) := by decide +kernel
theorem s_130_9 {x0 x1 x2 : Option Value} {o : Nat} {i w : Int32} : mw d 130 Q 9 [x0, x1, x2] (.int w :: .int i :: .ref o :: st) h = (mg h o 100 ∧ mx i (mh_l h o) ∧ mw d 130 Q 10 [x0, x1, x2] (st) (mh_si h o i.toNatClampNeg w)) := (mw_at mj_130_9).trans (z_iast)
theorem mj_130_10 : mc_P 130 10 = some (.aload_n 0, 1, 0, 0, 0) := by decide +kernel
theorem s_130_10 {x1 x2 : Option Value} {w : Value} : mw d 130 Q 10 [some w, x1, x2] (st) h = mv_a w (mw d 130 Q 11 [some w, x1, x2] (w :: st) h) := (mw_at mj_130_10).trans (z_aload_n rfl)
theorem mj_130_11 : mc_P 130 11 = some (.getfield 33, 3, 7, 10, 0) := by decide +kernel
theorem s_130_11 {x0 x1 x2 : Option Value} {o : Nat} : mw d 130 Q 11 [x0, x1, x2] (.ref o :: st) h = (mg h o 7 ∧ mw d 130 Q 14 [x0, x1, x2] (va_rf (mh_r h o 10) :: st) h) := (mw_at mj_130_11).trans (z_getr (by decide) (by decide) rfl)
theorem mj_130_14 : mc_P 130 14 = some (.aload_n 0, 1, 0, 0, 0) := by decide +kernel
theorem s_130_14 {x1 x2 : Option Value} {w : Value} : mw d 130 Q 14 [some w, x1, x2] (st) h = mv_a w (mw d 130 Q 15 [some w, x1, x2] (w :: st) h) := (mw_at mj_130_14).trans (z_aload_n rfl)
theorem mj_130_15 : mc_P 130 15 = some (.getfield 59, 3, 7, 11, 0) := by decide +kernel
theorem s_130_15 {x0 x1 x2 : Option Value} {o : Nat} : mw d 130 Q 15 [x0, x1, x2] (.ref o :: st) h = (mg h o 7 ∧ mw d 130 Q 18 [x0, x1, x2] (.int (mh_i h o 11) :: st) h) := (mw_at mj_130_15).trans (z_geti (by decide) (by decide) (Or.inl rfl))
theorem mj_130_18 : mc_P 130 18 = some (.iload_n 2, 1, 0, 0, 0) := by decide +kernel
theorem s_130_18 {x0 x1 : Option Value} {w : Value} : mw d 130 Q 18 [x0, x1, some w] (st) h = mv_i w (mw d 130 Q 19 [x0, x1, some w] (w :: st) h) := (mw_at mj_130_18).trans (z_iload_n rfl)
theorem mj_130_19 : mc_P 130 19 = some (.iastore, 1, 0, 0, 0) := by decide +kernel
theorem s_130_19 {x0 x1 x2 : Option Value} {o : Nat} {i w : Int32} : mw d 130 Q 19 [x0, x1, x2] (.int w :: .int i :: .ref o :: st) h = (mg h o 100 ∧ mx i (mh_l h o) ∧ mw d 130 Q 20 [x0, x1, x2] (st) (mh_si h o i.toNatClampNeg w)) := (mw_at mj_130_19).trans (z_iast)
theorem mj_130_20 : mc_P 130 20 = some (.aload_n 0, 1, 0, 0, 0) := by decide +kernel
theorem s_130_20 {x1 x2 : Option Value} {w : Value} : mw d 130 Q 20 [some w, x1, x2] (st) h = mv_a w (mw d 130 Q 21 [some w, x1, x2] (w :: st) h) := (mw_at mj_130_20).trans (z_aload_n rfl)
theorem mj_130_21 : mc_P 130 21 = some (.dup, 1, 0, 0, 0) := by decide +kernel
theorem s_130_21 {x0 x1 x2 : Option Value} {w : Value} : mw d 130 Q 21 [x0, x1, x2] (w :: st) h = (w.category = 1 ∧ mw d 130 Q 22 [x0, x1, x2] (w :: w :: st) h) := (mw_at mj_130_21).trans (z_dup)
theorem mj_130_22 : mc_P 130 22 = some (.getfield 59, 3, 7, 11, 0) := by decide +kernel
theorem s_130_22 {x0 x1 x2 : Option Value} {o : Nat} : mw d 130 Q 22 [x0, x1, x2] (.ref o :: st) h = (mg h o 7 ∧ mw d 130 Q 25 [x0, x1, x2] (.int (mh_i h o 11) :: st) h) := (mw_at mj_130_22).trans (z_geti (by decide) (by decide) (Or.inl rfl))
theorem mj_130_25 : mc_P 130 25 = some (.iconst 1, 1, 0, 0, 0) := by decide +kernel
theorem s_130_25 {x0 x1 x2 : Option Value} : mw d 130 Q 25 [x0, x1, x2] (st) h = mw d 130 Q 26 [x0, x1, x2] (.int 1 :: st) h := (mw_at mj_130_25).trans (z_iconst (by decide))
theorem mj_130_26 : mc_P 130 26 = some (.iadd, 1, 0, 0, 0) := by decide +kernel
theorem s_130_26 {x0 x1 x2 : Option Value} {x w : Int32} : mw d 130 Q 26 [x0, x1, x2] (.int w :: .int x :: st) h = mw d 130 Q 27 [x0, x1, x2] (.int (x + w) :: st) h := (mw_at mj_130_26).trans (z_iadd)
theorem mj_130_27 : mc_P 130 27 = some (.putfield 59, 3, 7, 11, 0) := by decide +kernel
theorem s_130_27 {x0 x1 x2 : Option Value} {o : Nat} {w : Int32} : mw d 130 Q 27 [x0, x1, x2] (.int w :: .ref o :: st) h = (mg h o 7 ∧ mw d 130 Q 30 [x0, x1, x2] (st) (mh_si h o 11 w)) := (mw_at mj_130_27).trans (z_puti (by decide) (by decide) rfl)
theorem mj_130_30 : mc_P 130 30 = some (.aload_n 0, 1, 0, 0, 0) := by decide +kernel
theorem s_130_30 {x1 x2 : Option Value} {w : Value} : mw d 130 Q 30 [some w, x1, x2] (st) h = mv_a w (mw d 130 Q 31 [some w, x1, x2] (w :: st) h) := (mw_at mj_130_30).trans (z_aload_n rfl)
theorem mj_130_31 : mc_P 130 31 = some (.getfield 59, 3, 7, 11, 0) := by decide +kernel
theorem s_130_31 {x0 x1 x2 : Option Value} {o : Nat} : mw d 130 Q 31 [x0, x1, x2] (.ref o :: st) h = (mg h o 7 ∧ mw d 130 Q 34 [x0, x1, x2] (.int (mh_i h o 11) :: st) h) := (mw_at mj_130_31).trans (z_geti (by decide) (by decide) (Or.inl rfl))
theorem mj_130_34 : mc_P 130 34 = some (.iconst 1, 1, 0, 0, 0) := by decide +kernel
theorem s_130_34 {x0 x1 x2 : Option Value} : mw d 130 Q 34 [x0, x1, x2] (st) h = mw d 130 Q 35 [x0, x1, x2] (.int 1 :: st) h := (mw_at mj_130_34).trans (z_iconst (by decide))
theorem mj_130_35 : mc_P 130 35 = some (.isub, 1, 0, 0, 0) := by decide +kernel
theorem s_130_35 {x0 x1 x2 : Option Value} {x w : Int32} : mw d 130 Q 35 [x0, x1, x2] (.int w :: .int x :: st) h = mw d 130 Q 36 [x0, x1, x2] (.int (x - w) :: st) h := (mw_at mj_130_35).trans (z_isub)
theorem mj_130_36 : mc_P 130 36 = some (.ireturn, 1, 0, 0, 0) := by decide +kernel
theorem s_130_36 {x0 x1 x2 : Option Value} {x : Int32} : mw d 130 Q 36 [x0, x1, x2] ([.int x]) h = (Q (some (.int x)) h) := (mw_at mj_130_36).trans (z_iret)
theorem e_130 {a0 : Nat} {a1 : Int32} {a2 : Int32} : mcall d 130 [.ref a0, .int a1, .int a2] h Q = mw d 130 Q 0 [some (.ref a0), some (.int a1), some (.int a2)] [] h := by
  show mw d 130 Q 0 (me_en (mc_nl 130) _) [] h = _
  rw [nl_130]; rfl

/-! InvariantDesk$Source.endCond(I)V -/
theorem mj_131_0 : mc_P 131 0 = some (.aload_n 0, 1, 0, 0, 0) := by decide +kernel
theorem s_131_0 {x1 : Option Value} {w : Value} : mw d 131 Q 0 [some w, x1] (st) h = mv_a w (mw d 131 Q 1 [some w, x1] (w :: st) h) := (mw_at mj_131_0).trans (z_aload_n rfl)
theorem mj_131_1 : mc_P 131 1 = some (.aload_n 0, 1, 0, 0, 0) := by decide +kernel
theorem s_131_1 {x1 : Option Value} {w : Value} : mw d 131 Q 1 [some w, x1] (st) h = mv_a w (mw d 131 Q 2 [some w, x1] (w :: st) h) := (mw_at mj_131_1).trans (z_aload_n rfl)
theorem mj_131_2 : mc_P 131 2 = some (.getfield 30, 3, 7, 9, 0) := by decide +kernel
theorem s_131_2 {x0 x1 : Option Value} {o : Nat} : mw d 131 Q 2 [x0, x1] (.ref o :: st) h = (mg h o 7 ∧ mw d 131 Q 5 [x0, x1] (va_rf (mh_r h o 9) :: st) h) := (mw_at mj_131_2).trans (z_getr (by decide) (by decide) rfl)
theorem mj_131_5 : mc_P 131 5 = some (.iload_n 1, 1, 0, 0, 0) := by decide +kernel
theorem s_131_5 {x0 : Option Value} {w : Value} : mw d 131 Q 5 [x0, some w] (st) h = mv_i w (mw d 131 Q 6 [x0, some w] (w :: st) h) := (mw_at mj_131_5).trans (z_iload_n rfl)
theorem mj_131_6 : mc_P 131 6 = some (.iaload, 1, 0, 0, 0) := by decide +kernel
theorem s_131_6 {x0 x1 : Option Value} {o : Nat} {i : Int32} : mw d 131 Q 6 [x0, x1] (.int i :: .ref o :: st) h = (mg h o 100 ∧ mx i (mh_l h o) ∧ mw d 131 Q 7 [x0, x1] (.int (mh_i h o i.toNatClampNeg) :: st) h) := (mw_at mj_131_6).trans (z_iald)
theorem mj_131_7 : mc_P 131 7 = some (.sipush 132, 3, 0, 0, 0) := by decide +kernel
theorem s_131_7 {x0 x1 : Option Value} : mw d 131 Q 7 [x0, x1] (st) h = mw d 131 Q 10 [x0, x1] (.int 132 :: st) h := (mw_at mj_131_7).trans (z_sipush (by decide))
theorem mj_131_10 : mc_P 131 10 = some (.if_icmp .ne 9, 3, 0, 0, 0) := by decide +kernel
theorem s_131_10 {x0 x1 : Option Value} {x w : Int32} : mw d 131 Q 10 [x0, x1] (.int w :: .int x :: st) h = mB (¬ x = w) (mw d 131 Q) 19 13 [x0, x1] st h := (mw_at mj_131_10).trans (z_icmp_ne (by decide) rfl)
theorem mj_131_13 : mc_P 131 13 = some (.sipush 134, 3, 0, 0, 0) := by decide +kernel
theorem s_131_13 {x0 x1 : Option Value} : mw d 131 Q 13 [x0, x1] (st) h = mw d 131 Q 16 [x0, x1] (.int 134 :: st) h := (mw_at mj_131_13).trans (z_sipush (by decide))
theorem mj_131_16 : mc_P 131 16 = some (.goto 6, 3, 0, 0, 0) := by decide +kernel
theorem s_131_16 {x0 x1 : Option Value} : mw d 131 Q 16 [x0, x1] (st) h = mw d 131 Q 22 [x0, x1] (st) h := (mw_at mj_131_16).trans (z_goto (by decide))
theorem mj_131_19 : mc_P 131 19 = some (.sipush 135, 3, 0, 0, 0) := by decide +kernel
theorem s_131_19 {x0 x1 : Option Value} : mw d 131 Q 19 [x0, x1] (st) h = mw d 131 Q 22 [x0, x1] (.int 135 :: st) h := (mw_at mj_131_19).trans (z_sipush (by decide))
theorem mj_131_22 : mc_P 131 22 = some (.iconst 0, 1, 0, 0, 0) := by decide +kernel
theorem s_131_22 {x0 x1 : Option Value} : mw d 131 Q 22 [x0, x1] (st) h = mw d 131 Q 23 [x0, x1] (.int 0 :: st) h := (mw_at mj_131_22).trans (z_iconst (by decide))
theorem mj_131_23 : mc_P 131 23 = some (.invokevirtual 64, 3, 130, 7, 3) := by decide +kernel
theorem s_131_23 {x0 x1 : Option Value} {o : Nat} {a1 a2 : Value} : mw (d + 1) 131 Q 23 [x0, x1] (a2 :: a1 :: .ref o :: st) h = (mg h o 7 ∧ mca st 8 ∧ mca [.ref o, a1, a2] 3 ∧ mcall d 130 [.ref o, a1, a2] h (mK (d + 1) 131 Q 26 [x0, x1] st)) := (mw_at mj_131_23).trans ((z_invv (As := [a1, a2]) (by decide) rfl rfl).trans (congrArg (And _) (congrArg (And _) (mC_nl nl_130))))
theorem mj_131_26 : mc_P 131 26 = some (.pop, 1, 0, 0, 0) := by decide +kernel
theorem s_131_26 {x0 x1 : Option Value} {w : Value} : mw d 131 Q 26 [x0, x1] (w :: st) h = (w.category = 1 ∧ mw d 131 Q 27 [x0, x1] (st) h) := (mw_at mj_131_26).trans (z_pop)
theorem mj_131_27 : mc_P 131 27 = some (.aload_n 0, 1, 0, 0, 0) := by decide +kernel
theorem s_131_27 {x1 : Option Value} {w : Value} : mw d 131 Q 27 [some w, x1] (st) h = mv_a w (mw d 131 Q 28 [some w, x1] (w :: st) h) := (mw_at mj_131_27).trans (z_aload_n rfl)
theorem mj_131_28 : mc_P 131 28 = some (.getfield 33, 3, 7, 10, 0) := by decide +kernel
theorem s_131_28 {x0 x1 : Option Value} {o : Nat} : mw d 131 Q 28 [x0, x1] (.ref o :: st) h = (mg h o 7 ∧ mw d 131 Q 31 [x0, x1] (va_rf (mh_r h o 10) :: st) h) := (mw_at mj_131_28).trans (z_getr (by decide) (by decide) rfl)
theorem mj_131_31 : mc_P 131 31 = some (.iload_n 1, 1, 0, 0, 0) := by decide +kernel
theorem s_131_31 {x0 : Option Value} {w : Value} : mw d 131 Q 31 [x0, some w] (st) h = mv_i w (mw d 131 Q 32 [x0, some w] (w :: st) h) := (mw_at mj_131_31).trans (z_iload_n rfl)
theorem mj_131_32 : mc_P 131 32 = some (.aload_n 0, 1, 0, 0, 0) := by decide +kernel
theorem s_131_32 {x1 : Option Value} {w : Value} : mw d 131 Q 32 [some w, x1] (st) h = mv_a w (mw d 131 Q 33 [some w, x1] (w :: st) h) := (mw_at mj_131_32).trans (z_aload_n rfl)
theorem mj_131_33 : mc_P 131 33 = some (.getfield 59, 3, 7, 11, 0) := by decide +kernel
theorem s_131_33 {x0 x1 : Option Value} {o : Nat} : mw d 131 Q 33 [x0, x1] (.ref o :: st) h = (mg h o 7 ∧ mw d 131 Q 36 [x0, x1] (.int (mh_i h o 11) :: st) h) := (mw_at mj_131_33).trans (z_geti (by decide) (by decide) (Or.inl rfl))
theorem mj_131_36 : mc_P 131 36 = some (.iastore, 1, 0, 0, 0) := by decide +kernel
theorem s_131_36 {x0 x1 : Option Value} {o : Nat} {i w : Int32} : mw d 131 Q 36 [x0, x1] (.int w :: .int i :: .ref o :: st) h = (mg h o 100 ∧ mx i (mh_l h o) ∧ mw d 131 Q 37 [x0, x1] (st) (mh_si h o i.toNatClampNeg w)) := (mw_at mj_131_36).trans (z_iast)
theorem mj_131_37 : mc_P 131 37 = some (.return_, 1, 0, 0, 0) := by decide +kernel
theorem s_131_37 {x0 x1 : Option Value} : mw d 131 Q 37 [x0, x1] ([]) h = Q none h := (mw_at mj_131_37).trans (z_vret)
theorem e_131 {a0 : Nat} {a1 : Int32} : mcall d 131 [.ref a0, .int a1] h Q = mw d 131 Q 0 [some (.ref a0), some (.int a1)] [] h := by
  show mw d 131 Q 0 (me_en (mc_nl 131) _) [] h = _
  rw [nl_131]; rfl

/-! InvariantDesk$Source.addStatement(IIII)LInvariantDesk$Statement; -/
theorem mj_132_0 : mc_P 132 0 = some (.new 36, 3, 9, 0, 0) := by decide +kernel
theorem s_132_0 {x0 x1 x2 x3 x4 x5 : Option Value} : mw d 132 Q 0 [x0, x1, x2, x3, x4, x5] (st) h = mw d 132 Q 3 [x0, x1, x2, x3, x4, x5] (.ref (mh_n h) :: st) (mh_new h 9 17) := (mw_at mj_132_0).trans (z_new (by decide) rfl)
theorem mj_132_3 : mc_P 132 3 = some (.dup, 1, 0, 0, 0) := by decide +kernel
theorem s_132_3 {x0 x1 x2 x3 x4 x5 : Option Value} {w : Value} : mw d 132 Q 3 [x0, x1, x2, x3, x4, x5] (w :: st) h = (w.category = 1 ∧ mw d 132 Q 4 [x0, x1, x2, x3, x4, x5] (w :: w :: st) h) := (mw_at mj_132_3).trans (z_dup)
theorem mj_132_4 : mc_P 132 4 = some (.iload_n 1, 1, 0, 0, 0) := by decide +kernel
theorem s_132_4 {x0 x2 x3 x4 x5 : Option Value} {w : Value} : mw d 132 Q 4 [x0, some w, x2, x3, x4, x5] (st) h = mv_i w (mw d 132 Q 5 [x0, some w, x2, x3, x4, x5] (w :: st) h) := (mw_at mj_132_4).trans (z_iload_n rfl)
theorem mj_132_5 : mc_P 132 5 = some (.aload_n 0, 1, 0, 0, 0) := by decide +kernel
theorem s_132_5 {x1 x2 x3 x4 x5 : Option Value} {w : Value} : mw d 132 Q 5 [some w, x1, x2, x3, x4, x5] (st) h = mv_a w (mw d 132 Q 6 [some w, x1, x2, x3, x4, x5] (w :: st) h) := (mw_at mj_132_5).trans (z_aload_n rfl)
theorem mj_132_6 : mc_P 132 6 = some (.getfield 68, 3, 7, 13, 0) := by decide +kernel
theorem s_132_6 {x0 x1 x2 x3 x4 x5 : Option Value} {o : Nat} : mw d 132 Q 6 [x0, x1, x2, x3, x4, x5] (.ref o :: st) h = (mg h o 7 ∧ mw d 132 Q 9 [x0, x1, x2, x3, x4, x5] (.int (mh_i h o 13) :: st) h) := (mw_at mj_132_6).trans (z_geti (by decide) (by decide) (Or.inl rfl))
theorem mj_132_9 : mc_P 132 9 = some (.iload_n 2, 1, 0, 0, 0) := by decide +kernel
theorem s_132_9 {x0 x1 x3 x4 x5 : Option Value} {w : Value} : mw d 132 Q 9 [x0, x1, some w, x3, x4, x5] (st) h = mv_i w (mw d 132 Q 10 [x0, x1, some w, x3, x4, x5] (w :: st) h) := (mw_at mj_132_9).trans (z_iload_n rfl)
theorem mj_132_10 : mc_P 132 10 = some (.iload_n 3, 1, 0, 0, 0) := by decide +kernel
theorem s_132_10 {x0 x1 x2 x4 x5 : Option Value} {w : Value} : mw d 132 Q 10 [x0, x1, x2, some w, x4, x5] (st) h = mv_i w (mw d 132 Q 11 [x0, x1, x2, some w, x4, x5] (w :: st) h) := (mw_at mj_132_10).trans (z_iload_n rfl)
theorem mj_132_11 : mc_P 132 11 = some (.iload 4, 2, 0, 0, 0) := by decide +kernel
theorem s_132_11 {x0 x1 x2 x3 x5 : Option Value} {w : Value} : mw d 132 Q 11 [x0, x1, x2, x3, some w, x5] (st) h = mv_i w (mw d 132 Q 13 [x0, x1, x2, x3, some w, x5] (w :: st) h) := (mw_at mj_132_11).trans (z_iload rfl)
theorem mj_132_13 : mc_P 132 13 = some (.invokespecial 71, 3, 164, 0, 6) := by decide +kernel
theorem s_132_13 {x0 x1 x2 x3 x4 x5 : Option Value} {o : Nat} {a1 a2 a3 a4 a5 : Value} : mw (d + 1) 132 Q 13 [x0, x1, x2, x3, x4, x5] (a5 :: a4 :: a3 :: a2 :: a1 :: .ref o :: st) h = (mca st 8 ∧ mca [.ref o, a1, a2, a3, a4, a5] 6 ∧ mcall d 164 [.ref o, a1, a2, a3, a4, a5] h (mK (d + 1) 132 Q 16 [x0, x1, x2, x3, x4, x5] st)) := (mw_at mj_132_13).trans ((z_invsp (As := [a1, a2, a3, a4, a5]) (by decide) rfl rfl).trans (congrArg (And _) (mC_nl nl_164)))
theorem mj_132_16 : mc_P 132 16 = some (.astore 5, 2, 0, 0, 0) := by decide +kernel
theorem s_132_16 {x0 x1 x2 x3 x4 x5 : Option Value} {w : Nat} : mw d 132 Q 16 [x0, x1, x2, x3, x4, x5] (.ref w :: st) h = mw d 132 Q 18 [x0, x1, x2, x3, mk2 x4, some (.ref w)] (st) h := (mw_at mj_132_16).trans (z_astore (Nat.le_of_ble_eq_true rfl) (me_s1_mk (j := 4) (w := x4) rfl))
theorem s_132_16n {x0 x1 x2 x3 x4 x5 : Option Value} : mw d 132 Q 16 [x0, x1, x2, x3, x4, x5] (.null :: st) h = mw d 132 Q 18 [x0, x1, x2, x3, mk2 x4, some (.null)] (st) h := (mw_at mj_132_16).trans (z_astoreN (Nat.le_of_ble_eq_true rfl) (me_s1_mk (j := 4) (w := x4) rfl))
theorem mj_132_18 : mc_P 132 18 = some (.aload 5, 2, 0, 0, 0) := by decide +kernel
theorem s_132_18 {x0 x1 x2 x3 x4 : Option Value} {w : Value} : mw d 132 Q 18 [x0, x1, x2, x3, x4, some w] (st) h = mv_a w (mw d 132 Q 20 [x0, x1, x2, x3, x4, some w] (w :: st) h) := (mw_at mj_132_18).trans (z_aload rfl)
theorem mj_132_20 : mc_P 132 20 = some (.aload_n 0, 1, 0, 0, 0) := by decide +kernel
theorem s_132_20 {x1 x2 x3 x4 x5 : Option Value} {w : Value} : mw d 132 Q 20 [some w, x1, x2, x3, x4, x5] (st) h = mv_a w (mw d 132 Q 21 [some w, x1, x2, x3, x4, x5] (w :: st) h) := (mw_at mj_132_20).trans (z_aload_n rfl)
theorem mj_132_21 : mc_P 132 21 = some (.getfield 56, 3, 7, 8, 0) := by decide +kernel
theorem s_132_21 {x0 x1 x2 x3 x4 x5 : Option Value} {o : Nat} : mw d 132 Q 21 [x0, x1, x2, x3, x4, x5] (.ref o :: st) h = (mg h o 7 ∧ mw d 132 Q 24 [x0, x1, x2, x3, x4, x5] (.int (mh_i h o 8) :: st) h) := (mw_at mj_132_21).trans (z_geti (by decide) (by decide) (Or.inl rfl))
theorem mj_132_24 : mc_P 132 24 = some (.putfield 74, 3, 9, 10, 0) := by decide +kernel
theorem s_132_24 {x0 x1 x2 x3 x4 x5 : Option Value} {o : Nat} {w : Int32} : mw d 132 Q 24 [x0, x1, x2, x3, x4, x5] (.int w :: .ref o :: st) h = (mg h o 9 ∧ mw d 132 Q 27 [x0, x1, x2, x3, x4, x5] (st) (mh_si h o 10 w)) := (mw_at mj_132_24).trans (z_puti (by decide) (by decide) rfl)
theorem mj_132_27 : mc_P 132 27 = some (.aload 5, 2, 0, 0, 0) := by decide +kernel
theorem s_132_27 {x0 x1 x2 x3 x4 : Option Value} {w : Value} : mw d 132 Q 27 [x0, x1, x2, x3, x4, some w] (st) h = mv_a w (mw d 132 Q 29 [x0, x1, x2, x3, x4, some w] (w :: st) h) := (mw_at mj_132_27).trans (z_aload rfl)
theorem mj_132_29 : mc_P 132 29 = some (.aload_n 0, 1, 0, 0, 0) := by decide +kernel
theorem s_132_29 {x1 x2 x3 x4 x5 : Option Value} {w : Value} : mw d 132 Q 29 [some w, x1, x2, x3, x4, x5] (st) h = mv_a w (mw d 132 Q 30 [some w, x1, x2, x3, x4, x5] (w :: st) h) := (mw_at mj_132_29).trans (z_aload_n rfl)
theorem mj_132_30 : mc_P 132 30 = some (.getfield 59, 3, 7, 11, 0) := by decide +kernel
theorem s_132_30 {x0 x1 x2 x3 x4 x5 : Option Value} {o : Nat} : mw d 132 Q 30 [x0, x1, x2, x3, x4, x5] (.ref o :: st) h = (mg h o 7 ∧ mw d 132 Q 33 [x0, x1, x2, x3, x4, x5] (.int (mh_i h o 11) :: st) h) := (mw_at mj_132_30).trans (z_geti (by decide) (by decide) (Or.inl rfl))
theorem mj_132_33 : mc_P 132 33 = some (.putfield 77, 3, 9, 12, 0) := by decide +kernel
theorem s_132_33 {x0 x1 x2 x3 x4 x5 : Option Value} {o : Nat} {w : Int32} : mw d 132 Q 33 [x0, x1, x2, x3, x4, x5] (.int w :: .ref o :: st) h = (mg h o 9 ∧ mw d 132 Q 36 [x0, x1, x2, x3, x4, x5] (st) (mh_si h o 12 w)) := (mw_at mj_132_33).trans (z_puti (by decide) (by decide) rfl)
theorem mj_132_36 : mc_P 132 36 = some (.aload_n 0, 1, 0, 0, 0) := by decide +kernel
theorem s_132_36 {x1 x2 x3 x4 x5 : Option Value} {w : Value} : mw d 132 Q 36 [some w, x1, x2, x3, x4, x5] (st) h = mv_a w (mw d 132 Q 37 [some w, x1, x2, x3, x4, x5] (w :: st) h) := (mw_at mj_132_36).trans (z_aload_n rfl)
theorem mj_132_37 : mc_P 132 37 = some (.getfield 38, 3, 7, 12, 0) := by decide +kernel
theorem s_132_37 {x0 x1 x2 x3 x4 x5 : Option Value} {o : Nat} : mw d 132 Q 37 [x0, x1, x2, x3, x4, x5] (.ref o :: st) h = (mg h o 7 ∧ mw d 132 Q 40 [x0, x1, x2, x3, x4, x5] (va_rf (mh_r h o 12) :: st) h) := (mw_at mj_132_37).trans (z_getr (by decide) (by decide) rfl)
theorem mj_132_40 : mc_P 132 40 = some (.aload_n 0, 1, 0, 0, 0) := by decide +kernel
theorem s_132_40 {x1 x2 x3 x4 x5 : Option Value} {w : Value} : mw d 132 Q 40 [some w, x1, x2, x3, x4, x5] (st) h = mv_a w (mw d 132 Q 41 [some w, x1, x2, x3, x4, x5] (w :: st) h) := (mw_at mj_132_40).trans (z_aload_n rfl)
theorem mj_132_41 : mc_P 132 41 = some (.getfield 68, 3, 7, 13, 0) := by decide +kernel
theorem s_132_41 {x0 x1 x2 x3 x4 x5 : Option Value} {o : Nat} : mw d 132 Q 41 [x0, x1, x2, x3, x4, x5] (.ref o :: st) h = (mg h o 7 ∧ mw d 132 Q 44 [x0, x1, x2, x3, x4, x5] (.int (mh_i h o 13) :: st) h) := (mw_at mj_132_41).trans (z_geti (by decide) (by decide) (Or.inl rfl))
theorem mj_132_44 : mc_P 132 44 = some (.aload 5, 2, 0, 0, 0) := by decide +kernel
theorem s_132_44 {x0 x1 x2 x3 x4 : Option Value} {w : Value} : mw d 132 Q 44 [x0, x1, x2, x3, x4, some w] (st) h = mv_a w (mw d 132 Q 46 [x0, x1, x2, x3, x4, some w] (w :: st) h) := (mw_at mj_132_44).trans (z_aload rfl)
theorem mj_132_46 : mc_P 132 46 = some (.aastore, 1, 0, 0, 0) := by decide +kernel
theorem s_132_46 {x0 x1 x2 x3 x4 x5 : Option Value} {o w : Nat} {i : Int32} : mw d 132 Q 46 [x0, x1, x2, x3, x4, x5] (.ref w :: .int i :: .ref o :: st) h = (mgr h o ∧ mx i (mh_l h o) ∧ mh_k h o < 107 ∧ mg h w (me_ac (mh_k h o)) ∧ mw d 132 Q 47 [x0, x1, x2, x3, x4, x5] (st) (mh_sr h o i.toNatClampNeg (some w))) := (mw_at mj_132_46).trans (z_aast)
theorem s_132_46n {x0 x1 x2 x3 x4 x5 : Option Value} {o : Nat} {i : Int32} : mw d 132 Q 46 [x0, x1, x2, x3, x4, x5] (.null :: .int i :: .ref o :: st) h = (mgr h o ∧ mx i (mh_l h o) ∧ mh_k h o < 107 ∧ mw d 132 Q 47 [x0, x1, x2, x3, x4, x5] (st) (mh_sr h o i.toNatClampNeg none)) := (mw_at mj_132_46).trans (z_aastN)
theorem mj_132_47 : mc_P 132 47 = some (.aload_n 0, 1, 0, 0, 0) := by decide +kernel
theorem s_132_47 {x1 x2 x3 x4 x5 : Option Value} {w : Value} : mw d 132 Q 47 [some w, x1, x2, x3, x4, x5] (st) h = mv_a w (mw d 132 Q 48 [some w, x1, x2, x3, x4, x5] (w :: st) h) := (mw_at mj_132_47).trans (z_aload_n rfl)
theorem mj_132_48 : mc_P 132 48 = some (.dup, 1, 0, 0, 0) := by decide +kernel
theorem s_132_48 {x0 x1 x2 x3 x4 x5 : Option Value} {w : Value} : mw d 132 Q 48 [x0, x1, x2, x3, x4, x5] (w :: st) h = (w.category = 1 ∧ mw d 132 Q 49 [x0, x1, x2, x3, x4, x5] (w :: w :: st) h) := (mw_at mj_132_48).trans (z_dup)
theorem mj_132_49 : mc_P 132 49 = some (.getfield 68, 3, 7, 13, 0) := by decide +kernel
theorem s_132_49 {x0 x1 x2 x3 x4 x5 : Option Value} {o : Nat} : mw d 132 Q 49 [x0, x1, x2, x3, x4, x5] (.ref o :: st) h = (mg h o 7 ∧ mw d 132 Q 52 [x0, x1, x2, x3, x4, x5] (.int (mh_i h o 13) :: st) h) := (mw_at mj_132_49).trans (z_geti (by decide) (by decide) (Or.inl rfl))
theorem mj_132_52 : mc_P 132 52 = some (.iconst 1, 1, 0, 0, 0) := by decide +kernel
theorem s_132_52 {x0 x1 x2 x3 x4 x5 : Option Value} : mw d 132 Q 52 [x0, x1, x2, x3, x4, x5] (st) h = mw d 132 Q 53 [x0, x1, x2, x3, x4, x5] (.int 1 :: st) h := (mw_at mj_132_52).trans (z_iconst (by decide))
theorem mj_132_53 : mc_P 132 53 = some (.iadd, 1, 0, 0, 0) := by decide +kernel
theorem s_132_53 {x0 x1 x2 x3 x4 x5 : Option Value} {x w : Int32} : mw d 132 Q 53 [x0, x1, x2, x3, x4, x5] (.int w :: .int x :: st) h = mw d 132 Q 54 [x0, x1, x2, x3, x4, x5] (.int (x + w) :: st) h := (mw_at mj_132_53).trans (z_iadd)
theorem mj_132_54 : mc_P 132 54 = some (.putfield 68, 3, 7, 13, 0) := by decide +kernel
theorem s_132_54 {x0 x1 x2 x3 x4 x5 : Option Value} {o : Nat} {w : Int32} : mw d 132 Q 54 [x0, x1, x2, x3, x4, x5] (.int w :: .ref o :: st) h = (mg h o 7 ∧ mw d 132 Q 57 [x0, x1, x2, x3, x4, x5] (st) (mh_si h o 13 w)) := (mw_at mj_132_54).trans (z_puti (by decide) (by decide) rfl)
theorem mj_132_57 : mc_P 132 57 = some (.aload 5, 2, 0, 0, 0) := by decide +kernel
theorem s_132_57 {x0 x1 x2 x3 x4 : Option Value} {w : Value} : mw d 132 Q 57 [x0, x1, x2, x3, x4, some w] (st) h = mv_a w (mw d 132 Q 59 [x0, x1, x2, x3, x4, some w] (w :: st) h) := (mw_at mj_132_57).trans (z_aload rfl)
theorem mj_132_59 : mc_P 132 59 = some (.areturn, 1, 0, 0, 0) := by decide +kernel
theorem s_132_59 {x0 x1 x2 x3 x4 x5 : Option Value} {x : Nat} : mw d 132 Q 59 [x0, x1, x2, x3, x4, x5] ([.ref x]) h = Q (some (.ref x)) h := (mw_at mj_132_59).trans (z_aret)
theorem s_132_59n {x0 x1 x2 x3 x4 x5 : Option Value} : mw d 132 Q 59 [x0, x1, x2, x3, x4, x5] ([.null]) h = Q (some .null) h := (mw_at mj_132_59).trans (z_aretN)
theorem e_132 {a0 : Nat} {a1 : Int32} {a2 : Int32} {a3 : Int32} {a4 : Int32} : mcall d 132 [.ref a0, .int a1, .int a2, .int a3, .int a4] h Q = mw d 132 Q 0 [some (.ref a0), some (.int a1), some (.int a2), some (.int a3), some (.int a4), none] [] h := by
  show mw d 132 Q 0 (me_en (mc_nl 132) _) [] h = _
  rw [nl_132]; rfl

/-! InvariantDesk$Source.openFunction(I)V -/
theorem mj_133_0 : mc_P 133 0 = some (.bipush 6, 2, 0, 0, 0) := by decide +kernel
theorem s_133_0 {x0 x1 x2 : Option Value} : mw d 133 Q 0 [x0, x1, x2] (st) h = mw d 133 Q 2 [x0, x1, x2] (.int 6 :: st) h := (mw_at mj_133_0).trans (z_bipush (by decide))
theorem mj_133_2 : mc_P 133 2 = some (.aload_n 0, 1, 0, 0, 0) := by decide +kernel
theorem s_133_2 {x1 x2 : Option Value} {w : Value} : mw d 133 Q 2 [some w, x1, x2] (st) h = mv_a w (mw d 133 Q 3 [some w, x1, x2] (w :: st) h) := (mw_at mj_133_2).trans (z_aload_n rfl)
theorem mj_133_3 : mc_P 133 3 = some (.getfield 80, 3, 7, 15, 0) := by decide +kernel
theorem s_133_3 {x0 x1 x2 : Option Value} {o : Nat} : mw d 133 Q 3 [x0, x1, x2] (.ref o :: st) h = (mg h o 7 ∧ mw d 133 Q 6 [x0, x1, x2] (.int (mh_i h o 15) :: st) h) := (mw_at mj_133_3).trans (z_geti (by decide) (by decide) (Or.inl rfl))
theorem mj_133_6 : mc_P 133 6 = some (.imul, 1, 0, 0, 0) := by decide +kernel
theorem s_133_6 {x0 x1 x2 : Option Value} {x w : Int32} : mw d 133 Q 6 [x0, x1, x2] (.int w :: .int x :: st) h = mw d 133 Q 7 [x0, x1, x2] (.int (x * w) :: st) h := (mw_at mj_133_6).trans (z_imul)
theorem mj_133_7 : mc_P 133 7 = some (.istore_n 2, 1, 0, 0, 0) := by decide +kernel
theorem s_133_7 {x0 x1 x2 : Option Value} {w : Int32} : mw d 133 Q 7 [x0, x1, x2] (.int w :: st) h = mw d 133 Q 8 [x0, mk2 x1, some (.int w)] (st) h := (mw_at mj_133_7).trans (z_istore_n (Nat.le_of_ble_eq_true rfl) (me_s1_mk (j := 1) (w := x1) rfl))
theorem mj_133_8 : mc_P 133 8 = some (.aload_n 0, 1, 0, 0, 0) := by decide +kernel
theorem s_133_8 {x1 x2 : Option Value} {w : Value} : mw d 133 Q 8 [some w, x1, x2] (st) h = mv_a w (mw d 133 Q 9 [some w, x1, x2] (w :: st) h) := (mw_at mj_133_8).trans (z_aload_n rfl)
theorem mj_133_9 : mc_P 133 9 = some (.getfield 42, 3, 7, 14, 0) := by decide +kernel
theorem s_133_9 {x0 x1 x2 : Option Value} {o : Nat} : mw d 133 Q 9 [x0, x1, x2] (.ref o :: st) h = (mg h o 7 ∧ mw d 133 Q 12 [x0, x1, x2] (va_rf (mh_r h o 14) :: st) h) := (mw_at mj_133_9).trans (z_getr (by decide) (by decide) rfl)
theorem mj_133_12 : mc_P 133 12 = some (.iload_n 2, 1, 0, 0, 0) := by decide +kernel
theorem s_133_12 {x0 x1 : Option Value} {w : Value} : mw d 133 Q 12 [x0, x1, some w] (st) h = mv_i w (mw d 133 Q 13 [x0, x1, some w] (w :: st) h) := (mw_at mj_133_12).trans (z_iload_n rfl)
theorem mj_133_13 : mc_P 133 13 = some (.iconst 0, 1, 0, 0, 0) := by decide +kernel
theorem s_133_13 {x0 x1 x2 : Option Value} : mw d 133 Q 13 [x0, x1, x2] (st) h = mw d 133 Q 14 [x0, x1, x2] (.int 0 :: st) h := (mw_at mj_133_13).trans (z_iconst (by decide))
theorem mj_133_14 : mc_P 133 14 = some (.iadd, 1, 0, 0, 0) := by decide +kernel
theorem s_133_14 {x0 x1 x2 : Option Value} {x w : Int32} : mw d 133 Q 14 [x0, x1, x2] (.int w :: .int x :: st) h = mw d 133 Q 15 [x0, x1, x2] (.int (x + w) :: st) h := (mw_at mj_133_14).trans (z_iadd)
theorem mj_133_15 : mc_P 133 15 = some (.iload_n 1, 1, 0, 0, 0) := by decide +kernel
theorem s_133_15 {x0 x2 : Option Value} {w : Value} : mw d 133 Q 15 [x0, some w, x2] (st) h = mv_i w (mw d 133 Q 16 [x0, some w, x2] (w :: st) h) := (mw_at mj_133_15).trans (z_iload_n rfl)
theorem mj_133_16 : mc_P 133 16 = some (.iastore, 1, 0, 0, 0) := by decide +kernel
theorem s_133_16 {x0 x1 x2 : Option Value} {o : Nat} {i w : Int32} : mw d 133 Q 16 [x0, x1, x2] (.int w :: .int i :: .ref o :: st) h = (mg h o 100 ∧ mx i (mh_l h o) ∧ mw d 133 Q 17 [x0, x1, x2] (st) (mh_si h o i.toNatClampNeg w)) := (mw_at mj_133_16).trans (z_iast)
theorem mj_133_17 : mc_P 133 17 = some (.aload_n 0, 1, 0, 0, 0) := by decide +kernel
theorem s_133_17 {x1 x2 : Option Value} {w : Value} : mw d 133 Q 17 [some w, x1, x2] (st) h = mv_a w (mw d 133 Q 18 [some w, x1, x2] (w :: st) h) := (mw_at mj_133_17).trans (z_aload_n rfl)
theorem mj_133_18 : mc_P 133 18 = some (.getfield 42, 3, 7, 14, 0) := by decide +kernel
theorem s_133_18 {x0 x1 x2 : Option Value} {o : Nat} : mw d 133 Q 18 [x0, x1, x2] (.ref o :: st) h = (mg h o 7 ∧ mw d 133 Q 21 [x0, x1, x2] (va_rf (mh_r h o 14) :: st) h) := (mw_at mj_133_18).trans (z_getr (by decide) (by decide) rfl)
theorem mj_133_21 : mc_P 133 21 = some (.iload_n 2, 1, 0, 0, 0) := by decide +kernel
theorem s_133_21 {x0 x1 : Option Value} {w : Value} : mw d 133 Q 21 [x0, x1, some w] (st) h = mv_i w (mw d 133 Q 22 [x0, x1, some w] (w :: st) h) := (mw_at mj_133_21).trans (z_iload_n rfl)
theorem mj_133_22 : mc_P 133 22 = some (.iconst 1, 1, 0, 0, 0) := by decide +kernel
theorem s_133_22 {x0 x1 x2 : Option Value} : mw d 133 Q 22 [x0, x1, x2] (st) h = mw d 133 Q 23 [x0, x1, x2] (.int 1 :: st) h := (mw_at mj_133_22).trans (z_iconst (by decide))
theorem mj_133_23 : mc_P 133 23 = some (.iadd, 1, 0, 0, 0) := by decide +kernel
theorem s_133_23 {x0 x1 x2 : Option Value} {x w : Int32} : mw d 133 Q 23 [x0, x1, x2] (.int w :: .int x :: st) h = mw d 133 Q 24 [x0, x1, x2] (.int (x + w) :: st) h := (mw_at mj_133_23).trans (z_iadd)
theorem mj_133_24 : mc_P 133 24 = some (.iconst 0, 1, 0, 0, 0) := by decide +kernel
theorem s_133_24 {x0 x1 x2 : Option Value} : mw d 133 Q 24 [x0, x1, x2] (st) h = mw d 133 Q 25 [x0, x1, x2] (.int 0 :: st) h := (mw_at mj_133_24).trans (z_iconst (by decide))
theorem mj_133_25 : mc_P 133 25 = some (.iastore, 1, 0, 0, 0) := by decide +kernel
theorem s_133_25 {x0 x1 x2 : Option Value} {o : Nat} {i w : Int32} : mw d 133 Q 25 [x0, x1, x2] (.int w :: .int i :: .ref o :: st) h = (mg h o 100 ∧ mx i (mh_l h o) ∧ mw d 133 Q 26 [x0, x1, x2] (st) (mh_si h o i.toNatClampNeg w)) := (mw_at mj_133_25).trans (z_iast)
theorem mj_133_26 : mc_P 133 26 = some (.aload_n 0, 1, 0, 0, 0) := by decide +kernel
theorem s_133_26 {x1 x2 : Option Value} {w : Value} : mw d 133 Q 26 [some w, x1, x2] (st) h = mv_a w (mw d 133 Q 27 [some w, x1, x2] (w :: st) h) := (mw_at mj_133_26).trans (z_aload_n rfl)
theorem mj_133_27 : mc_P 133 27 = some (.getfield 42, 3, 7, 14, 0) := by decide +kernel
theorem s_133_27 {x0 x1 x2 : Option Value} {o : Nat} : mw d 133 Q 27 [x0, x1, x2] (.ref o :: st) h = (mg h o 7 ∧ mw d 133 Q 30 [x0, x1, x2] (va_rf (mh_r h o 14) :: st) h) := (mw_at mj_133_27).trans (z_getr (by decide) (by decide) rfl)
theorem mj_133_30 : mc_P 133 30 = some (.iload_n 2, 1, 0, 0, 0) := by decide +kernel
theorem s_133_30 {x0 x1 : Option Value} {w : Value} : mw d 133 Q 30 [x0, x1, some w] (st) h = mv_i w (mw d 133 Q 31 [x0, x1, some w] (w :: st) h) := (mw_at mj_133_30).trans (z_iload_n rfl)
theorem mj_133_31 : mc_P 133 31 = some (.iconst 2, 1, 0, 0, 0) := by decide +kernel
theorem s_133_31 {x0 x1 x2 : Option Value} : mw d 133 Q 31 [x0, x1, x2] (st) h = mw d 133 Q 32 [x0, x1, x2] (.int 2 :: st) h := (mw_at mj_133_31).trans (z_iconst (by decide))
theorem mj_133_32 : mc_P 133 32 = some (.iadd, 1, 0, 0, 0) := by decide +kernel
theorem s_133_32 {x0 x1 x2 : Option Value} {x w : Int32} : mw d 133 Q 32 [x0, x1, x2] (.int w :: .int x :: st) h = mw d 133 Q 33 [x0, x1, x2] (.int (x + w) :: st) h := (mw_at mj_133_32).trans (z_iadd)
theorem mj_133_33 : mc_P 133 33 = some (.iconst (-1), 1, 0, 0, 0) := by decide +kernel
theorem s_133_33 {x0 x1 x2 : Option Value} : mw d 133 Q 33 [x0, x1, x2] (st) h = mw d 133 Q 34 [x0, x1, x2] (.int (-1) :: st) h := (mw_at mj_133_33).trans (z_iconst (by decide))
theorem mj_133_34 : mc_P 133 34 = some (.iastore, 1, 0, 0, 0) := by decide +kernel
theorem s_133_34 {x0 x1 x2 : Option Value} {o : Nat} {i w : Int32} : mw d 133 Q 34 [x0, x1, x2] (.int w :: .int i :: .ref o :: st) h = (mg h o 100 ∧ mx i (mh_l h o) ∧ mw d 133 Q 35 [x0, x1, x2] (st) (mh_si h o i.toNatClampNeg w)) := (mw_at mj_133_34).trans (z_iast)
theorem mj_133_35 : mc_P 133 35 = some (.aload_n 0, 1, 0, 0, 0) := by decide +kernel
theorem s_133_35 {x1 x2 : Option Value} {w : Value} : mw d 133 Q 35 [some w, x1, x2] (st) h = mv_a w (mw d 133 Q 36 [some w, x1, x2] (w :: st) h) := (mw_at mj_133_35).trans (z_aload_n rfl)
theorem mj_133_36 : mc_P 133 36 = some (.getfield 42, 3, 7, 14, 0) := by decide +kernel
theorem s_133_36 {x0 x1 x2 : Option Value} {o : Nat} : mw d 133 Q 36 [x0, x1, x2] (.ref o :: st) h = (mg h o 7 ∧ mw d 133 Q 39 [x0, x1, x2] (va_rf (mh_r h o 14) :: st) h) := (mw_at mj_133_36).trans (z_getr (by decide) (by decide) rfl)
theorem mj_133_39 : mc_P 133 39 = some (.iload_n 2, 1, 0, 0, 0) := by decide +kernel
theorem s_133_39 {x0 x1 : Option Value} {w : Value} : mw d 133 Q 39 [x0, x1, some w] (st) h = mv_i w (mw d 133 Q 40 [x0, x1, some w] (w :: st) h) := (mw_at mj_133_39).trans (z_iload_n rfl)
theorem mj_133_40 : mc_P 133 40 = some (.iconst 3, 1, 0, 0, 0) := by decide +kernel
theorem s_133_40 {x0 x1 x2 : Option Value} : mw d 133 Q 40 [x0, x1, x2] (st) h = mw d 133 Q 41 [x0, x1, x2] (.int 3 :: st) h := (mw_at mj_133_40).trans (z_iconst (by decide))
theorem mj_133_41 : mc_P 133 41 = some (.iadd, 1, 0, 0, 0) := by decide +kernel
theorem s_133_41 {x0 x1 x2 : Option Value} {x w : Int32} : mw d 133 Q 41 [x0, x1, x2] (.int w :: .int x :: st) h = mw d 133 Q 42 [x0, x1, x2] (.int (x + w) :: st) h := (mw_at mj_133_41).trans (z_iadd)
theorem mj_133_42 : mc_P 133 42 = some (.aload_n 0, 1, 0, 0, 0) := by decide +kernel
theorem s_133_42 {x1 x2 : Option Value} {w : Value} : mw d 133 Q 42 [some w, x1, x2] (st) h = mv_a w (mw d 133 Q 43 [some w, x1, x2] (w :: st) h) := (mw_at mj_133_42).trans (z_aload_n rfl)
theorem mj_133_43 : mc_P 133 43 = some (.getfield 68, 3, 7, 13, 0) := by decide +kernel
theorem s_133_43 {x0 x1 x2 : Option Value} {o : Nat} : mw d 133 Q 43 [x0, x1, x2] (.ref o :: st) h = (mg h o 7 ∧ mw d 133 Q 46 [x0, x1, x2] (.int (mh_i h o 13) :: st) h) := (mw_at mj_133_43).trans (z_geti (by decide) (by decide) (Or.inl rfl))
theorem mj_133_46 : mc_P 133 46 = some (.iastore, 1, 0, 0, 0) := by decide +kernel
theorem s_133_46 {x0 x1 x2 : Option Value} {o : Nat} {i w : Int32} : mw d 133 Q 46 [x0, x1, x2] (.int w :: .int i :: .ref o :: st) h = (mg h o 100 ∧ mx i (mh_l h o) ∧ mw d 133 Q 47 [x0, x1, x2] (st) (mh_si h o i.toNatClampNeg w)) := (mw_at mj_133_46).trans (z_iast)
theorem mj_133_47 : mc_P 133 47 = some (.aload_n 0, 1, 0, 0, 0) := by decide +kernel
theorem s_133_47 {x1 x2 : Option Value} {w : Value} : mw d 133 Q 47 [some w, x1, x2] (st) h = mv_a w (mw d 133 Q 48 [some w, x1, x2] (w :: st) h) := (mw_at mj_133_47).trans (z_aload_n rfl)
theorem mj_133_48 : mc_P 133 48 = some (.getfield 42, 3, 7, 14, 0) := by decide +kernel
theorem s_133_48 {x0 x1 x2 : Option Value} {o : Nat} : mw d 133 Q 48 [x0, x1, x2] (.ref o :: st) h = (mg h o 7 ∧ mw d 133 Q 51 [x0, x1, x2] (va_rf (mh_r h o 14) :: st) h) := (mw_at mj_133_48).trans (z_getr (by decide) (by decide) rfl)
theorem mj_133_51 : mc_P 133 51 = some (.iload_n 2, 1, 0, 0, 0) := by decide +kernel
theorem s_133_51 {x0 x1 : Option Value} {w : Value} : mw d 133 Q 51 [x0, x1, some w] (st) h = mv_i w (mw d 133 Q 52 [x0, x1, some w] (w :: st) h) := (mw_at mj_133_51).trans (z_iload_n rfl)
theorem mj_133_52 : mc_P 133 52 = some (.iconst 5, 1, 0, 0, 0) := by decide +kernel
theorem s_133_52 {x0 x1 x2 : Option Value} : mw d 133 Q 52 [x0, x1, x2] (st) h = mw d 133 Q 53 [x0, x1, x2] (.int 5 :: st) h := (mw_at mj_133_52).trans (z_iconst (by decide))
theorem mj_133_53 : mc_P 133 53 = some (.iadd, 1, 0, 0, 0) := by decide +kernel
theorem s_133_53 {x0 x1 x2 : Option Value} {x w : Int32} : mw d 133 Q 53 [x0, x1, x2] (.int w :: .int x :: st) h = mw d 133 Q 54 [x0, x1, x2] (.int (x + w) :: st) h := (mw_at mj_133_53).trans (z_iadd)
theorem mj_133_54 : mc_P 133 54 = some (.iconst (-1), 1, 0, 0, 0) := by decide +kernel
theorem s_133_54 {x0 x1 x2 : Option Value} : mw d 133 Q 54 [x0, x1, x2] (st) h = mw d 133 Q 55 [x0, x1, x2] (.int (-1) :: st) h := (mw_at mj_133_54).trans (z_iconst (by decide))
theorem mj_133_55 : mc_P 133 55 = some (.iastore, 1, 0, 0, 0) := by decide +kernel
theorem s_133_55 {x0 x1 x2 : Option Value} {o : Nat} {i w : Int32} : mw d 133 Q 55 [x0, x1, x2] (.int w :: .int i :: .ref o :: st) h = (mg h o 100 ∧ mx i (mh_l h o) ∧ mw d 133 Q 56 [x0, x1, x2] (st) (mh_si h o i.toNatClampNeg w)) := (mw_at mj_133_55).trans (z_iast)
theorem mj_133_56 : mc_P 133 56 = some (.return_, 1, 0, 0, 0) := by decide +kernel
theorem s_133_56 {x0 x1 x2 : Option Value} : mw d 133 Q 56 [x0, x1, x2] ([]) h = Q none h := (mw_at mj_133_56).trans (z_vret)
theorem e_133 {a0 : Nat} {a1 : Int32} : mcall d 133 [.ref a0, .int a1] h Q = mw d 133 Q 0 [some (.ref a0), some (.int a1), none] [] h := by
  show mw d 133 Q 0 (me_en (mc_nl 133) _) [] h = _
  rw [nl_133]; rfl

/-! InvariantDesk$Source.countParameter(ZI)V -/
theorem mj_134_0 : mc_P 134 0 = some (.bipush 6, 2, 0, 0, 0) := by decide +kernel
theorem s_134_0 {x0 x1 x2 x3 : Option Value} : mw d 134 Q 0 [x0, x1, x2, x3] (st) h = mw d 134 Q 2 [x0, x1, x2, x3] (.int 6 :: st) h := (mw_at mj_134_0).trans (z_bipush (by decide))
theorem mj_134_2 : mc_P 134 2 = some (.aload_n 0, 1, 0, 0, 0) := by decide +kernel
theorem s_134_2 {x1 x2 x3 : Option Value} {w : Value} : mw d 134 Q 2 [some w, x1, x2, x3] (st) h = mv_a w (mw d 134 Q 3 [some w, x1, x2, x3] (w :: st) h) := (mw_at mj_134_2).trans (z_aload_n rfl)
theorem mj_134_3 : mc_P 134 3 = some (.getfield 80, 3, 7, 15, 0) := by decide +kernel
theorem s_134_3 {x0 x1 x2 x3 : Option Value} {o : Nat} : mw d 134 Q 3 [x0, x1, x2, x3] (.ref o :: st) h = (mg h o 7 ∧ mw d 134 Q 6 [x0, x1, x2, x3] (.int (mh_i h o 15) :: st) h) := (mw_at mj_134_3).trans (z_geti (by decide) (by decide) (Or.inl rfl))
theorem mj_134_6 : mc_P 134 6 = some (.imul, 1, 0, 0, 0) := by decide +kernel
theorem s_134_6 {x0 x1 x2 x3 : Option Value} {x w : Int32} : mw d 134 Q 6 [x0, x1, x2, x3] (.int w :: .int x :: st) h = mw d 134 Q 7 [x0, x1, x2, x3] (.int (x * w) :: st) h := (mw_at mj_134_6).trans (z_imul)
theorem mj_134_7 : mc_P 134 7 = some (.istore_n 3, 1, 0, 0, 0) := by decide +kernel
theorem s_134_7 {x0 x1 x2 x3 : Option Value} {w : Int32} : mw d 134 Q 7 [x0, x1, x2, x3] (.int w :: st) h = mw d 134 Q 8 [x0, x1, mk2 x2, some (.int w)] (st) h := (mw_at mj_134_7).trans (z_istore_n (Nat.le_of_ble_eq_true rfl) (me_s1_mk (j := 2) (w := x2) rfl))
theorem mj_134_8 : mc_P 134 8 = some (.aload_n 0, 1, 0, 0, 0) := by decide +kernel
theorem s_134_8 {x1 x2 x3 : Option Value} {w : Value} : mw d 134 Q 8 [some w, x1, x2, x3] (st) h = mv_a w (mw d 134 Q 9 [some w, x1, x2, x3] (w :: st) h) := (mw_at mj_134_8).trans (z_aload_n rfl)
theorem mj_134_9 : mc_P 134 9 = some (.getfield 42, 3, 7, 14, 0) := by decide +kernel
theorem s_134_9 {x0 x1 x2 x3 : Option Value} {o : Nat} : mw d 134 Q 9 [x0, x1, x2, x3] (.ref o :: st) h = (mg h o 7 ∧ mw d 134 Q 12 [x0, x1, x2, x3] (va_rf (mh_r h o 14) :: st) h) := (mw_at mj_134_9).trans (z_getr (by decide) (by decide) rfl)
theorem mj_134_12 : mc_P 134 12 = some (.iload_n 3, 1, 0, 0, 0) := by decide +kernel
theorem s_134_12 {x0 x1 x2 : Option Value} {w : Value} : mw d 134 Q 12 [x0, x1, x2, some w] (st) h = mv_i w (mw d 134 Q 13 [x0, x1, x2, some w] (w :: st) h) := (mw_at mj_134_12).trans (z_iload_n rfl)
theorem mj_134_13 : mc_P 134 13 = some (.iconst 1, 1, 0, 0, 0) := by decide +kernel
theorem s_134_13 {x0 x1 x2 x3 : Option Value} : mw d 134 Q 13 [x0, x1, x2, x3] (st) h = mw d 134 Q 14 [x0, x1, x2, x3] (.int 1 :: st) h := (mw_at mj_134_13).trans (z_iconst (by decide))
theorem mj_134_14 : mc_P 134 14 = some (.iadd, 1, 0, 0, 0) := by decide +kernel
theorem s_134_14 {x0 x1 x2 x3 : Option Value} {x w : Int32} : mw d 134 Q 14 [x0, x1, x2, x3] (.int w :: .int x :: st) h = mw d 134 Q 15 [x0, x1, x2, x3] (.int (x + w) :: st) h := (mw_at mj_134_14).trans (z_iadd)
theorem mj_134_15 : mc_P 134 15 = some (.dup2, 1, 0, 0, 0) := by decide +kernel
theorem s_134_15 {x0 x1 x2 x3 : Option Value} {x : Int32} {w : Value} : mw d 134 Q 15 [x0, x1, x2, x3] (.int x :: w :: st) h = (w.category = 1 ∧ mw d 134 Q 16 [x0, x1, x2, x3] (.int x :: w :: .int x :: w :: st) h) := (mw_at mj_134_15).trans (z_dup2)
theorem s_134_15l {x0 x1 x2 x3 : Option Value} {x : Int64} {w : Value} : mw d 134 Q 15 [x0, x1, x2, x3] (.long x :: w :: st) h = mw d 134 Q 16 [x0, x1, x2, x3] (.long x :: .long x :: w :: st) h := (mw_at mj_134_15).trans (z_dup2l)
theorem mj_134_16 : mc_P 134 16 = some (.iaload, 1, 0, 0, 0) := by decide +kernel
theorem s_134_16 {x0 x1 x2 x3 : Option Value} {o : Nat} {i : Int32} : mw d 134 Q 16 [x0, x1, x2, x3] (.int i :: .ref o :: st) h = (mg h o 100 ∧ mx i (mh_l h o) ∧ mw d 134 Q 17 [x0, x1, x2, x3] (.int (mh_i h o i.toNatClampNeg) :: st) h) := (mw_at mj_134_16).trans (z_iald)
theorem mj_134_17 : mc_P 134 17 = some (.iconst 1, 1, 0, 0, 0) := by decide +kernel
theorem s_134_17 {x0 x1 x2 x3 : Option Value} : mw d 134 Q 17 [x0, x1, x2, x3] (st) h = mw d 134 Q 18 [x0, x1, x2, x3] (.int 1 :: st) h := (mw_at mj_134_17).trans (z_iconst (by decide))
theorem mj_134_18 : mc_P 134 18 = some (.iadd, 1, 0, 0, 0) := by decide +kernel
theorem s_134_18 {x0 x1 x2 x3 : Option Value} {x w : Int32} : mw d 134 Q 18 [x0, x1, x2, x3] (.int w :: .int x :: st) h = mw d 134 Q 19 [x0, x1, x2, x3] (.int (x + w) :: st) h := (mw_at mj_134_18).trans (z_iadd)
theorem mj_134_19 : mc_P 134 19 = some (.iastore, 1, 0, 0, 0) := by decide +kernel
theorem s_134_19 {x0 x1 x2 x3 : Option Value} {o : Nat} {i w : Int32} : mw d 134 Q 19 [x0, x1, x2, x3] (.int w :: .int i :: .ref o :: st) h = (mg h o 100 ∧ mx i (mh_l h o) ∧ mw d 134 Q 20 [x0, x1, x2, x3] (st) (mh_si h o i.toNatClampNeg w)) := (mw_at mj_134_19).trans (z_iast)
theorem mj_134_20 : mc_P 134 20 = some (.iload_n 1, 1, 0, 0, 0) := by decide +kernel
theorem s_134_20 {x0 x2 x3 : Option Value} {w : Value} : mw d 134 Q 20 [x0, some w, x2, x3] (st) h = mv_i w (mw d 134 Q 21 [x0, some w, x2, x3] (w :: st) h) := (mw_at mj_134_20).trans (z_iload_n rfl)
theorem mj_134_21 : mc_P 134 21 = some (.ifCond .eq 24, 3, 0, 0, 0) := by decide +kernel
theorem s_134_21 {x0 x1 x2 x3 : Option Value} {x : Int32} : mw d 134 Q 21 [x0, x1, x2, x3] (.int x :: st) h = mB (x = 0) (mw d 134 Q) 45 24 [x0, x1, x2, x3] st h := (mw_at mj_134_21).trans (z_if_eq (by decide) rfl)
theorem mj_134_24 : mc_P 134 24 = some (.aload_n 0, 1, 0, 0, 0) := by decide +kernel
theorem s_134_24 {x1 x2 x3 : Option Value} {w : Value} : mw d 134 Q 24 [some w, x1, x2, x3] (st) h = mv_a w (mw d 134 Q 25 [some w, x1, x2, x3] (w :: st) h) := (mw_at mj_134_24).trans (z_aload_n rfl)
theorem mj_134_25 : mc_P 134 25 = some (.getfield 42, 3, 7, 14, 0) := by decide +kernel
theorem s_134_25 {x0 x1 x2 x3 : Option Value} {o : Nat} : mw d 134 Q 25 [x0, x1, x2, x3] (.ref o :: st) h = (mg h o 7 ∧ mw d 134 Q 28 [x0, x1, x2, x3] (va_rf (mh_r h o 14) :: st) h) := (mw_at mj_134_25).trans (z_getr (by decide) (by decide) rfl)
theorem mj_134_28 : mc_P 134 28 = some (.iload_n 3, 1, 0, 0, 0) := by decide +kernel
theorem s_134_28 {x0 x1 x2 : Option Value} {w : Value} : mw d 134 Q 28 [x0, x1, x2, some w] (st) h = mv_i w (mw d 134 Q 29 [x0, x1, x2, some w] (w :: st) h) := (mw_at mj_134_28).trans (z_iload_n rfl)
theorem mj_134_29 : mc_P 134 29 = some (.iconst 2, 1, 0, 0, 0) := by decide +kernel
theorem s_134_29 {x0 x1 x2 x3 : Option Value} : mw d 134 Q 29 [x0, x1, x2, x3] (st) h = mw d 134 Q 30 [x0, x1, x2, x3] (.int 2 :: st) h := (mw_at mj_134_29).trans (z_iconst (by decide))
theorem mj_134_30 : mc_P 134 30 = some (.iadd, 1, 0, 0, 0) := by decide +kernel
theorem s_134_30 {x0 x1 x2 x3 : Option Value} {x w : Int32} : mw d 134 Q 30 [x0, x1, x2, x3] (.int w :: .int x :: st) h = mw d 134 Q 31 [x0, x1, x2, x3] (.int (x + w) :: st) h := (mw_at mj_134_30).trans (z_iadd)
theorem mj_134_31 : mc_P 134 31 = some (.iaload, 1, 0, 0, 0) := by decide +kernel
theorem s_134_31 {x0 x1 x2 x3 : Option Value} {o : Nat} {i : Int32} : mw d 134 Q 31 [x0, x1, x2, x3] (.int i :: .ref o :: st) h = (mg h o 100 ∧ mx i (mh_l h o) ∧ mw d 134 Q 32 [x0, x1, x2, x3] (.int (mh_i h o i.toNatClampNeg) :: st) h) := (mw_at mj_134_31).trans (z_iald)
theorem mj_134_32 : mc_P 134 32 = some (.iconst (-1), 1, 0, 0, 0) := by decide +kernel
theorem s_134_32 {x0 x1 x2 x3 : Option Value} : mw d 134 Q 32 [x0, x1, x2, x3] (st) h = mw d 134 Q 33 [x0, x1, x2, x3] (.int (-1) :: st) h := (mw_at mj_134_32).trans (z_iconst (by decide))
theorem mj_134_33 : mc_P 134 33 = some (.if_icmp .ne 12, 3, 0, 0, 0) := by decide +kernel
theorem s_134_33 {x0 x1 x2 x3 : Option Value} {x w : Int32} : mw d 134 Q 33 [x0, x1, x2, x3] (.int w :: .int x :: st) h = mB (¬ x = w) (mw d 134 Q) 45 36 [x0, x1, x2, x3] st h := (mw_at mj_134_33).trans (z_icmp_ne (by decide) rfl)
theorem mj_134_36 : mc_P 134 36 = some (.aload_n 0, 1, 0, 0, 0) := by decide +kernel
theorem s_134_36 {x1 x2 x3 : Option Value} {w : Value} : mw d 134 Q 36 [some w, x1, x2, x3] (st) h = mv_a w (mw d 134 Q 37 [some w, x1, x2, x3] (w :: st) h) := (mw_at mj_134_36).trans (z_aload_n rfl)
theorem mj_134_37 : mc_P 134 37 = some (.getfield 42, 3, 7, 14, 0) := by decide +kernel
theorem s_134_37 {x0 x1 x2 x3 : Option Value} {o : Nat} : mw d 134 Q 37 [x0, x1, x2, x3] (.ref o :: st) h = (mg h o 7 ∧ mw d 134 Q 40 [x0, x1, x2, x3] (va_rf (mh_r h o 14) :: st) h) := (mw_at mj_134_37).trans (z_getr (by decide) (by decide) rfl)
theorem mj_134_40 : mc_P 134 40 = some (.iload_n 3, 1, 0, 0, 0) := by decide +kernel
theorem s_134_40 {x0 x1 x2 : Option Value} {w : Value} : mw d 134 Q 40 [x0, x1, x2, some w] (st) h = mv_i w (mw d 134 Q 41 [x0, x1, x2, some w] (w :: st) h) := (mw_at mj_134_40).trans (z_iload_n rfl)
theorem mj_134_41 : mc_P 134 41 = some (.iconst 2, 1, 0, 0, 0) := by decide +kernel
theorem s_134_41 {x0 x1 x2 x3 : Option Value} : mw d 134 Q 41 [x0, x1, x2, x3] (st) h = mw d 134 Q 42 [x0, x1, x2, x3] (.int 2 :: st) h := (mw_at mj_134_41).trans (z_iconst (by decide))
theorem mj_134_42 : mc_P 134 42 = some (.iadd, 1, 0, 0, 0) := by decide +kernel
theorem s_134_42 {x0 x1 x2 x3 : Option Value} {x w : Int32} : mw d 134 Q 42 [x0, x1, x2, x3] (.int w :: .int x :: st) h = mw d 134 Q 43 [x0, x1, x2, x3] (.int (x + w) :: st) h := (mw_at mj_134_42).trans (z_iadd)
theorem mj_134_43 : mc_P 134 43 = some (.iload_n 2, 1, 0, 0, 0) := by decide +kernel
theorem s_134_43 {x0 x1 x3 : Option Value} {w : Value} : mw d 134 Q 43 [x0, x1, some w, x3] (st) h = mv_i w (mw d 134 Q 44 [x0, x1, some w, x3] (w :: st) h) := (mw_at mj_134_43).trans (z_iload_n rfl)
theorem mj_134_44 : mc_P 134 44 = some (.iastore, 1, 0, 0, 0) := by decide +kernel
theorem s_134_44 {x0 x1 x2 x3 : Option Value} {o : Nat} {i w : Int32} : mw d 134 Q 44 [x0, x1, x2, x3] (.int w :: .int i :: .ref o :: st) h = (mg h o 100 ∧ mx i (mh_l h o) ∧ mw d 134 Q 45 [x0, x1, x2, x3] (st) (mh_si h o i.toNatClampNeg w)) := (mw_at mj_134_44).trans (z_iast)
theorem mj_134_45 : mc_P 134 45 = some (.return_, 1, 0, 0, 0) := by decide +kernel
theorem s_134_45 {x0 x1 x2 x3 : Option Value} : mw d 134 Q 45 [x0, x1, x2, x3] ([]) h = Q none h := (mw_at mj_134_45).trans (z_vret)
theorem e_134 {a0 : Nat} {a1 : Int32} {a2 : Int32} : mcall d 134 [.ref a0, .int a1, .int a2] h Q = mw d 134 Q 0 [some (.ref a0), some (.int a1), some (.int a2), none] [] h := by
  show mw d 134 Q 0 (me_en (mc_nl 134) _) [] h = _
  rw [nl_134]; rfl

/-! InvariantDesk$Source.giveBy(I)V -/
theorem mj_135_0 : mc_P 135 0 = some (.aload_n 0, 1, 0, 0, 0) := by decide +kernel
theorem s_135_0 {x1 : Option Value} {w : Value} : mw d 135 Q 0 [some w, x1] (st) h = mv_a w (mw d 135 Q 1 [some w, x1] (w :: st) h) := (mw_at mj_135_0).trans (z_aload_n rfl)
theorem mj_135_1 : mc_P 135 1 = some (.getfield 42, 3, 7, 14, 0) := by decide +kernel
theorem s_135_1 {x0 x1 : Option Value} {o : Nat} : mw d 135 Q 1 [x0, x1] (.ref o :: st) h = (mg h o 7 ∧ mw d 135 Q 4 [x0, x1] (va_rf (mh_r h o 14) :: st) h) := (mw_at mj_135_1).trans (z_getr (by decide) (by decide) rfl)
theorem mj_135_4 : mc_P 135 4 = some (.bipush 6, 2, 0, 0, 0) := by decide +kernel
theorem s_135_4 {x0 x1 : Option Value} : mw d 135 Q 4 [x0, x1] (st) h = mw d 135 Q 6 [x0, x1] (.int 6 :: st) h := (mw_at mj_135_4).trans (z_bipush (by decide))
theorem mj_135_6 : mc_P 135 6 = some (.aload_n 0, 1, 0, 0, 0) := by decide +kernel
theorem s_135_6 {x1 : Option Value} {w : Value} : mw d 135 Q 6 [some w, x1] (st) h = mv_a w (mw d 135 Q 7 [some w, x1] (w :: st) h) := (mw_at mj_135_6).trans (z_aload_n rfl)
theorem mj_135_7 : mc_P 135 7 = some (.getfield 80, 3, 7, 15, 0) := by decide +kernel
theorem s_135_7 {x0 x1 : Option Value} {o : Nat} : mw d 135 Q 7 [x0, x1] (.ref o :: st) h = (mg h o 7 ∧ mw d 135 Q 10 [x0, x1] (.int (mh_i h o 15) :: st) h) := (mw_at mj_135_7).trans (z_geti (by decide) (by decide) (Or.inl rfl))
theorem mj_135_10 : mc_P 135 10 = some (.imul, 1, 0, 0, 0) := by decide +kernel
theorem s_135_10 {x0 x1 : Option Value} {x w : Int32} : mw d 135 Q 10 [x0, x1] (.int w :: .int x :: st) h = mw d 135 Q 11 [x0, x1] (.int (x * w) :: st) h := (mw_at mj_135_10).trans (z_imul)
theorem mj_135_11 : mc_P 135 11 = some (.iconst 5, 1, 0, 0, 0) := by decide +kernel
theorem s_135_11 {x0 x1 : Option Value} : mw d 135 Q 11 [x0, x1] (st) h = mw d 135 Q 12 [x0, x1] (.int 5 :: st) h := (mw_at mj_135_11).trans (z_iconst (by decide))
theorem mj_135_12 : mc_P 135 12 = some (.iadd, 1, 0, 0, 0) := by decide +kernel
theorem s_135_12 {x0 x1 : Option Value} {x w : Int32} : mw d 135 Q 12 [x0, x1] (.int w :: .int x :: st) h = mw d 135 Q 13 [x0, x1] (.int (x + w) :: st) h := (mw_at mj_135_12).trans (z_iadd)
theorem mj_135_13 : mc_P 135 13 = some (.iload_n 1, 1, 0, 0, 0) := by decide +kernel
theorem s_135_13 {x0 : Option Value} {w : Value} : mw d 135 Q 13 [x0, some w] (st) h = mv_i w (mw d 135 Q 14 [x0, some w] (w :: st) h) := (mw_at mj_135_13).trans (z_iload_n rfl)
theorem mj_135_14 : mc_P 135 14 = some (.iastore, 1, 0, 0, 0) := by decide +kernel
theorem s_135_14 {x0 x1 : Option Value} {o : Nat} {i w : Int32} : mw d 135 Q 14 [x0, x1] (.int w :: .int i :: .ref o :: st) h = (mg h o 100 ∧ mx i (mh_l h o) ∧ mw d 135 Q 15 [x0, x1] (st) (mh_si h o i.toNatClampNeg w)) := (mw_at mj_135_14).trans (z_iast)
theorem mj_135_15 : mc_P 135 15 = some (.return_, 1, 0, 0, 0) := by decide +kernel
theorem s_135_15 {x0 x1 : Option Value} : mw d 135 Q 15 [x0, x1] ([]) h = Q none h := (mw_at mj_135_15).trans (z_vret)
theorem e_135 {a0 : Nat} {a1 : Int32} : mcall d 135 [.ref a0, .int a1] h Q = mw d 135 Q 0 [some (.ref a0), some (.int a1)] [] h := by
  show mw d 135 Q 0 (me_en (mc_nl 135) _) [] h = _
  rw [nl_135]; rfl

/-! InvariantDesk$Source.closeFunction()V -/
theorem mj_136_0 : mc_P 136 0 = some (.aload_n 0, 1, 0, 0, 0) := by decide +kernel
theorem s_136_0 {w : Value} : mw d 136 Q 0 [some w] (st) h = mv_a w (mw d 136 Q 1 [some w] (w :: st) h) := (mw_at mj_136_0).trans (z_aload_n rfl)
theorem mj_136_1 : mc_P 136 1 = some (.getfield 42, 3, 7, 14, 0) := by decide +kernel
theorem s_136_1 {x0 : Option Value} {o : Nat} : mw d 136 Q 1 [x0] (.ref o :: st) h = (mg h o 7 ∧ mw d 136 Q 4 [x0] (va_rf (mh_r h o 14) :: st) h) := (mw_at mj_136_1).trans (z_getr (by decide) (by decide) rfl)
theorem mj_136_4 : mc_P 136 4 = some (.bipush 6, 2, 0, 0, 0) := by decide +kernel
theorem s_136_4 {x0 : Option Value} : mw d 136 Q 4 [x0] (st) h = mw d 136 Q 6 [x0] (.int 6 :: st) h := (mw_at mj_136_4).trans (z_bipush (by decide))
theorem mj_136_6 : mc_P 136 6 = some (.aload_n 0, 1, 0, 0, 0) := by decide +kernel
theorem s_136_6 {w : Value} : mw d 136 Q 6 [some w] (st) h = mv_a w (mw d 136 Q 7 [some w] (w :: st) h) := (mw_at mj_136_6).trans (z_aload_n rfl)
theorem mj_136_7 : mc_P 136 7 = some (.getfield 80, 3, 7, 15, 0) := by decide +kernel
theorem s_136_7 {x0 : Option Value} {o : Nat} : mw d 136 Q 7 [x0] (.ref o :: st) h = (mg h o 7 ∧ mw d 136 Q 10 [x0] (.int (mh_i h o 15) :: st) h) := (mw_at mj_136_7).trans (z_geti (by decide) (by decide) (Or.inl rfl))
theorem mj_136_10 : mc_P 136 10 = some (.imul, 1, 0, 0, 0) := by decide +kernel
theorem s_136_10 {x0 : Option Value} {x w : Int32} : mw d 136 Q 10 [x0] (.int w :: .int x :: st) h = mw d 136 Q 11 [x0] (.int (x * w) :: st) h := (mw_at mj_136_10).trans (z_imul)
theorem mj_136_11 : mc_P 136 11 = some (.iconst 4, 1, 0, 0, 0) := by decide +kernel
theorem s_136_11 {x0 : Option Value} : mw d 136 Q 11 [x0] (st) h = mw d 136 Q 12 [x0] (.int 4 :: st) h := (mw_at mj_136_11).trans (z_iconst (by decide))
theorem mj_136_12 : mc_P 136 12 = some (.iadd, 1, 0, 0, 0) := by decide +kernel
theorem s_136_12 {x0 : Option Value} {x w : Int32} : mw d 136 Q 12 [x0] (.int w :: .int x :: st) h = mw d 136 Q 13 [x0] (.int (x + w) :: st) h := (mw_at mj_136_12).trans (z_iadd)
theorem mj_136_13 : mc_P 136 13 = some (.aload_n 0, 1, 0, 0, 0) := by decide +kernel
theorem s_136_13 {w : Value} : mw d 136 Q 13 [some w] (st) h = mv_a w (mw d 136 Q 14 [some w] (w :: st) h) := (mw_at mj_136_13).trans (z_aload_n rfl)
theorem mj_136_14 : mc_P 136 14 = some (.getfield 68, 3, 7, 13, 0) := by decide +kernel
theorem s_136_14 {x0 : Option Value} {o : Nat} : mw d 136 Q 14 [x0] (.ref o :: st) h = (mg h o 7 ∧ mw d 136 Q 17 [x0] (.int (mh_i h o 13) :: st) h) := (mw_at mj_136_14).trans (z_geti (by decide) (by decide) (Or.inl rfl))
theorem mj_136_17 : mc_P 136 17 = some (.iastore, 1, 0, 0, 0) := by decide +kernel
theorem s_136_17 {x0 : Option Value} {o : Nat} {i w : Int32} : mw d 136 Q 17 [x0] (.int w :: .int i :: .ref o :: st) h = (mg h o 100 ∧ mx i (mh_l h o) ∧ mw d 136 Q 18 [x0] (st) (mh_si h o i.toNatClampNeg w)) := (mw_at mj_136_17).trans (z_iast)
theorem mj_136_18 : mc_P 136 18 = some (.aload_n 0, 1, 0, 0, 0) := by decide +kernel
theorem s_136_18 {w : Value} : mw d 136 Q 18 [some w] (st) h = mv_a w (mw d 136 Q 19 [some w] (w :: st) h) := (mw_at mj_136_18).trans (z_aload_n rfl)
theorem mj_136_19 : mc_P 136 19 = some (.dup, 1, 0, 0, 0) := by decide +kernel
theorem s_136_19 {x0 : Option Value} {w : Value} : mw d 136 Q 19 [x0] (w :: st) h = (w.category = 1 ∧ mw d 136 Q 20 [x0] (w :: w :: st) h) := (mw_at mj_136_19).trans (z_dup)
theorem mj_136_20 : mc_P 136 20 = some (.getfield 80, 3, 7, 15, 0) := by decide +kernel
theorem s_136_20 {x0 : Option Value} {o : Nat} : mw d 136 Q 20 [x0] (.ref o :: st) h = (mg h o 7 ∧ mw d 136 Q 23 [x0] (.int (mh_i h o 15) :: st) h) := (mw_at mj_136_20).trans (z_geti (by decide) (by decide) (Or.inl rfl))
theorem mj_136_23 : mc_P 136 23 = some (.iconst 1, 1, 0, 0, 0) := by decide +kernel
theorem s_136_23 {x0 : Option Value} : mw d 136 Q 23 [x0] (st) h = mw d 136 Q 24 [x0] (.int 1 :: st) h := (mw_at mj_136_23).trans (z_iconst (by decide))
theorem mj_136_24 : mc_P 136 24 = some (.iadd, 1, 0, 0, 0) := by decide +kernel
theorem s_136_24 {x0 : Option Value} {x w : Int32} : mw d 136 Q 24 [x0] (.int w :: .int x :: st) h = mw d 136 Q 25 [x0] (.int (x + w) :: st) h := (mw_at mj_136_24).trans (z_iadd)
theorem mj_136_25 : mc_P 136 25 = some (.putfield 80, 3, 7, 15, 0) := by decide +kernel
theorem s_136_25 {x0 : Option Value} {o : Nat} {w : Int32} : mw d 136 Q 25 [x0] (.int w :: .ref o :: st) h = (mg h o 7 ∧ mw d 136 Q 28 [x0] (st) (mh_si h o 15 w)) := (mw_at mj_136_25).trans (z_puti (by decide) (by decide) rfl)
theorem mj_136_28 : mc_P 136 28 = some (.return_, 1, 0, 0, 0) := by decide +kernel
theorem s_136_28 {x0 : Option Value} : mw d 136 Q 28 [x0] ([]) h = Q none h := (mw_at mj_136_28).trans (z_vret)
theorem e_136 {a0 : Nat} : mcall d 136 [.ref a0] h Q = mw d 136 Q 0 [some (.ref a0)] [] h := by
  show mw d 136 Q 0 (me_en (mc_nl 136) _) [] h = _
  rw [nl_136]; rfl

/-! InvariantDesk$Source.head(II)I -/
theorem mj_137_0 : mc_P 137 0 = some (.aload_n 0, 1, 0, 0, 0) := by decide +kernel
theorem s_137_0 {x1 x2 : Option Value} {w : Value} : mw d 137 Q 0 [some w, x1, x2] (st) h = mv_a w (mw d 137 Q 1 [some w, x1, x2] (w :: st) h) := (mw_at mj_137_0).trans (z_aload_n rfl)
theorem mj_137_1 : mc_P 137 1 = some (.getfield 42, 3, 7, 14, 0) := by decide +kernel
theorem s_137_1 {x0 x1 x2 : Option Value} {o : Nat} : mw d 137 Q 1 [x0, x1, x2] (.ref o :: st) h = (mg h o 7 ∧ mw d 137 Q 4 [x0, x1, x2] (va_rf (mh_r h o 14) :: st) h) := (mw_at mj_137_1).trans (z_getr (by decide) (by decide) rfl)
theorem mj_137_4 : mc_P 137 4 = some (.bipush 6, 2, 0, 0, 0) := by decide +kernel
theorem s_137_4 {x0 x1 x2 : Option Value} : mw d 137 Q 4 [x0, x1, x2] (st) h = mw d 137 Q 6 [x0, x1, x2] (.int 6 :: st) h := (mw_at mj_137_4).trans (z_bipush (by decide))
theorem mj_137_6 : mc_P 137 6 = some (.iload_n 1, 1, 0, 0, 0) := by decide +kernel
theorem s_137_6 {x0 x2 : Option Value} {w : Value} : mw d 137 Q 6 [x0, some w, x2] (st) h = mv_i w (mw d 137 Q 7 [x0, some w, x2] (w :: st) h) := (mw_at mj_137_6).trans (z_iload_n rfl)
theorem mj_137_7 : mc_P 137 7 = some (.imul, 1, 0, 0, 0) := by decide +kernel
theorem s_137_7 {x0 x1 x2 : Option Value} {x w : Int32} : mw d 137 Q 7 [x0, x1, x2] (.int w :: .int x :: st) h = mw d 137 Q 8 [x0, x1, x2] (.int (x * w) :: st) h := (mw_at mj_137_7).trans (z_imul)
theorem mj_137_8 : mc_P 137 8 = some (.iload_n 2, 1, 0, 0, 0) := by decide +kernel
theorem s_137_8 {x0 x1 : Option Value} {w : Value} : mw d 137 Q 8 [x0, x1, some w] (st) h = mv_i w (mw d 137 Q 9 [x0, x1, some w] (w :: st) h) := (mw_at mj_137_8).trans (z_iload_n rfl)
theorem mj_137_9 : mc_P 137 9 = some (.iadd, 1, 0, 0, 0) := by decide +kernel
theorem s_137_9 {x0 x1 x2 : Option Value} {x w : Int32} : mw d 137 Q 9 [x0, x1, x2] (.int w :: .int x :: st) h = mw d 137 Q 10 [x0, x1, x2] (.int (x + w) :: st) h := (mw_at mj_137_9).trans (z_iadd)
theorem mj_137_10 : mc_P 137 10 = some (.iaload, 1, 0, 0, 0) := by decide +kernel
theorem s_137_10 {x0 x1 x2 : Option Value} {o : Nat} {i : Int32} : mw d 137 Q 10 [x0, x1, x2] (.int i :: .ref o :: st) h = (mg h o 100 ∧ mx i (mh_l h o) ∧ mw d 137 Q 11 [x0, x1, x2] (.int (mh_i h o i.toNatClampNeg) :: st) h) := (mw_at mj_137_10).trans (z_iald)
theorem mj_137_11 : mc_P 137 11 = some (.ireturn, 1, 0, 0, 0) := by decide +kernel
theorem s_137_11 {x0 x1 x2 : Option Value} {x : Int32} : mw d 137 Q 11 [x0, x1, x2] ([.int x]) h = (Q (some (.int x)) h) := (mw_at mj_137_11).trans (z_iret)
theorem e_137 {a0 : Nat} {a1 : Int32} {a2 : Int32} : mcall d 137 [.ref a0, .int a1, .int a2] h Q = mw d 137 Q 0 [some (.ref a0), some (.int a1), some (.int a2)] [] h := by
  show mw d 137 Q 0 (me_en (mc_nl 137) _) [] h = _
  rw [nl_137]; rfl

end SR
