/-! rules of methods, by program (wip/whole/srule.py) -/
section SR
variable {d : Nat} {Q : Option Value → mh_H → Prop} {st : List Value} {h : mh_H}
/-! InvariantDeskModel.isSign(I)Z -/
theorem mj_374_0 : mc_P 374 0 = some (.iload_n 0, 1, 0, 0, 0) := by decide +kernel
theorem s_374_0 {w : Value} : mw d 374 Q 0 [some w] (st) h = mv_i w (mw d 374 Q 1 [some w] (w :: st) h) := (mw_at mj_374_0).trans (z_iload_n rfl)
theorem mj_374_1 : mc_P 374 1 = some (.iconst 1, 1, 0, 0, 0) := by decide +kernel
theorem s_374_1 {x0 : Option Value} : mw d 374 Q 1 [x0] (st) h = mw d 374 Q 2 [x0] (.int 1 :: st) h := (mw_at mj_374_1).trans (z_iconst (by decide))
theorem mj_374_2 : mc_P 374 2 = some (.if_icmp .eq 8, 3, 0, 0, 0) := by decide +kernel
theorem s_374_2 {x0 : Option Value} {x w : Int32} : mw d 374 Q 2 [x0] (.int w :: .int x :: st) h = mB (x = w) (mw d 374 Q) 10 5 [x0] st h := (mw_at mj_374_2).trans (z_icmp_eq (by decide) rfl)
theorem mj_374_5 : mc_P 374 5 = some (.iload_n 0, 1, 0, 0, 0) := by decide +kernel
theorem s_374_5 {w : Value} : mw d 374 Q 5 [some w] (st) h = mv_i w (mw d 374 Q 6 [some w] (w :: st) h) := (mw_at mj_374_5).trans (z_iload_n rfl)
theorem mj_374_6 : mc_P 374 6 = some (.iconst (-1), 1, 0, 0, 0) := by decide +kernel
theorem s_374_6 {x0 : Option Value} : mw d 374 Q 6 [x0] (st) h = mw d 374 Q 7 [x0] (.int (-1) :: st) h := (mw_at mj_374_6).trans (z_iconst (by decide))
theorem mj_374_7 : mc_P 374 7 = some (.if_icmp .ne 7, 3, 0, 0, 0) := by decide +kernel
theorem s_374_7 {x0 : Option Value} {x w : Int32} : mw d 374 Q 7 [x0] (.int w :: .int x :: st) h = mB (¬ x = w) (mw d 374 Q) 14 10 [x0] st h := (mw_at mj_374_7).trans (z_icmp_ne (by decide) rfl)
theorem mj_374_10 : mc_P 374 10 = some (.iconst 1, 1, 0, 0, 0) := by decide +kernel
theorem s_374_10 {x0 : Option Value} : mw d 374 Q 10 [x0] (st) h = mw d 374 Q 11 [x0] (.int 1 :: st) h := (mw_at mj_374_10).trans (z_iconst (by decide))
theorem mj_374_11 : mc_P 374 11 = some (.goto 4, 3, 0, 0, 0) := by decide +kernel
theorem s_374_11 {x0 : Option Value} : mw d 374 Q 11 [x0] (st) h = mw d 374 Q 15 [x0] (st) h := (mw_at mj_374_11).trans (z_goto (by decide))
theorem mj_374_14 : mc_P 374 14 = some (.iconst 0, 1, 0, 0, 0) := by decide +kernel
theorem s_374_14 {x0 : Option Value} : mw d 374 Q 14 [x0] (st) h = mw d 374 Q 15 [x0] (.int 0 :: st) h := (mw_at mj_374_14).trans (z_iconst (by decide))
theorem mj_374_15 : mc_P 374 15 = some (.ireturn, 1, 0, 3, 0) := by decide +kernel
theorem s_374_15 {x0 : Option Value} {x : Int32} : mw d 374 Q 15 [x0] ([.int x]) h = ((x = 0 ∨ x = 1) ∧ Q (some (.int x)) h) := (mw_at mj_374_15).trans (z_zret)
theorem e_374 {a0 : Int32} : mcall d 374 [.int a0] h Q = mw d 374 Q 0 [some (.int a0)] [] h := by
  show mw d 374 Q 0 (me_en (mc_nl 374) _) [] h = _
  rw [nl_374]; rfl

/-! InvariantDeskModel.signed(II)I -/
theorem mj_376_0 : mc_P 376 0 = some (.iload_n 1, 1, 0, 0, 0) := by decide +kernel
theorem s_376_0 {x0 : Option Value} {w : Value} : mw d 376 Q 0 [x0, some w] (st) h = mv_i w (mw d 376 Q 1 [x0, some w] (w :: st) h) := (mw_at mj_376_0).trans (z_iload_n rfl)
theorem mj_376_1 : mc_P 376 1 = some (.ifCond .le 9, 3, 0, 0, 0) := by decide +kernel
theorem s_376_1 {x0 x1 : Option Value} {x : Int32} : mw d 376 Q 1 [x0, x1] (.int x :: st) h = mB (x ≤ 0) (mw d 376 Q) 10 4 [x0, x1] st h := (mw_at mj_376_1).trans (z_if_le (by decide) rfl)
theorem mj_376_4 : mc_P 376 4 = some (.iconst 2, 1, 0, 0, 0) := by decide +kernel
theorem s_376_4 {x0 x1 : Option Value} : mw d 376 Q 4 [x0, x1] (st) h = mw d 376 Q 5 [x0, x1] (.int 2 :: st) h := (mw_at mj_376_4).trans (z_iconst (by decide))
theorem mj_376_5 : mc_P 376 5 = some (.iload_n 0, 1, 0, 0, 0) := by decide +kernel
theorem s_376_5 {x1 : Option Value} {w : Value} : mw d 376 Q 5 [some w, x1] (st) h = mv_i w (mw d 376 Q 6 [some w, x1] (w :: st) h) := (mw_at mj_376_5).trans (z_iload_n rfl)
theorem mj_376_6 : mc_P 376 6 = some (.imul, 1, 0, 0, 0) := by decide +kernel
theorem s_376_6 {x0 x1 : Option Value} {x w : Int32} : mw d 376 Q 6 [x0, x1] (.int w :: .int x :: st) h = mw d 376 Q 7 [x0, x1] (.int (x * w) :: st) h := (mw_at mj_376_6).trans (z_imul)
theorem mj_376_7 : mc_P 376 7 = some (.goto 8, 3, 0, 0, 0) := by decide +kernel
theorem s_376_7 {x0 x1 : Option Value} : mw d 376 Q 7 [x0, x1] (st) h = mw d 376 Q 15 [x0, x1] (st) h := (mw_at mj_376_7).trans (z_goto (by decide))
theorem mj_376_10 : mc_P 376 10 = some (.iconst 2, 1, 0, 0, 0) := by decide +kernel
theorem s_376_10 {x0 x1 : Option Value} : mw d 376 Q 10 [x0, x1] (st) h = mw d 376 Q 11 [x0, x1] (.int 2 :: st) h := (mw_at mj_376_10).trans (z_iconst (by decide))
theorem mj_376_11 : mc_P 376 11 = some (.iload_n 0, 1, 0, 0, 0) := by decide +kernel
theorem s_376_11 {x1 : Option Value} {w : Value} : mw d 376 Q 11 [some w, x1] (st) h = mv_i w (mw d 376 Q 12 [some w, x1] (w :: st) h) := (mw_at mj_376_11).trans (z_iload_n rfl)
theorem mj_376_12 : mc_P 376 12 = some (.imul, 1, 0, 0, 0) := by decide +kernel
theorem s_376_12 {x0 x1 : Option Value} {x w : Int32} : mw d 376 Q 12 [x0, x1] (.int w :: .int x :: st) h = mw d 376 Q 13 [x0, x1] (.int (x * w) :: st) h := (mw_at mj_376_12).trans (z_imul)
theorem mj_376_13 : mc_P 376 13 = some (.iconst 1, 1, 0, 0, 0) := by decide +kernel
theorem s_376_13 {x0 x1 : Option Value} : mw d 376 Q 13 [x0, x1] (st) h = mw d 376 Q 14 [x0, x1] (.int 1 :: st) h := (mw_at mj_376_13).trans (z_iconst (by decide))
theorem mj_376_14 : mc_P 376 14 = some (.iadd, 1, 0, 0, 0) := by decide +kernel
theorem s_376_14 {x0 x1 : Option Value} {x w : Int32} : mw d 376 Q 14 [x0, x1] (.int w :: .int x :: st) h = mw d 376 Q 15 [x0, x1] (.int (x + w) :: st) h := (mw_at mj_376_14).trans (z_iadd)
theorem mj_376_15 : mc_P 376 15 = some (.ireturn, 1, 0, 0, 0) := by decide +kernel
theorem s_376_15 {x0 x1 : Option Value} {x : Int32} : mw d 376 Q 15 [x0, x1] ([.int x]) h = (Q (some (.int x)) h) := (mw_at mj_376_15).trans (z_iret)
theorem e_376 {a0 : Int32} {a1 : Int32} : mcall d 376 [.int a0, .int a1] h Q = mw d 376 Q 0 [some (.int a0), some (.int a1)] [] h := by
  show mw d 376 Q 0 (me_en (mc_nl 376) _) [] h = _
  rw [nl_376]; rfl

end SR
