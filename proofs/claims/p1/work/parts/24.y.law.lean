/-! rules of the law, by program -/
section SL
variable {L : Nat} {xs : Nat → Int32} {d : Nat} {Q : Option Value → mh_H → Prop} {st : List Value} {h : mh_H}
theorem mj_406_0 : mc_P ml_y 0 = some (.new 7, 3, 11, 0, 0) := by decide +kernel
theorem s_406_0 {x0 x1 x2 x3 : Option Value} : lw L xs d Q 0 [x0, x1, x2, x3] (st) h = lw L xs d Q 3 [x0, x1, x2, x3] (.ref (mh_n h) :: st) (mh_new h 11 15) := (lw_at mj_406_0 rfl).trans (z_new (by decide) rfl)
theorem mj_406_3 : mc_P ml_y 3 = some (.dup, 1, 0, 0, 0) := by decide +kernel
theorem s_406_3 {x0 x1 x2 x3 : Option Value} {w : Value} : lw L xs d Q 3 [x0, x1, x2, x3] (w :: st) h = (w.category = 1 ∧ lw L xs d Q 4 [x0, x1, x2, x3] (w :: w :: st) h) := (lw_at mj_406_3 rfl).trans (z_dup)
theorem mj_406_4 : mc_P ml_y 4 = some (.invokespecial 9, 3, 183, 0, 1) := by decide +kernel
theorem s_406_4 {x0 x1 x2 x3 : Option Value} {o : Nat} : lw L xs (d + 1) Q 4 [x0, x1, x2, x3] (.ref o :: st) h = (mca st 8 ∧ mca [.ref o] 1 ∧ mcall d 183 [.ref o] h (lK L xs (d + 1) Q 7 [x0, x1, x2, x3] st)) := (lw_at mj_406_4 rfl).trans ((z_invsp (As := []) (by decide) rfl rfl).trans (congrArg (And _) (lC_nl nl_183)))
theorem mj_406_7 : mc_P ml_y 7 = some (.astore_n 1, 1, 0, 0, 0) := by decide +kernel
theorem s_406_7 {x0 x1 x2 x3 : Option Value} {w : Nat} : lw L xs d Q 7 [x0, x1, x2, x3] (.ref w :: st) h = lw L xs d Q 8 [mk2 x0, some (.ref w), x2, x3] (st) h := (lw_at mj_406_7 rfl).trans (z_astore_n (Nat.le_of_ble_eq_true rfl) (me_s1_mk (j := 0) (w := x0) rfl))
theorem s_406_7n {x0 x1 x2 x3 : Option Value} : lw L xs d Q 7 [x0, x1, x2, x3] (.null :: st) h = lw L xs d Q 8 [mk2 x0, some (.null), x2, x3] (st) h := (lw_at mj_406_7 rfl).trans (z_astoreN_n (Nat.le_of_ble_eq_true rfl) (me_s1_mk (j := 0) (w := x0) rfl))
theorem mj_406_8 : mc_P ml_y 8 = some (.new 10, 3, 14, 0, 0) := by decide +kernel
theorem s_406_8 {x0 x1 x2 x3 : Option Value} : lw L xs d Q 8 [x0, x1, x2, x3] (st) h = lw L xs d Q 11 [x0, x1, x2, x3] (.ref (mh_n h) :: st) (mh_new h 14 70) := (lw_at mj_406_8 rfl).trans (z_new (by decide) rfl)
theorem mj_406_11 : mc_P ml_y 11 = some (.dup, 1, 0, 0, 0) := by decide +kernel
theorem s_406_11 {x0 x1 x2 x3 : Option Value} {w : Value} : lw L xs d Q 11 [x0, x1, x2, x3] (w :: st) h = (w.category = 1 ∧ lw L xs d Q 12 [x0, x1, x2, x3] (w :: w :: st) h) := (lw_at mj_406_11 rfl).trans (z_dup)
theorem mj_406_12 : mc_P ml_y 12 = some (.invokespecial 12, 3, 298, 0, 1) := by decide +kernel
theorem s_406_12 {x0 x1 x2 x3 : Option Value} {o : Nat} : lw L xs (d + 1) Q 12 [x0, x1, x2, x3] (.ref o :: st) h = (mca st 8 ∧ mca [.ref o] 1 ∧ mcall d 298 [.ref o] h (lK L xs (d + 1) Q 15 [x0, x1, x2, x3] st)) := (lw_at mj_406_12 rfl).trans ((z_invsp (As := []) (by decide) rfl rfl).trans (congrArg (And _) (lC_nl nl_298)))
theorem mj_406_15 : mc_P ml_y 15 = some (.astore_n 2, 1, 0, 0, 0) := by decide +kernel
theorem s_406_15 {x0 x1 x2 x3 : Option Value} {w : Nat} : lw L xs d Q 15 [x0, x1, x2, x3] (.ref w :: st) h = lw L xs d Q 16 [x0, mk2 x1, some (.ref w), x3] (st) h := (lw_at mj_406_15 rfl).trans (z_astore_n (Nat.le_of_ble_eq_true rfl) (me_s1_mk (j := 1) (w := x1) rfl))
theorem s_406_15n {x0 x1 x2 x3 : Option Value} : lw L xs d Q 15 [x0, x1, x2, x3] (.null :: st) h = lw L xs d Q 16 [x0, mk2 x1, some (.null), x3] (st) h := (lw_at mj_406_15 rfl).trans (z_astoreN_n (Nat.le_of_ble_eq_true rfl) (me_s1_mk (j := 1) (w := x1) rfl))
theorem mj_406_16 : mc_P ml_y 16 = some (.iconst 0, 1, 0, 0, 0) := by decide +kernel
theorem s_406_16 {x0 x1 x2 x3 : Option Value} : lw L xs d Q 16 [x0, x1, x2, x3] (st) h = lw L xs d Q 17 [x0, x1, x2, x3] (.int 0 :: st) h := (lw_at mj_406_16 rfl).trans (z_iconst (by decide))
theorem mj_406_17 : mc_P ml_y 17 = some (.istore_n 3, 1, 0, 0, 0) := by decide +kernel
theorem s_406_17 {x0 x1 x2 x3 : Option Value} {w : Int32} : lw L xs d Q 17 [x0, x1, x2, x3] (.int w :: st) h = lw L xs d Q 18 [x0, x1, mk2 x2, some (.int w)] (st) h := (lw_at mj_406_17 rfl).trans (z_istore_n (Nat.le_of_ble_eq_true rfl) (me_s1_mk (j := 2) (w := x2) rfl))
theorem mj_406_18 : mc_P ml_y 18 = some (.iload_n 3, 1, 0, 0, 0) := by decide +kernel
theorem s_406_18 {x0 x1 x2 : Option Value} {w : Value} : lw L xs d Q 18 [x0, x1, x2, some w] (st) h = mv_i w (lw L xs d Q 19 [x0, x1, x2, some w] (w :: st) h) := (lw_at mj_406_18 rfl).trans (z_iload_n rfl)
theorem mj_406_19 : mc_P ml_y 19 = some (.aload_n 0, 1, 0, 0, 0) := by decide +kernel
theorem s_406_19 {x1 x2 x3 : Option Value} {w : Value} : lw L xs d Q 19 [some w, x1, x2, x3] (st) h = mv_a w (lw L xs d Q 20 [some w, x1, x2, x3] (w :: st) h) := (lw_at mj_406_19 rfl).trans (z_aload_n rfl)
theorem mj_406_20 : mc_P ml_y 20 = some (.arraylength, 1, 0, 0, 0) := by decide +kernel
theorem s_406_20 {x0 x1 x2 x3 : Option Value} : lw L xs d Q 20 [x0, x1, x2, x3] (.retAddr 8 :: st) h = lw L xs d Q 21 [x0, x1, x2, x3] (.int (Int32.ofNat L) :: st) h := lw_len mj_406_20
theorem mj_406_21 : mc_P ml_y 21 = some (.bipush 8, 2, 0, 0, 0) := by decide +kernel
theorem s_406_21 {x0 x1 x2 x3 : Option Value} : lw L xs d Q 21 [x0, x1, x2, x3] (st) h = lw L xs d Q 23 [x0, x1, x2, x3] (.int 8 :: st) h := (lw_at mj_406_21 rfl).trans (z_bipush (by decide))
theorem mj_406_23 : mc_P ml_y 23 = some (.isub, 1, 0, 0, 0) := by decide +kernel
theorem s_406_23 {x0 x1 x2 x3 : Option Value} {x w : Int32} : lw L xs d Q 23 [x0, x1, x2, x3] (.int w :: .int x :: st) h = lw L xs d Q 24 [x0, x1, x2, x3] (.int (x - w) :: st) h := (lw_at mj_406_23 rfl).trans (z_isub)
theorem mj_406_24 : mc_P ml_y 24 = some (.if_icmp .gt 895, 3, 0, 0, 0) := by decide +kernel
theorem s_406_24 {x0 x1 x2 x3 : Option Value} {x w : Int32} : lw L xs d Q 24 [x0, x1, x2, x3] (.int w :: .int x :: st) h = mB (w < x) (lw L xs d Q) 919 27 [x0, x1, x2, x3] st h := (lw_at mj_406_24 rfl).trans (z_icmp_gt (by decide) rfl)
theorem mj_406_27 : mc_P ml_y 27 = some (.aload_n 0, 1, 0, 0, 0) := by decide +kernel
theorem s_406_27 {x1 x2 x3 : Option Value} {w : Value} : lw L xs d Q 27 [some w, x1, x2, x3] (st) h = mv_a w (lw L xs d Q 28 [some w, x1, x2, x3] (w :: st) h) := (lw_at mj_406_27 rfl).trans (z_aload_n rfl)
theorem mj_406_28 : mc_P ml_y 28 = some (.iload_n 3, 1, 0, 0, 0) := by decide +kernel
theorem s_406_28 {x0 x1 x2 : Option Value} {w : Value} : lw L xs d Q 28 [x0, x1, x2, some w] (st) h = mv_i w (lw L xs d Q 29 [x0, x1, x2, some w] (w :: st) h) := (lw_at mj_406_28 rfl).trans (z_iload_n rfl)
theorem mj_406_29 : mc_P ml_y 29 = some (.iaload, 1, 0, 0, 0) := by decide +kernel
theorem s_406_29 {x0 x1 x2 x3 : Option Value} {i : Int32} : lw L xs d Q 29 [x0, x1, x2, x3] (.int i :: .retAddr 8 :: st) h = (mx i L ∧ lw L xs d Q 30 [x0, x1, x2, x3] (.int (xs i.toNatClampNeg) :: st) h) := lw_scr mj_406_29
theorem mj_406_30 : mc_P ml_y 30 = some (.bipush 31, 2, 0, 0, 0) := by decide +kernel
theorem s_406_30 {x0 x1 x2 x3 : Option Value} : lw L xs d Q 30 [x0, x1, x2, x3] (st) h = lw L xs d Q 32 [x0, x1, x2, x3] (.int 31 :: st) h := (lw_at mj_406_30 rfl).trans (z_bipush (by decide))
theorem mj_406_32 : mc_P ml_y 32 = some (.iand, 1, 0, 0, 0) := by decide +kernel
theorem s_406_32 {x0 x1 x2 x3 : Option Value} {x w : Int32} : lw L xs d Q 32 [x0, x1, x2, x3] (.int w :: .int x :: st) h = lw L xs d Q 33 [x0, x1, x2, x3] (.int (x &&& w) :: st) h := (lw_at mj_406_32 rfl).trans (z_iand)
theorem mj_406_33 : mc_P ml_y 33 = some (.tableswitch 880 0 20 #[99, 162, 185, 208, 221, 254, 346, 432, 539, 608, 631, 644, 657, 680, 693, 716, 739, 762, 795, 808, 857], 99, 0, 0, 0) := by decide +kernel
theorem s_406_33 {x0 x1 x2 x3 : Option Value} {x : Int32} : lw L xs d Q 33 [x0, x1, x2, x3] (.int x :: st) h = mS x (lw L xs d Q) 913 [x0, x1, x2, x3] st h [(0, 132), (1, 195), (2, 218), (3, 241), (4, 254), (5, 287), (6, 379), (7, 465), (8, 572), (9, 641), (10, 664), (11, 677), (12, 690), (13, 713), (14, 726), (15, 749), (16, 772), (17, 795), (18, 828), (19, 841), (20, 890)] := (lw_at mj_406_33 rfl).trans (z_tab (by decide) (by decide) (by decide +kernel))
theorem mj_406_132 : mc_P ml_y 132 = some (.aload_n 1, 1, 0, 0, 0) := by decide +kernel
theorem s_406_132 {x0 x2 x3 : Option Value} {w : Value} : lw L xs d Q 132 [x0, some w, x2, x3] (st) h = mv_a w (lw L xs d Q 133 [x0, some w, x2, x3] (w :: st) h) := (lw_at mj_406_132 rfl).trans (z_aload_n rfl)
theorem mj_406_133 : mc_P ml_y 133 = some (.aload_n 0, 1, 0, 0, 0) := by decide +kernel
theorem s_406_133 {x1 x2 x3 : Option Value} {w : Value} : lw L xs d Q 133 [some w, x1, x2, x3] (st) h = mv_a w (lw L xs d Q 134 [some w, x1, x2, x3] (w :: st) h) := (lw_at mj_406_133 rfl).trans (z_aload_n rfl)
theorem mj_406_134 : mc_P ml_y 134 = some (.iload_n 3, 1, 0, 0, 0) := by decide +kernel
theorem s_406_134 {x0 x1 x2 : Option Value} {w : Value} : lw L xs d Q 134 [x0, x1, x2, some w] (st) h = mv_i w (lw L xs d Q 135 [x0, x1, x2, some w] (w :: st) h) := (lw_at mj_406_134 rfl).trans (z_iload_n rfl)
theorem mj_406_135 : mc_P ml_y 135 = some (.iconst 1, 1, 0, 0, 0) := by decide +kernel
theorem s_406_135 {x0 x1 x2 x3 : Option Value} : lw L xs d Q 135 [x0, x1, x2, x3] (st) h = lw L xs d Q 136 [x0, x1, x2, x3] (.int 1 :: st) h := (lw_at mj_406_135 rfl).trans (z_iconst (by decide))
theorem mj_406_136 : mc_P ml_y 136 = some (.iadd, 1, 0, 0, 0) := by decide +kernel
theorem s_406_136 {x0 x1 x2 x3 : Option Value} {x w : Int32} : lw L xs d Q 136 [x0, x1, x2, x3] (.int w :: .int x :: st) h = lw L xs d Q 137 [x0, x1, x2, x3] (.int (x + w) :: st) h := (lw_at mj_406_136 rfl).trans (z_iadd)
theorem mj_406_137 : mc_P ml_y 137 = some (.iaload, 1, 0, 0, 0) := by decide +kernel
theorem s_406_137 {x0 x1 x2 x3 : Option Value} {i : Int32} : lw L xs d Q 137 [x0, x1, x2, x3] (.int i :: .retAddr 8 :: st) h = (mx i L ∧ lw L xs d Q 138 [x0, x1, x2, x3] (.int (xs i.toNatClampNeg) :: st) h) := lw_scr mj_406_137
theorem mj_406_138 : mc_P ml_y 138 = some (.aload_n 0, 1, 0, 0, 0) := by decide +kernel
theorem s_406_138 {x1 x2 x3 : Option Value} {w : Value} : lw L xs d Q 138 [some w, x1, x2, x3] (st) h = mv_a w (lw L xs d Q 139 [some w, x1, x2, x3] (w :: st) h) := (lw_at mj_406_138 rfl).trans (z_aload_n rfl)
theorem mj_406_139 : mc_P ml_y 139 = some (.iload_n 3, 1, 0, 0, 0) := by decide +kernel
theorem s_406_139 {x0 x1 x2 : Option Value} {w : Value} : lw L xs d Q 139 [x0, x1, x2, some w] (st) h = mv_i w (lw L xs d Q 140 [x0, x1, x2, some w] (w :: st) h) := (lw_at mj_406_139 rfl).trans (z_iload_n rfl)
theorem mj_406_140 : mc_P ml_y 140 = some (.iconst 2, 1, 0, 0, 0) := by decide +kernel
theorem s_406_140 {x0 x1 x2 x3 : Option Value} : lw L xs d Q 140 [x0, x1, x2, x3] (st) h = lw L xs d Q 141 [x0, x1, x2, x3] (.int 2 :: st) h := (lw_at mj_406_140 rfl).trans (z_iconst (by decide))
theorem mj_406_141 : mc_P ml_y 141 = some (.iadd, 1, 0, 0, 0) := by decide +kernel
theorem s_406_141 {x0 x1 x2 x3 : Option Value} {x w : Int32} : lw L xs d Q 141 [x0, x1, x2, x3] (.int w :: .int x :: st) h = lw L xs d Q 142 [x0, x1, x2, x3] (.int (x + w) :: st) h := (lw_at mj_406_141 rfl).trans (z_iadd)
theorem mj_406_142 : mc_P ml_y 142 = some (.iaload, 1, 0, 0, 0) := by decide +kernel
theorem s_406_142 {x0 x1 x2 x3 : Option Value} {i : Int32} : lw L xs d Q 142 [x0, x1, x2, x3] (.int i :: .retAddr 8 :: st) h = (mx i L ∧ lw L xs d Q 143 [x0, x1, x2, x3] (.int (xs i.toNatClampNeg) :: st) h) := lw_scr mj_406_142
theorem mj_406_143 : mc_P ml_y 143 = some (.aload_n 0, 1, 0, 0, 0) := by decide +kernel
theorem s_406_143 {x1 x2 x3 : Option Value} {w : Value} : lw L xs d Q 143 [some w, x1, x2, x3] (st) h = mv_a w (lw L xs d Q 144 [some w, x1, x2, x3] (w :: st) h) := (lw_at mj_406_143 rfl).trans (z_aload_n rfl)
theorem mj_406_144 : mc_P ml_y 144 = some (.iload_n 3, 1, 0, 0, 0) := by decide +kernel
theorem s_406_144 {x0 x1 x2 : Option Value} {w : Value} : lw L xs d Q 144 [x0, x1, x2, some w] (st) h = mv_i w (lw L xs d Q 145 [x0, x1, x2, some w] (w :: st) h) := (lw_at mj_406_144 rfl).trans (z_iload_n rfl)
theorem mj_406_145 : mc_P ml_y 145 = some (.iconst 3, 1, 0, 0, 0) := by decide +kernel
theorem s_406_145 {x0 x1 x2 x3 : Option Value} : lw L xs d Q 145 [x0, x1, x2, x3] (st) h = lw L xs d Q 146 [x0, x1, x2, x3] (.int 3 :: st) h := (lw_at mj_406_145 rfl).trans (z_iconst (by decide))
theorem mj_406_146 : mc_P ml_y 146 = some (.iadd, 1, 0, 0, 0) := by decide +kernel
theorem s_406_146 {x0 x1 x2 x3 : Option Value} {x w : Int32} : lw L xs d Q 146 [x0, x1, x2, x3] (.int w :: .int x :: st) h = lw L xs d Q 147 [x0, x1, x2, x3] (.int (x + w) :: st) h := (lw_at mj_406_146 rfl).trans (z_iadd)
theorem mj_406_147 : mc_P ml_y 147 = some (.iaload, 1, 0, 0, 0) := by decide +kernel
theorem s_406_147 {x0 x1 x2 x3 : Option Value} {i : Int32} : lw L xs d Q 147 [x0, x1, x2, x3] (.int i :: .retAddr 8 :: st) h = (mx i L ∧ lw L xs d Q 148 [x0, x1, x2, x3] (.int (xs i.toNatClampNeg) :: st) h) := lw_scr mj_406_147
theorem mj_406_148 : mc_P ml_y 148 = some (.aload_n 0, 1, 0, 0, 0) := by decide +kernel
theorem s_406_148 {x1 x2 x3 : Option Value} {w : Value} : lw L xs d Q 148 [some w, x1, x2, x3] (st) h = mv_a w (lw L xs d Q 149 [some w, x1, x2, x3] (w :: st) h) := (lw_at mj_406_148 rfl).trans (z_aload_n rfl)
theorem mj_406_149 : mc_P ml_y 149 = some (.iload_n 3, 1, 0, 0, 0) := by decide +kernel
theorem s_406_149 {x0 x1 x2 : Option Value} {w : Value} : lw L xs d Q 149 [x0, x1, x2, some w] (st) h = mv_i w (lw L xs d Q 150 [x0, x1, x2, some w] (w :: st) h) := (lw_at mj_406_149 rfl).trans (z_iload_n rfl)
theorem mj_406_150 : mc_P ml_y 150 = some (.iconst 4, 1, 0, 0, 0) := by decide +kernel
theorem s_406_150 {x0 x1 x2 x3 : Option Value} : lw L xs d Q 150 [x0, x1, x2, x3] (st) h = lw L xs d Q 151 [x0, x1, x2, x3] (.int 4 :: st) h := (lw_at mj_406_150 rfl).trans (z_iconst (by decide))
theorem mj_406_151 : mc_P ml_y 151 = some (.iadd, 1, 0, 0, 0) := by decide +kernel
theorem s_406_151 {x0 x1 x2 x3 : Option Value} {x w : Int32} : lw L xs d Q 151 [x0, x1, x2, x3] (.int w :: .int x :: st) h = lw L xs d Q 152 [x0, x1, x2, x3] (.int (x + w) :: st) h := (lw_at mj_406_151 rfl).trans (z_iadd)
theorem mj_406_152 : mc_P ml_y 152 = some (.iaload, 1, 0, 0, 0) := by decide +kernel
theorem s_406_152 {x0 x1 x2 x3 : Option Value} {i : Int32} : lw L xs d Q 152 [x0, x1, x2, x3] (.int i :: .retAddr 8 :: st) h = (mx i L ∧ lw L xs d Q 153 [x0, x1, x2, x3] (.int (xs i.toNatClampNeg) :: st) h) := lw_scr mj_406_152
theorem mj_406_153 : mc_P ml_y 153 = some (.aload_n 0, 1, 0, 0, 0) := by decide +kernel
theorem s_406_153 {x1 x2 x3 : Option Value} {w : Value} : lw L xs d Q 153 [some w, x1, x2, x3] (st) h = mv_a w (lw L xs d Q 154 [some w, x1, x2, x3] (w :: st) h) := (lw_at mj_406_153 rfl).trans (z_aload_n rfl)
theorem mj_406_154 : mc_P ml_y 154 = some (.iload_n 3, 1, 0, 0, 0) := by decide +kernel
theorem s_406_154 {x0 x1 x2 : Option Value} {w : Value} : lw L xs d Q 154 [x0, x1, x2, some w] (st) h = mv_i w (lw L xs d Q 155 [x0, x1, x2, some w] (w :: st) h) := (lw_at mj_406_154 rfl).trans (z_iload_n rfl)
theorem mj_406_155 : mc_P ml_y 155 = some (.iconst 5, 1, 0, 0, 0) := by decide +kernel
theorem s_406_155 {x0 x1 x2 x3 : Option Value} : lw L xs d Q 155 [x0, x1, x2, x3] (st) h = lw L xs d Q 156 [x0, x1, x2, x3] (.int 5 :: st) h := (lw_at mj_406_155 rfl).trans (z_iconst (by decide))
theorem mj_406_156 : mc_P ml_y 156 = some (.iadd, 1, 0, 0, 0) := by decide +kernel
theorem s_406_156 {x0 x1 x2 x3 : Option Value} {x w : Int32} : lw L xs d Q 156 [x0, x1, x2, x3] (.int w :: .int x :: st) h = lw L xs d Q 157 [x0, x1, x2, x3] (.int (x + w) :: st) h := (lw_at mj_406_156 rfl).trans (z_iadd)
theorem mj_406_157 : mc_P ml_y 157 = some (.iaload, 1, 0, 0, 0) := by decide +kernel
theorem s_406_157 {x0 x1 x2 x3 : Option Value} {i : Int32} : lw L xs d Q 157 [x0, x1, x2, x3] (.int i :: .retAddr 8 :: st) h = (mx i L ∧ lw L xs d Q 158 [x0, x1, x2, x3] (.int (xs i.toNatClampNeg) :: st) h) := lw_scr mj_406_157
theorem mj_406_158 : mc_P ml_y 158 = some (.invokevirtual 13, 3, 184, 11, 6) := by decide +kernel
theorem s_406_158 {x0 x1 x2 x3 : Option Value} {o : Nat} {a1 a2 a3 a4 a5 : Value} : lw L xs (d + 1) Q 158 [x0, x1, x2, x3] (a5 :: a4 :: a3 :: a2 :: a1 :: .ref o :: st) h = (mg h o 11 ∧ mca st 8 ∧ mca [.ref o, a1, a2, a3, a4, a5] 6 ∧ mcall d 184 [.ref o, a1, a2, a3, a4, a5] h (lK L xs (d + 1) Q 161 [x0, x1, x2, x3] st)) := (lw_at mj_406_158 rfl).trans ((z_invv (As := [a1, a2, a3, a4, a5]) (by decide) rfl rfl).trans (congrArg (And _) (congrArg (And _) (lC_nl nl_184))))
theorem mj_406_161 : mc_P ml_y 161 = some (.aload_n 2, 1, 0, 0, 0) := by decide +kernel
theorem s_406_161 {x0 x1 x3 : Option Value} {w : Value} : lw L xs d Q 161 [x0, x1, some w, x3] (st) h = mv_a w (lw L xs d Q 162 [x0, x1, some w, x3] (w :: st) h) := (lw_at mj_406_161 rfl).trans (z_aload_n rfl)
theorem mj_406_162 : mc_P ml_y 162 = some (.aload_n 0, 1, 0, 0, 0) := by decide +kernel
theorem s_406_162 {x1 x2 x3 : Option Value} {w : Value} : lw L xs d Q 162 [some w, x1, x2, x3] (st) h = mv_a w (lw L xs d Q 163 [some w, x1, x2, x3] (w :: st) h) := (lw_at mj_406_162 rfl).trans (z_aload_n rfl)
theorem mj_406_163 : mc_P ml_y 163 = some (.iload_n 3, 1, 0, 0, 0) := by decide +kernel
theorem s_406_163 {x0 x1 x2 : Option Value} {w : Value} : lw L xs d Q 163 [x0, x1, x2, some w] (st) h = mv_i w (lw L xs d Q 164 [x0, x1, x2, some w] (w :: st) h) := (lw_at mj_406_163 rfl).trans (z_iload_n rfl)
theorem mj_406_164 : mc_P ml_y 164 = some (.iconst 1, 1, 0, 0, 0) := by decide +kernel
theorem s_406_164 {x0 x1 x2 x3 : Option Value} : lw L xs d Q 164 [x0, x1, x2, x3] (st) h = lw L xs d Q 165 [x0, x1, x2, x3] (.int 1 :: st) h := (lw_at mj_406_164 rfl).trans (z_iconst (by decide))
theorem mj_406_165 : mc_P ml_y 165 = some (.iadd, 1, 0, 0, 0) := by decide +kernel
theorem s_406_165 {x0 x1 x2 x3 : Option Value} {x w : Int32} : lw L xs d Q 165 [x0, x1, x2, x3] (.int w :: .int x :: st) h = lw L xs d Q 166 [x0, x1, x2, x3] (.int (x + w) :: st) h := (lw_at mj_406_165 rfl).trans (z_iadd)
theorem mj_406_166 : mc_P ml_y 166 = some (.iaload, 1, 0, 0, 0) := by decide +kernel
theorem s_406_166 {x0 x1 x2 x3 : Option Value} {i : Int32} : lw L xs d Q 166 [x0, x1, x2, x3] (.int i :: .retAddr 8 :: st) h = (mx i L ∧ lw L xs d Q 167 [x0, x1, x2, x3] (.int (xs i.toNatClampNeg) :: st) h) := lw_scr mj_406_166
theorem mj_406_167 : mc_P ml_y 167 = some (.aload_n 0, 1, 0, 0, 0) := by decide +kernel
theorem s_406_167 {x1 x2 x3 : Option Value} {w : Value} : lw L xs d Q 167 [some w, x1, x2, x3] (st) h = mv_a w (lw L xs d Q 168 [some w, x1, x2, x3] (w :: st) h) := (lw_at mj_406_167 rfl).trans (z_aload_n rfl)
theorem mj_406_168 : mc_P ml_y 168 = some (.iload_n 3, 1, 0, 0, 0) := by decide +kernel
theorem s_406_168 {x0 x1 x2 : Option Value} {w : Value} : lw L xs d Q 168 [x0, x1, x2, some w] (st) h = mv_i w (lw L xs d Q 169 [x0, x1, x2, some w] (w :: st) h) := (lw_at mj_406_168 rfl).trans (z_iload_n rfl)
theorem mj_406_169 : mc_P ml_y 169 = some (.iconst 2, 1, 0, 0, 0) := by decide +kernel
theorem s_406_169 {x0 x1 x2 x3 : Option Value} : lw L xs d Q 169 [x0, x1, x2, x3] (st) h = lw L xs d Q 170 [x0, x1, x2, x3] (.int 2 :: st) h := (lw_at mj_406_169 rfl).trans (z_iconst (by decide))
theorem mj_406_170 : mc_P ml_y 170 = some (.iadd, 1, 0, 0, 0) := by decide +kernel
theorem s_406_170 {x0 x1 x2 x3 : Option Value} {x w : Int32} : lw L xs d Q 170 [x0, x1, x2, x3] (.int w :: .int x :: st) h = lw L xs d Q 171 [x0, x1, x2, x3] (.int (x + w) :: st) h := (lw_at mj_406_170 rfl).trans (z_iadd)
theorem mj_406_171 : mc_P ml_y 171 = some (.iaload, 1, 0, 0, 0) := by decide +kernel
theorem s_406_171 {x0 x1 x2 x3 : Option Value} {i : Int32} : lw L xs d Q 171 [x0, x1, x2, x3] (.int i :: .retAddr 8 :: st) h = (mx i L ∧ lw L xs d Q 172 [x0, x1, x2, x3] (.int (xs i.toNatClampNeg) :: st) h) := lw_scr mj_406_171
theorem mj_406_172 : mc_P ml_y 172 = some (.aload_n 0, 1, 0, 0, 0) := by decide +kernel
theorem s_406_172 {x1 x2 x3 : Option Value} {w : Value} : lw L xs d Q 172 [some w, x1, x2, x3] (st) h = mv_a w (lw L xs d Q 173 [some w, x1, x2, x3] (w :: st) h) := (lw_at mj_406_172 rfl).trans (z_aload_n rfl)
theorem mj_406_173 : mc_P ml_y 173 = some (.iload_n 3, 1, 0, 0, 0) := by decide +kernel
theorem s_406_173 {x0 x1 x2 : Option Value} {w : Value} : lw L xs d Q 173 [x0, x1, x2, some w] (st) h = mv_i w (lw L xs d Q 174 [x0, x1, x2, some w] (w :: st) h) := (lw_at mj_406_173 rfl).trans (z_iload_n rfl)
theorem mj_406_174 : mc_P ml_y 174 = some (.iconst 3, 1, 0, 0, 0) := by decide +kernel
theorem s_406_174 {x0 x1 x2 x3 : Option Value} : lw L xs d Q 174 [x0, x1, x2, x3] (st) h = lw L xs d Q 175 [x0, x1, x2, x3] (.int 3 :: st) h := (lw_at mj_406_174 rfl).trans (z_iconst (by decide))
theorem mj_406_175 : mc_P ml_y 175 = some (.iadd, 1, 0, 0, 0) := by decide +kernel
theorem s_406_175 {x0 x1 x2 x3 : Option Value} {x w : Int32} : lw L xs d Q 175 [x0, x1, x2, x3] (.int w :: .int x :: st) h = lw L xs d Q 176 [x0, x1, x2, x3] (.int (x + w) :: st) h := (lw_at mj_406_175 rfl).trans (z_iadd)
theorem mj_406_176 : mc_P ml_y 176 = some (.iaload, 1, 0, 0, 0) := by decide +kernel
theorem s_406_176 {x0 x1 x2 x3 : Option Value} {i : Int32} : lw L xs d Q 176 [x0, x1, x2, x3] (.int i :: .retAddr 8 :: st) h = (mx i L ∧ lw L xs d Q 177 [x0, x1, x2, x3] (.int (xs i.toNatClampNeg) :: st) h) := lw_scr mj_406_176
theorem mj_406_177 : mc_P ml_y 177 = some (.aload_n 0, 1, 0, 0, 0) := by decide +kernel
theorem s_406_177 {x1 x2 x3 : Option Value} {w : Value} : lw L xs d Q 177 [some w, x1, x2, x3] (st) h = mv_a w (lw L xs d Q 178 [some w, x1, x2, x3] (w :: st) h) := (lw_at mj_406_177 rfl).trans (z_aload_n rfl)
theorem mj_406_178 : mc_P ml_y 178 = some (.iload_n 3, 1, 0, 0, 0) := by decide +kernel
theorem s_406_178 {x0 x1 x2 : Option Value} {w : Value} : lw L xs d Q 178 [x0, x1, x2, some w] (st) h = mv_i w (lw L xs d Q 179 [x0, x1, x2, some w] (w :: st) h) := (lw_at mj_406_178 rfl).trans (z_iload_n rfl)
theorem mj_406_179 : mc_P ml_y 179 = some (.iconst 4, 1, 0, 0, 0) := by decide +kernel
theorem s_406_179 {x0 x1 x2 x3 : Option Value} : lw L xs d Q 179 [x0, x1, x2, x3] (st) h = lw L xs d Q 180 [x0, x1, x2, x3] (.int 4 :: st) h := (lw_at mj_406_179 rfl).trans (z_iconst (by decide))
theorem mj_406_180 : mc_P ml_y 180 = some (.iadd, 1, 0, 0, 0) := by decide +kernel
theorem s_406_180 {x0 x1 x2 x3 : Option Value} {x w : Int32} : lw L xs d Q 180 [x0, x1, x2, x3] (.int w :: .int x :: st) h = lw L xs d Q 181 [x0, x1, x2, x3] (.int (x + w) :: st) h := (lw_at mj_406_180 rfl).trans (z_iadd)
theorem mj_406_181 : mc_P ml_y 181 = some (.iaload, 1, 0, 0, 0) := by decide +kernel
theorem s_406_181 {x0 x1 x2 x3 : Option Value} {i : Int32} : lw L xs d Q 181 [x0, x1, x2, x3] (.int i :: .retAddr 8 :: st) h = (mx i L ∧ lw L xs d Q 182 [x0, x1, x2, x3] (.int (xs i.toNatClampNeg) :: st) h) := lw_scr mj_406_181
theorem mj_406_182 : mc_P ml_y 182 = some (.aload_n 0, 1, 0, 0, 0) := by decide +kernel
theorem s_406_182 {x1 x2 x3 : Option Value} {w : Value} : lw L xs d Q 182 [some w, x1, x2, x3] (st) h = mv_a w (lw L xs d Q 183 [some w, x1, x2, x3] (w :: st) h) := (lw_at mj_406_182 rfl).trans (z_aload_n rfl)
theorem mj_406_183 : mc_P ml_y 183 = some (.iload_n 3, 1, 0, 0, 0) := by decide +kernel
theorem s_406_183 {x0 x1 x2 : Option Value} {w : Value} : lw L xs d Q 183 [x0, x1, x2, some w] (st) h = mv_i w (lw L xs d Q 184 [x0, x1, x2, some w] (w :: st) h) := (lw_at mj_406_183 rfl).trans (z_iload_n rfl)
theorem mj_406_184 : mc_P ml_y 184 = some (.iconst 5, 1, 0, 0, 0) := by decide +kernel
theorem s_406_184 {x0 x1 x2 x3 : Option Value} : lw L xs d Q 184 [x0, x1, x2, x3] (st) h = lw L xs d Q 185 [x0, x1, x2, x3] (.int 5 :: st) h := (lw_at mj_406_184 rfl).trans (z_iconst (by decide))
theorem mj_406_185 : mc_P ml_y 185 = some (.iadd, 1, 0, 0, 0) := by decide +kernel
theorem s_406_185 {x0 x1 x2 x3 : Option Value} {x w : Int32} : lw L xs d Q 185 [x0, x1, x2, x3] (.int w :: .int x :: st) h = lw L xs d Q 186 [x0, x1, x2, x3] (.int (x + w) :: st) h := (lw_at mj_406_185 rfl).trans (z_iadd)
theorem mj_406_186 : mc_P ml_y 186 = some (.iaload, 1, 0, 0, 0) := by decide +kernel
theorem s_406_186 {x0 x1 x2 x3 : Option Value} {i : Int32} : lw L xs d Q 186 [x0, x1, x2, x3] (.int i :: .retAddr 8 :: st) h = (mx i L ∧ lw L xs d Q 187 [x0, x1, x2, x3] (.int (xs i.toNatClampNeg) :: st) h) := lw_scr mj_406_186
theorem mj_406_187 : mc_P ml_y 187 = some (.invokevirtual 17, 3, 301, 14, 6) := by decide +kernel
theorem s_406_187 {x0 x1 x2 x3 : Option Value} {o : Nat} {a1 a2 a3 a4 a5 : Value} : lw L xs (d + 1) Q 187 [x0, x1, x2, x3] (a5 :: a4 :: a3 :: a2 :: a1 :: .ref o :: st) h = (mg h o 14 ∧ mca st 8 ∧ mca [.ref o, a1, a2, a3, a4, a5] 8 ∧ mcall d 301 [.ref o, a1, a2, a3, a4, a5] h (lK L xs (d + 1) Q 190 [x0, x1, x2, x3] st)) := (lw_at mj_406_187 rfl).trans ((z_invv (As := [a1, a2, a3, a4, a5]) (by decide) rfl rfl).trans (congrArg (And _) (congrArg (And _) (lC_nl nl_301))))
theorem mj_406_190 : mc_P ml_y 190 = some (.if_icmp .eq 723, 3, 0, 0, 0) := by decide +kernel
theorem s_406_190 {x0 x1 x2 x3 : Option Value} {x w : Int32} : lw L xs d Q 190 [x0, x1, x2, x3] (.int w :: .int x :: st) h = mB (x = w) (lw L xs d Q) 913 193 [x0, x1, x2, x3] st h := (lw_at mj_406_190 rfl).trans (z_icmp_eq (by decide) rfl)
theorem mj_406_193 : mc_P ml_y 193 = some (.iconst 0, 1, 0, 0, 0) := by decide +kernel
theorem s_406_193 {x0 x1 x2 x3 : Option Value} : lw L xs d Q 193 [x0, x1, x2, x3] (st) h = lw L xs d Q 194 [x0, x1, x2, x3] (.int 0 :: st) h := (lw_at mj_406_193 rfl).trans (z_iconst (by decide))
theorem mj_406_194 : mc_P ml_y 194 = some (.ireturn, 1, 0, 3, 0) := by decide +kernel
theorem s_406_194 {x0 x1 x2 x3 : Option Value} {x : Int32} : lw L xs d Q 194 [x0, x1, x2, x3] ([.int x]) h = ((x = 0 ∨ x = 1) ∧ Q (some (.int x)) h) := (lw_at mj_406_194 rfl).trans (z_zret)
theorem mj_406_195 : mc_P ml_y 195 = some (.aload_n 1, 1, 0, 0, 0) := by decide +kernel
theorem s_406_195 {x0 x2 x3 : Option Value} {w : Value} : lw L xs d Q 195 [x0, some w, x2, x3] (st) h = mv_a w (lw L xs d Q 196 [x0, some w, x2, x3] (w :: st) h) := (lw_at mj_406_195 rfl).trans (z_aload_n rfl)
theorem mj_406_196 : mc_P ml_y 196 = some (.aload_n 0, 1, 0, 0, 0) := by decide +kernel
theorem s_406_196 {x1 x2 x3 : Option Value} {w : Value} : lw L xs d Q 196 [some w, x1, x2, x3] (st) h = mv_a w (lw L xs d Q 197 [some w, x1, x2, x3] (w :: st) h) := (lw_at mj_406_196 rfl).trans (z_aload_n rfl)
theorem mj_406_197 : mc_P ml_y 197 = some (.iload_n 3, 1, 0, 0, 0) := by decide +kernel
theorem s_406_197 {x0 x1 x2 : Option Value} {w : Value} : lw L xs d Q 197 [x0, x1, x2, some w] (st) h = mv_i w (lw L xs d Q 198 [x0, x1, x2, some w] (w :: st) h) := (lw_at mj_406_197 rfl).trans (z_iload_n rfl)
theorem mj_406_198 : mc_P ml_y 198 = some (.iconst 1, 1, 0, 0, 0) := by decide +kernel
theorem s_406_198 {x0 x1 x2 x3 : Option Value} : lw L xs d Q 198 [x0, x1, x2, x3] (st) h = lw L xs d Q 199 [x0, x1, x2, x3] (.int 1 :: st) h := (lw_at mj_406_198 rfl).trans (z_iconst (by decide))
theorem mj_406_199 : mc_P ml_y 199 = some (.iadd, 1, 0, 0, 0) := by decide +kernel
theorem s_406_199 {x0 x1 x2 x3 : Option Value} {x w : Int32} : lw L xs d Q 199 [x0, x1, x2, x3] (.int w :: .int x :: st) h = lw L xs d Q 200 [x0, x1, x2, x3] (.int (x + w) :: st) h := (lw_at mj_406_199 rfl).trans (z_iadd)
theorem mj_406_200 : mc_P ml_y 200 = some (.iaload, 1, 0, 0, 0) := by decide +kernel
theorem s_406_200 {x0 x1 x2 x3 : Option Value} {i : Int32} : lw L xs d Q 200 [x0, x1, x2, x3] (.int i :: .retAddr 8 :: st) h = (mx i L ∧ lw L xs d Q 201 [x0, x1, x2, x3] (.int (xs i.toNatClampNeg) :: st) h) := lw_scr mj_406_200
theorem mj_406_201 : mc_P ml_y 201 = some (.invokevirtual 18, 3, 186, 11, 2) := by decide +kernel
theorem s_406_201 {x0 x1 x2 x3 : Option Value} {o : Nat} {a1 : Value} : lw L xs (d + 1) Q 201 [x0, x1, x2, x3] (a1 :: .ref o :: st) h = (mg h o 11 ∧ mca st 8 ∧ mca [.ref o, a1] 7 ∧ mcall d 186 [.ref o, a1] h (lK L xs (d + 1) Q 204 [x0, x1, x2, x3] st)) := (lw_at mj_406_201 rfl).trans ((z_invv (As := [a1]) (by decide) rfl rfl).trans (congrArg (And _) (congrArg (And _) (lC_nl nl_186))))
theorem mj_406_204 : mc_P ml_y 204 = some (.aload_n 2, 1, 0, 0, 0) := by decide +kernel
theorem s_406_204 {x0 x1 x3 : Option Value} {w : Value} : lw L xs d Q 204 [x0, x1, some w, x3] (st) h = mv_a w (lw L xs d Q 205 [x0, x1, some w, x3] (w :: st) h) := (lw_at mj_406_204 rfl).trans (z_aload_n rfl)
theorem mj_406_205 : mc_P ml_y 205 = some (.aload_n 0, 1, 0, 0, 0) := by decide +kernel
theorem s_406_205 {x1 x2 x3 : Option Value} {w : Value} : lw L xs d Q 205 [some w, x1, x2, x3] (st) h = mv_a w (lw L xs d Q 206 [some w, x1, x2, x3] (w :: st) h) := (lw_at mj_406_205 rfl).trans (z_aload_n rfl)
theorem mj_406_206 : mc_P ml_y 206 = some (.iload_n 3, 1, 0, 0, 0) := by decide +kernel
theorem s_406_206 {x0 x1 x2 : Option Value} {w : Value} : lw L xs d Q 206 [x0, x1, x2, some w] (st) h = mv_i w (lw L xs d Q 207 [x0, x1, x2, some w] (w :: st) h) := (lw_at mj_406_206 rfl).trans (z_iload_n rfl)
theorem mj_406_207 : mc_P ml_y 207 = some (.iconst 1, 1, 0, 0, 0) := by decide +kernel
theorem s_406_207 {x0 x1 x2 x3 : Option Value} : lw L xs d Q 207 [x0, x1, x2, x3] (st) h = lw L xs d Q 208 [x0, x1, x2, x3] (.int 1 :: st) h := (lw_at mj_406_207 rfl).trans (z_iconst (by decide))
theorem mj_406_208 : mc_P ml_y 208 = some (.iadd, 1, 0, 0, 0) := by decide +kernel
theorem s_406_208 {x0 x1 x2 x3 : Option Value} {x w : Int32} : lw L xs d Q 208 [x0, x1, x2, x3] (.int w :: .int x :: st) h = lw L xs d Q 209 [x0, x1, x2, x3] (.int (x + w) :: st) h := (lw_at mj_406_208 rfl).trans (z_iadd)
theorem mj_406_209 : mc_P ml_y 209 = some (.iaload, 1, 0, 0, 0) := by decide +kernel
theorem s_406_209 {x0 x1 x2 x3 : Option Value} {i : Int32} : lw L xs d Q 209 [x0, x1, x2, x3] (.int i :: .retAddr 8 :: st) h = (mx i L ∧ lw L xs d Q 210 [x0, x1, x2, x3] (.int (xs i.toNatClampNeg) :: st) h) := lw_scr mj_406_209
theorem mj_406_210 : mc_P ml_y 210 = some (.invokevirtual 22, 3, 331, 14, 2) := by decide +kernel
theorem s_406_210 {x0 x1 x2 x3 : Option Value} {o : Nat} {a1 : Value} : lw L xs (d + 1) Q 210 [x0, x1, x2, x3] (a1 :: .ref o :: st) h = (mg h o 14 ∧ mca st 8 ∧ mca [.ref o, a1] 3 ∧ mcall d 331 [.ref o, a1] h (lK L xs (d + 1) Q 213 [x0, x1, x2, x3] st)) := (lw_at mj_406_210 rfl).trans ((z_invv (As := [a1]) (by decide) rfl rfl).trans (congrArg (And _) (congrArg (And _) (lC_nl nl_331))))
theorem mj_406_213 : mc_P ml_y 213 = some (.if_icmp .eq 700, 3, 0, 0, 0) := by decide +kernel
theorem s_406_213 {x0 x1 x2 x3 : Option Value} {x w : Int32} : lw L xs d Q 213 [x0, x1, x2, x3] (.int w :: .int x :: st) h = mB (x = w) (lw L xs d Q) 913 216 [x0, x1, x2, x3] st h := (lw_at mj_406_213 rfl).trans (z_icmp_eq (by decide) rfl)
theorem mj_406_216 : mc_P ml_y 216 = some (.iconst 0, 1, 0, 0, 0) := by decide +kernel
theorem s_406_216 {x0 x1 x2 x3 : Option Value} : lw L xs d Q 216 [x0, x1, x2, x3] (st) h = lw L xs d Q 217 [x0, x1, x2, x3] (.int 0 :: st) h := (lw_at mj_406_216 rfl).trans (z_iconst (by decide))
theorem mj_406_217 : mc_P ml_y 217 = some (.ireturn, 1, 0, 3, 0) := by decide +kernel
theorem s_406_217 {x0 x1 x2 x3 : Option Value} {x : Int32} : lw L xs d Q 217 [x0, x1, x2, x3] ([.int x]) h = ((x = 0 ∨ x = 1) ∧ Q (some (.int x)) h) := (lw_at mj_406_217 rfl).trans (z_zret)
theorem mj_406_218 : mc_P ml_y 218 = some (.aload_n 1, 1, 0, 0, 0) := by decide +kernel
theorem s_406_218 {x0 x2 x3 : Option Value} {w : Value} : lw L xs d Q 218 [x0, some w, x2, x3] (st) h = mv_a w (lw L xs d Q 219 [x0, some w, x2, x3] (w :: st) h) := (lw_at mj_406_218 rfl).trans (z_aload_n rfl)
theorem mj_406_219 : mc_P ml_y 219 = some (.aload_n 0, 1, 0, 0, 0) := by decide +kernel
theorem s_406_219 {x1 x2 x3 : Option Value} {w : Value} : lw L xs d Q 219 [some w, x1, x2, x3] (st) h = mv_a w (lw L xs d Q 220 [some w, x1, x2, x3] (w :: st) h) := (lw_at mj_406_219 rfl).trans (z_aload_n rfl)
theorem mj_406_220 : mc_P ml_y 220 = some (.iload_n 3, 1, 0, 0, 0) := by decide +kernel
theorem s_406_220 {x0 x1 x2 : Option Value} {w : Value} : lw L xs d Q 220 [x0, x1, x2, some w] (st) h = mv_i w (lw L xs d Q 221 [x0, x1, x2, some w] (w :: st) h) := (lw_at mj_406_220 rfl).trans (z_iload_n rfl)
theorem mj_406_221 : mc_P ml_y 221 = some (.iconst 1, 1, 0, 0, 0) := by decide +kernel
theorem s_406_221 {x0 x1 x2 x3 : Option Value} : lw L xs d Q 221 [x0, x1, x2, x3] (st) h = lw L xs d Q 222 [x0, x1, x2, x3] (.int 1 :: st) h := (lw_at mj_406_221 rfl).trans (z_iconst (by decide))
theorem mj_406_222 : mc_P ml_y 222 = some (.iadd, 1, 0, 0, 0) := by decide +kernel
theorem s_406_222 {x0 x1 x2 x3 : Option Value} {x w : Int32} : lw L xs d Q 222 [x0, x1, x2, x3] (.int w :: .int x :: st) h = lw L xs d Q 223 [x0, x1, x2, x3] (.int (x + w) :: st) h := (lw_at mj_406_222 rfl).trans (z_iadd)
theorem mj_406_223 : mc_P ml_y 223 = some (.iaload, 1, 0, 0, 0) := by decide +kernel
theorem s_406_223 {x0 x1 x2 x3 : Option Value} {i : Int32} : lw L xs d Q 223 [x0, x1, x2, x3] (.int i :: .retAddr 8 :: st) h = (mx i L ∧ lw L xs d Q 224 [x0, x1, x2, x3] (.int (xs i.toNatClampNeg) :: st) h) := lw_scr mj_406_223
theorem mj_406_224 : mc_P ml_y 224 = some (.invokevirtual 23, 3, 189, 11, 2) := by decide +kernel
theorem s_406_224 {x0 x1 x2 x3 : Option Value} {o : Nat} {a1 : Value} : lw L xs (d + 1) Q 224 [x0, x1, x2, x3] (a1 :: .ref o :: st) h = (mg h o 11 ∧ mca st 8 ∧ mca [.ref o, a1] 2 ∧ mcall d 189 [.ref o, a1] h (lK L xs (d + 1) Q 227 [x0, x1, x2, x3] st)) := (lw_at mj_406_224 rfl).trans ((z_invv (As := [a1]) (by decide) rfl rfl).trans (congrArg (And _) (congrArg (And _) (lC_nl nl_189))))
theorem mj_406_227 : mc_P ml_y 227 = some (.aload_n 2, 1, 0, 0, 0) := by decide +kernel
theorem s_406_227 {x0 x1 x3 : Option Value} {w : Value} : lw L xs d Q 227 [x0, x1, some w, x3] (st) h = mv_a w (lw L xs d Q 228 [x0, x1, some w, x3] (w :: st) h) := (lw_at mj_406_227 rfl).trans (z_aload_n rfl)
theorem mj_406_228 : mc_P ml_y 228 = some (.aload_n 0, 1, 0, 0, 0) := by decide +kernel
theorem s_406_228 {x1 x2 x3 : Option Value} {w : Value} : lw L xs d Q 228 [some w, x1, x2, x3] (st) h = mv_a w (lw L xs d Q 229 [some w, x1, x2, x3] (w :: st) h) := (lw_at mj_406_228 rfl).trans (z_aload_n rfl)
theorem mj_406_229 : mc_P ml_y 229 = some (.iload_n 3, 1, 0, 0, 0) := by decide +kernel
theorem s_406_229 {x0 x1 x2 : Option Value} {w : Value} : lw L xs d Q 229 [x0, x1, x2, some w] (st) h = mv_i w (lw L xs d Q 230 [x0, x1, x2, some w] (w :: st) h) := (lw_at mj_406_229 rfl).trans (z_iload_n rfl)
theorem mj_406_230 : mc_P ml_y 230 = some (.iconst 1, 1, 0, 0, 0) := by decide +kernel
theorem s_406_230 {x0 x1 x2 x3 : Option Value} : lw L xs d Q 230 [x0, x1, x2, x3] (st) h = lw L xs d Q 231 [x0, x1, x2, x3] (.int 1 :: st) h := (lw_at mj_406_230 rfl).trans (z_iconst (by decide))
theorem mj_406_231 : mc_P ml_y 231 = some (.iadd, 1, 0, 0, 0) := by decide +kernel
theorem s_406_231 {x0 x1 x2 x3 : Option Value} {x w : Int32} : lw L xs d Q 231 [x0, x1, x2, x3] (.int w :: .int x :: st) h = lw L xs d Q 232 [x0, x1, x2, x3] (.int (x + w) :: st) h := (lw_at mj_406_231 rfl).trans (z_iadd)
theorem mj_406_232 : mc_P ml_y 232 = some (.iaload, 1, 0, 0, 0) := by decide +kernel
theorem s_406_232 {x0 x1 x2 x3 : Option Value} {i : Int32} : lw L xs d Q 232 [x0, x1, x2, x3] (.int i :: .retAddr 8 :: st) h = (mx i L ∧ lw L xs d Q 233 [x0, x1, x2, x3] (.int (xs i.toNatClampNeg) :: st) h) := lw_scr mj_406_232
theorem mj_406_233 : mc_P ml_y 233 = some (.invokevirtual 26, 3, 332, 14, 2) := by decide +kernel
theorem s_406_233 {x0 x1 x2 x3 : Option Value} {o : Nat} {a1 : Value} : lw L xs (d + 1) Q 233 [x0, x1, x2, x3] (a1 :: .ref o :: st) h = (mg h o 14 ∧ mca st 8 ∧ mca [.ref o, a1] 2 ∧ mcall d 332 [.ref o, a1] h (lK L xs (d + 1) Q 236 [x0, x1, x2, x3] st)) := (lw_at mj_406_233 rfl).trans ((z_invv (As := [a1]) (by decide) rfl rfl).trans (congrArg (And _) (congrArg (And _) (lC_nl nl_332))))
theorem mj_406_236 : mc_P ml_y 236 = some (.if_icmp .eq 677, 3, 0, 0, 0) := by decide +kernel
theorem s_406_236 {x0 x1 x2 x3 : Option Value} {x w : Int32} : lw L xs d Q 236 [x0, x1, x2, x3] (.int w :: .int x :: st) h = mB (x = w) (lw L xs d Q) 913 239 [x0, x1, x2, x3] st h := (lw_at mj_406_236 rfl).trans (z_icmp_eq (by decide) rfl)
theorem mj_406_239 : mc_P ml_y 239 = some (.iconst 0, 1, 0, 0, 0) := by decide +kernel
theorem s_406_239 {x0 x1 x2 x3 : Option Value} : lw L xs d Q 239 [x0, x1, x2, x3] (st) h = lw L xs d Q 240 [x0, x1, x2, x3] (.int 0 :: st) h := (lw_at mj_406_239 rfl).trans (z_iconst (by decide))
theorem mj_406_240 : mc_P ml_y 240 = some (.ireturn, 1, 0, 3, 0) := by decide +kernel
theorem s_406_240 {x0 x1 x2 x3 : Option Value} {x : Int32} : lw L xs d Q 240 [x0, x1, x2, x3] ([.int x]) h = ((x = 0 ∨ x = 1) ∧ Q (some (.int x)) h) := (lw_at mj_406_240 rfl).trans (z_zret)
theorem mj_406_241 : mc_P ml_y 241 = some (.aload_n 1, 1, 0, 0, 0) := by decide +kernel
theorem s_406_241 {x0 x2 x3 : Option Value} {w : Value} : lw L xs d Q 241 [x0, some w, x2, x3] (st) h = mv_a w (lw L xs d Q 242 [x0, some w, x2, x3] (w :: st) h) := (lw_at mj_406_241 rfl).trans (z_aload_n rfl)
theorem mj_406_242 : mc_P ml_y 242 = some (.invokevirtual 27, 3, 190, 11, 1) := by decide +kernel
theorem s_406_242 {x0 x1 x2 x3 : Option Value} {o : Nat} : lw L xs (d + 1) Q 242 [x0, x1, x2, x3] (.ref o :: st) h = (mg h o 11 ∧ mca st 8 ∧ mca [.ref o] 1 ∧ mcall d 190 [.ref o] h (lK L xs (d + 1) Q 245 [x0, x1, x2, x3] st)) := (lw_at mj_406_242 rfl).trans ((z_invv (As := []) (by decide) rfl rfl).trans (congrArg (And _) (congrArg (And _) (lC_nl nl_190))))
theorem mj_406_245 : mc_P ml_y 245 = some (.aload_n 2, 1, 0, 0, 0) := by decide +kernel
theorem s_406_245 {x0 x1 x3 : Option Value} {w : Value} : lw L xs d Q 245 [x0, x1, some w, x3] (st) h = mv_a w (lw L xs d Q 246 [x0, x1, some w, x3] (w :: st) h) := (lw_at mj_406_245 rfl).trans (z_aload_n rfl)
theorem mj_406_246 : mc_P ml_y 246 = some (.invokevirtual 31, 3, 350, 14, 1) := by decide +kernel
theorem s_406_246 {x0 x1 x2 x3 : Option Value} {o : Nat} : lw L xs (d + 1) Q 246 [x0, x1, x2, x3] (.ref o :: st) h = (mg h o 14 ∧ mca st 8 ∧ mca [.ref o] 1 ∧ mcall d 350 [.ref o] h (lK L xs (d + 1) Q 249 [x0, x1, x2, x3] st)) := (lw_at mj_406_246 rfl).trans ((z_invv (As := []) (by decide) rfl rfl).trans (congrArg (And _) (congrArg (And _) (lC_nl nl_350))))
theorem mj_406_249 : mc_P ml_y 249 = some (.if_icmp .eq 664, 3, 0, 0, 0) := by decide +kernel
theorem s_406_249 {x0 x1 x2 x3 : Option Value} {x w : Int32} : lw L xs d Q 249 [x0, x1, x2, x3] (.int w :: .int x :: st) h = mB (x = w) (lw L xs d Q) 913 252 [x0, x1, x2, x3] st h := (lw_at mj_406_249 rfl).trans (z_icmp_eq (by decide) rfl)
theorem mj_406_252 : mc_P ml_y 252 = some (.iconst 0, 1, 0, 0, 0) := by decide +kernel
theorem s_406_252 {x0 x1 x2 x3 : Option Value} : lw L xs d Q 252 [x0, x1, x2, x3] (st) h = lw L xs d Q 253 [x0, x1, x2, x3] (.int 0 :: st) h := (lw_at mj_406_252 rfl).trans (z_iconst (by decide))
theorem mj_406_253 : mc_P ml_y 253 = some (.ireturn, 1, 0, 3, 0) := by decide +kernel
theorem s_406_253 {x0 x1 x2 x3 : Option Value} {x : Int32} : lw L xs d Q 253 [x0, x1, x2, x3] ([.int x]) h = ((x = 0 ∨ x = 1) ∧ Q (some (.int x)) h) := (lw_at mj_406_253 rfl).trans (z_zret)
theorem mj_406_254 : mc_P ml_y 254 = some (.aload_n 1, 1, 0, 0, 0) := by decide +kernel
theorem s_406_254 {x0 x2 x3 : Option Value} {w : Value} : lw L xs d Q 254 [x0, some w, x2, x3] (st) h = mv_a w (lw L xs d Q 255 [x0, some w, x2, x3] (w :: st) h) := (lw_at mj_406_254 rfl).trans (z_aload_n rfl)
theorem mj_406_255 : mc_P ml_y 255 = some (.aload_n 0, 1, 0, 0, 0) := by decide +kernel
theorem s_406_255 {x1 x2 x3 : Option Value} {w : Value} : lw L xs d Q 255 [some w, x1, x2, x3] (st) h = mv_a w (lw L xs d Q 256 [some w, x1, x2, x3] (w :: st) h) := (lw_at mj_406_255 rfl).trans (z_aload_n rfl)
theorem mj_406_256 : mc_P ml_y 256 = some (.iload_n 3, 1, 0, 0, 0) := by decide +kernel
theorem s_406_256 {x0 x1 x2 : Option Value} {w : Value} : lw L xs d Q 256 [x0, x1, x2, some w] (st) h = mv_i w (lw L xs d Q 257 [x0, x1, x2, some w] (w :: st) h) := (lw_at mj_406_256 rfl).trans (z_iload_n rfl)
theorem mj_406_257 : mc_P ml_y 257 = some (.iconst 1, 1, 0, 0, 0) := by decide +kernel
theorem s_406_257 {x0 x1 x2 x3 : Option Value} : lw L xs d Q 257 [x0, x1, x2, x3] (st) h = lw L xs d Q 258 [x0, x1, x2, x3] (.int 1 :: st) h := (lw_at mj_406_257 rfl).trans (z_iconst (by decide))
theorem mj_406_258 : mc_P ml_y 258 = some (.iadd, 1, 0, 0, 0) := by decide +kernel
theorem s_406_258 {x0 x1 x2 x3 : Option Value} {x w : Int32} : lw L xs d Q 258 [x0, x1, x2, x3] (.int w :: .int x :: st) h = lw L xs d Q 259 [x0, x1, x2, x3] (.int (x + w) :: st) h := (lw_at mj_406_258 rfl).trans (z_iadd)
theorem mj_406_259 : mc_P ml_y 259 = some (.iaload, 1, 0, 0, 0) := by decide +kernel
theorem s_406_259 {x0 x1 x2 x3 : Option Value} {i : Int32} : lw L xs d Q 259 [x0, x1, x2, x3] (.int i :: .retAddr 8 :: st) h = (mx i L ∧ lw L xs d Q 260 [x0, x1, x2, x3] (.int (xs i.toNatClampNeg) :: st) h) := lw_scr mj_406_259
theorem mj_406_260 : mc_P ml_y 260 = some (.aload_n 0, 1, 0, 0, 0) := by decide +kernel
theorem s_406_260 {x1 x2 x3 : Option Value} {w : Value} : lw L xs d Q 260 [some w, x1, x2, x3] (st) h = mv_a w (lw L xs d Q 261 [some w, x1, x2, x3] (w :: st) h) := (lw_at mj_406_260 rfl).trans (z_aload_n rfl)
theorem mj_406_261 : mc_P ml_y 261 = some (.iload_n 3, 1, 0, 0, 0) := by decide +kernel
theorem s_406_261 {x0 x1 x2 : Option Value} {w : Value} : lw L xs d Q 261 [x0, x1, x2, some w] (st) h = mv_i w (lw L xs d Q 262 [x0, x1, x2, some w] (w :: st) h) := (lw_at mj_406_261 rfl).trans (z_iload_n rfl)
theorem mj_406_262 : mc_P ml_y 262 = some (.iconst 2, 1, 0, 0, 0) := by decide +kernel
theorem s_406_262 {x0 x1 x2 x3 : Option Value} : lw L xs d Q 262 [x0, x1, x2, x3] (st) h = lw L xs d Q 263 [x0, x1, x2, x3] (.int 2 :: st) h := (lw_at mj_406_262 rfl).trans (z_iconst (by decide))
theorem mj_406_263 : mc_P ml_y 263 = some (.iadd, 1, 0, 0, 0) := by decide +kernel
theorem s_406_263 {x0 x1 x2 x3 : Option Value} {x w : Int32} : lw L xs d Q 263 [x0, x1, x2, x3] (.int w :: .int x :: st) h = lw L xs d Q 264 [x0, x1, x2, x3] (.int (x + w) :: st) h := (lw_at mj_406_263 rfl).trans (z_iadd)
theorem mj_406_264 : mc_P ml_y 264 = some (.iaload, 1, 0, 0, 0) := by decide +kernel
theorem s_406_264 {x0 x1 x2 x3 : Option Value} {i : Int32} : lw L xs d Q 264 [x0, x1, x2, x3] (.int i :: .retAddr 8 :: st) h = (mx i L ∧ lw L xs d Q 265 [x0, x1, x2, x3] (.int (xs i.toNatClampNeg) :: st) h) := lw_scr mj_406_264
theorem mj_406_265 : mc_P ml_y 265 = some (.invokevirtual 32, 3, 191, 11, 3) := by decide +kernel
theorem s_406_265 {x0 x1 x2 x3 : Option Value} {o : Nat} {a1 a2 : Value} : lw L xs (d + 1) Q 265 [x0, x1, x2, x3] (a2 :: a1 :: .ref o :: st) h = (mg h o 11 ∧ mca st 8 ∧ mca [.ref o, a1, a2] 3 ∧ mcall d 191 [.ref o, a1, a2] h (lK L xs (d + 1) Q 268 [x0, x1, x2, x3] st)) := (lw_at mj_406_265 rfl).trans ((z_invv (As := [a1, a2]) (by decide) rfl rfl).trans (congrArg (And _) (congrArg (And _) (lC_nl nl_191))))
theorem mj_406_268 : mc_P ml_y 268 = some (.aload_n 2, 1, 0, 0, 0) := by decide +kernel
theorem s_406_268 {x0 x1 x3 : Option Value} {w : Value} : lw L xs d Q 268 [x0, x1, some w, x3] (st) h = mv_a w (lw L xs d Q 269 [x0, x1, some w, x3] (w :: st) h) := (lw_at mj_406_268 rfl).trans (z_aload_n rfl)
theorem mj_406_269 : mc_P ml_y 269 = some (.aload_n 0, 1, 0, 0, 0) := by decide +kernel
theorem s_406_269 {x1 x2 x3 : Option Value} {w : Value} : lw L xs d Q 269 [some w, x1, x2, x3] (st) h = mv_a w (lw L xs d Q 270 [some w, x1, x2, x3] (w :: st) h) := (lw_at mj_406_269 rfl).trans (z_aload_n rfl)
theorem mj_406_270 : mc_P ml_y 270 = some (.iload_n 3, 1, 0, 0, 0) := by decide +kernel
theorem s_406_270 {x0 x1 x2 : Option Value} {w : Value} : lw L xs d Q 270 [x0, x1, x2, some w] (st) h = mv_i w (lw L xs d Q 271 [x0, x1, x2, some w] (w :: st) h) := (lw_at mj_406_270 rfl).trans (z_iload_n rfl)
theorem mj_406_271 : mc_P ml_y 271 = some (.iconst 1, 1, 0, 0, 0) := by decide +kernel
theorem s_406_271 {x0 x1 x2 x3 : Option Value} : lw L xs d Q 271 [x0, x1, x2, x3] (st) h = lw L xs d Q 272 [x0, x1, x2, x3] (.int 1 :: st) h := (lw_at mj_406_271 rfl).trans (z_iconst (by decide))
theorem mj_406_272 : mc_P ml_y 272 = some (.iadd, 1, 0, 0, 0) := by decide +kernel
theorem s_406_272 {x0 x1 x2 x3 : Option Value} {x w : Int32} : lw L xs d Q 272 [x0, x1, x2, x3] (.int w :: .int x :: st) h = lw L xs d Q 273 [x0, x1, x2, x3] (.int (x + w) :: st) h := (lw_at mj_406_272 rfl).trans (z_iadd)
theorem mj_406_273 : mc_P ml_y 273 = some (.iaload, 1, 0, 0, 0) := by decide +kernel
theorem s_406_273 {x0 x1 x2 x3 : Option Value} {i : Int32} : lw L xs d Q 273 [x0, x1, x2, x3] (.int i :: .retAddr 8 :: st) h = (mx i L ∧ lw L xs d Q 274 [x0, x1, x2, x3] (.int (xs i.toNatClampNeg) :: st) h) := lw_scr mj_406_273
theorem mj_406_274 : mc_P ml_y 274 = some (.aload_n 0, 1, 0, 0, 0) := by decide +kernel
theorem s_406_274 {x1 x2 x3 : Option Value} {w : Value} : lw L xs d Q 274 [some w, x1, x2, x3] (st) h = mv_a w (lw L xs d Q 275 [some w, x1, x2, x3] (w :: st) h) := (lw_at mj_406_274 rfl).trans (z_aload_n rfl)
theorem mj_406_275 : mc_P ml_y 275 = some (.iload_n 3, 1, 0, 0, 0) := by decide +kernel
theorem s_406_275 {x0 x1 x2 : Option Value} {w : Value} : lw L xs d Q 275 [x0, x1, x2, some w] (st) h = mv_i w (lw L xs d Q 276 [x0, x1, x2, some w] (w :: st) h) := (lw_at mj_406_275 rfl).trans (z_iload_n rfl)
theorem mj_406_276 : mc_P ml_y 276 = some (.iconst 2, 1, 0, 0, 0) := by decide +kernel
theorem s_406_276 {x0 x1 x2 x3 : Option Value} : lw L xs d Q 276 [x0, x1, x2, x3] (st) h = lw L xs d Q 277 [x0, x1, x2, x3] (.int 2 :: st) h := (lw_at mj_406_276 rfl).trans (z_iconst (by decide))
theorem mj_406_277 : mc_P ml_y 277 = some (.iadd, 1, 0, 0, 0) := by decide +kernel
theorem s_406_277 {x0 x1 x2 x3 : Option Value} {x w : Int32} : lw L xs d Q 277 [x0, x1, x2, x3] (.int w :: .int x :: st) h = lw L xs d Q 278 [x0, x1, x2, x3] (.int (x + w) :: st) h := (lw_at mj_406_277 rfl).trans (z_iadd)
theorem mj_406_278 : mc_P ml_y 278 = some (.iaload, 1, 0, 0, 0) := by decide +kernel
theorem s_406_278 {x0 x1 x2 x3 : Option Value} {i : Int32} : lw L xs d Q 278 [x0, x1, x2, x3] (.int i :: .retAddr 8 :: st) h = (mx i L ∧ lw L xs d Q 279 [x0, x1, x2, x3] (.int (xs i.toNatClampNeg) :: st) h) := lw_scr mj_406_278
theorem mj_406_279 : mc_P ml_y 279 = some (.invokevirtual 36, 3, 352, 14, 3) := by decide +kernel
theorem s_406_279 {x0 x1 x2 x3 : Option Value} {o : Nat} {a1 a2 : Value} : lw L xs (d + 1) Q 279 [x0, x1, x2, x3] (a2 :: a1 :: .ref o :: st) h = (mg h o 14 ∧ mca st 8 ∧ mca [.ref o, a1, a2] 5 ∧ mcall d 352 [.ref o, a1, a2] h (lK L xs (d + 1) Q 282 [x0, x1, x2, x3] st)) := (lw_at mj_406_279 rfl).trans ((z_invv (As := [a1, a2]) (by decide) rfl rfl).trans (congrArg (And _) (congrArg (And _) (lC_nl nl_352))))
theorem mj_406_282 : mc_P ml_y 282 = some (.if_icmp .eq 631, 3, 0, 0, 0) := by decide +kernel
theorem s_406_282 {x0 x1 x2 x3 : Option Value} {x w : Int32} : lw L xs d Q 282 [x0, x1, x2, x3] (.int w :: .int x :: st) h = mB (x = w) (lw L xs d Q) 913 285 [x0, x1, x2, x3] st h := (lw_at mj_406_282 rfl).trans (z_icmp_eq (by decide) rfl)
theorem mj_406_285 : mc_P ml_y 285 = some (.iconst 0, 1, 0, 0, 0) := by decide +kernel
theorem s_406_285 {x0 x1 x2 x3 : Option Value} : lw L xs d Q 285 [x0, x1, x2, x3] (st) h = lw L xs d Q 286 [x0, x1, x2, x3] (.int 0 :: st) h := (lw_at mj_406_285 rfl).trans (z_iconst (by decide))
theorem mj_406_286 : mc_P ml_y 286 = some (.ireturn, 1, 0, 3, 0) := by decide +kernel
theorem s_406_286 {x0 x1 x2 x3 : Option Value} {x : Int32} : lw L xs d Q 286 [x0, x1, x2, x3] ([.int x]) h = ((x = 0 ∨ x = 1) ∧ Q (some (.int x)) h) := (lw_at mj_406_286 rfl).trans (z_zret)
theorem mj_406_287 : mc_P ml_y 287 = some (.aload_n 1, 1, 0, 0, 0) := by decide +kernel
theorem s_406_287 {x0 x2 x3 : Option Value} {w : Value} : lw L xs d Q 287 [x0, some w, x2, x3] (st) h = mv_a w (lw L xs d Q 288 [x0, some w, x2, x3] (w :: st) h) := (lw_at mj_406_287 rfl).trans (z_aload_n rfl)
theorem mj_406_288 : mc_P ml_y 288 = some (.aload_n 0, 1, 0, 0, 0) := by decide +kernel
theorem s_406_288 {x1 x2 x3 : Option Value} {w : Value} : lw L xs d Q 288 [some w, x1, x2, x3] (st) h = mv_a w (lw L xs d Q 289 [some w, x1, x2, x3] (w :: st) h) := (lw_at mj_406_288 rfl).trans (z_aload_n rfl)
theorem mj_406_289 : mc_P ml_y 289 = some (.iload_n 3, 1, 0, 0, 0) := by decide +kernel
theorem s_406_289 {x0 x1 x2 : Option Value} {w : Value} : lw L xs d Q 289 [x0, x1, x2, some w] (st) h = mv_i w (lw L xs d Q 290 [x0, x1, x2, some w] (w :: st) h) := (lw_at mj_406_289 rfl).trans (z_iload_n rfl)
theorem mj_406_290 : mc_P ml_y 290 = some (.iconst 1, 1, 0, 0, 0) := by decide +kernel
theorem s_406_290 {x0 x1 x2 x3 : Option Value} : lw L xs d Q 290 [x0, x1, x2, x3] (st) h = lw L xs d Q 291 [x0, x1, x2, x3] (.int 1 :: st) h := (lw_at mj_406_290 rfl).trans (z_iconst (by decide))
theorem mj_406_291 : mc_P ml_y 291 = some (.iadd, 1, 0, 0, 0) := by decide +kernel
theorem s_406_291 {x0 x1 x2 x3 : Option Value} {x w : Int32} : lw L xs d Q 291 [x0, x1, x2, x3] (.int w :: .int x :: st) h = lw L xs d Q 292 [x0, x1, x2, x3] (.int (x + w) :: st) h := (lw_at mj_406_291 rfl).trans (z_iadd)
theorem mj_406_292 : mc_P ml_y 292 = some (.iaload, 1, 0, 0, 0) := by decide +kernel
theorem s_406_292 {x0 x1 x2 x3 : Option Value} {i : Int32} : lw L xs d Q 292 [x0, x1, x2, x3] (.int i :: .retAddr 8 :: st) h = (mx i L ∧ lw L xs d Q 293 [x0, x1, x2, x3] (.int (xs i.toNatClampNeg) :: st) h) := lw_scr mj_406_292
theorem mj_406_293 : mc_P ml_y 293 = some (.ifCond .eq 7, 3, 0, 0, 0) := by decide +kernel
theorem s_406_293 {x0 x1 x2 x3 : Option Value} {x : Int32} : lw L xs d Q 293 [x0, x1, x2, x3] (.int x :: st) h = mB (x = 0) (lw L xs d Q) 300 296 [x0, x1, x2, x3] st h := (lw_at mj_406_293 rfl).trans (z_if_eq (by decide) rfl)
theorem mj_406_296 : mc_P ml_y 296 = some (.iconst 1, 1, 0, 0, 0) := by decide +kernel
theorem s_406_296 {x0 x1 x2 x3 : Option Value} : lw L xs d Q 296 [x0, x1, x2, x3] (st) h = lw L xs d Q 297 [x0, x1, x2, x3] (.int 1 :: st) h := (lw_at mj_406_296 rfl).trans (z_iconst (by decide))
theorem mj_406_297 : mc_P ml_y 297 = some (.goto 4, 3, 0, 0, 0) := by decide +kernel
theorem s_406_297 {x0 x1 x2 x3 : Option Value} : lw L xs d Q 297 [x0, x1, x2, x3] (st) h = lw L xs d Q 301 [x0, x1, x2, x3] (st) h := (lw_at mj_406_297 rfl).trans (z_goto (by decide))
theorem mj_406_300 : mc_P ml_y 300 = some (.iconst 0, 1, 0, 0, 0) := by decide +kernel
theorem s_406_300 {x0 x1 x2 x3 : Option Value} : lw L xs d Q 300 [x0, x1, x2, x3] (st) h = lw L xs d Q 301 [x0, x1, x2, x3] (.int 0 :: st) h := (lw_at mj_406_300 rfl).trans (z_iconst (by decide))
theorem mj_406_301 : mc_P ml_y 301 = some (.aload_n 0, 1, 0, 0, 0) := by decide +kernel
theorem s_406_301 {x1 x2 x3 : Option Value} {w : Value} : lw L xs d Q 301 [some w, x1, x2, x3] (st) h = mv_a w (lw L xs d Q 302 [some w, x1, x2, x3] (w :: st) h) := (lw_at mj_406_301 rfl).trans (z_aload_n rfl)
theorem mj_406_302 : mc_P ml_y 302 = some (.iload_n 3, 1, 0, 0, 0) := by decide +kernel
theorem s_406_302 {x0 x1 x2 : Option Value} {w : Value} : lw L xs d Q 302 [x0, x1, x2, some w] (st) h = mv_i w (lw L xs d Q 303 [x0, x1, x2, some w] (w :: st) h) := (lw_at mj_406_302 rfl).trans (z_iload_n rfl)
theorem mj_406_303 : mc_P ml_y 303 = some (.iconst 2, 1, 0, 0, 0) := by decide +kernel
theorem s_406_303 {x0 x1 x2 x3 : Option Value} : lw L xs d Q 303 [x0, x1, x2, x3] (st) h = lw L xs d Q 304 [x0, x1, x2, x3] (.int 2 :: st) h := (lw_at mj_406_303 rfl).trans (z_iconst (by decide))
theorem mj_406_304 : mc_P ml_y 304 = some (.iadd, 1, 0, 0, 0) := by decide +kernel
theorem s_406_304 {x0 x1 x2 x3 : Option Value} {x w : Int32} : lw L xs d Q 304 [x0, x1, x2, x3] (.int w :: .int x :: st) h = lw L xs d Q 305 [x0, x1, x2, x3] (.int (x + w) :: st) h := (lw_at mj_406_304 rfl).trans (z_iadd)
theorem mj_406_305 : mc_P ml_y 305 = some (.iaload, 1, 0, 0, 0) := by decide +kernel
theorem s_406_305 {x0 x1 x2 x3 : Option Value} {i : Int32} : lw L xs d Q 305 [x0, x1, x2, x3] (.int i :: .retAddr 8 :: st) h = (mx i L ∧ lw L xs d Q 306 [x0, x1, x2, x3] (.int (xs i.toNatClampNeg) :: st) h) := lw_scr mj_406_305
theorem mj_406_306 : mc_P ml_y 306 = some (.aload_n 0, 1, 0, 0, 0) := by decide +kernel
theorem s_406_306 {x1 x2 x3 : Option Value} {w : Value} : lw L xs d Q 306 [some w, x1, x2, x3] (st) h = mv_a w (lw L xs d Q 307 [some w, x1, x2, x3] (w :: st) h) := (lw_at mj_406_306 rfl).trans (z_aload_n rfl)
theorem mj_406_307 : mc_P ml_y 307 = some (.iload_n 3, 1, 0, 0, 0) := by decide +kernel
theorem s_406_307 {x0 x1 x2 : Option Value} {w : Value} : lw L xs d Q 307 [x0, x1, x2, some w] (st) h = mv_i w (lw L xs d Q 308 [x0, x1, x2, some w] (w :: st) h) := (lw_at mj_406_307 rfl).trans (z_iload_n rfl)
theorem mj_406_308 : mc_P ml_y 308 = some (.iconst 3, 1, 0, 0, 0) := by decide +kernel
theorem s_406_308 {x0 x1 x2 x3 : Option Value} : lw L xs d Q 308 [x0, x1, x2, x3] (st) h = lw L xs d Q 309 [x0, x1, x2, x3] (.int 3 :: st) h := (lw_at mj_406_308 rfl).trans (z_iconst (by decide))
theorem mj_406_309 : mc_P ml_y 309 = some (.iadd, 1, 0, 0, 0) := by decide +kernel
theorem s_406_309 {x0 x1 x2 x3 : Option Value} {x w : Int32} : lw L xs d Q 309 [x0, x1, x2, x3] (.int w :: .int x :: st) h = lw L xs d Q 310 [x0, x1, x2, x3] (.int (x + w) :: st) h := (lw_at mj_406_309 rfl).trans (z_iadd)
theorem mj_406_310 : mc_P ml_y 310 = some (.iaload, 1, 0, 0, 0) := by decide +kernel
theorem s_406_310 {x0 x1 x2 x3 : Option Value} {i : Int32} : lw L xs d Q 310 [x0, x1, x2, x3] (.int i :: .retAddr 8 :: st) h = (mx i L ∧ lw L xs d Q 311 [x0, x1, x2, x3] (.int (xs i.toNatClampNeg) :: st) h) := lw_scr mj_406_310
theorem mj_406_311 : mc_P ml_y 311 = some (.aload_n 0, 1, 0, 0, 0) := by decide +kernel
theorem s_406_311 {x1 x2 x3 : Option Value} {w : Value} : lw L xs d Q 311 [some w, x1, x2, x3] (st) h = mv_a w (lw L xs d Q 312 [some w, x1, x2, x3] (w :: st) h) := (lw_at mj_406_311 rfl).trans (z_aload_n rfl)
theorem mj_406_312 : mc_P ml_y 312 = some (.iload_n 3, 1, 0, 0, 0) := by decide +kernel
theorem s_406_312 {x0 x1 x2 : Option Value} {w : Value} : lw L xs d Q 312 [x0, x1, x2, some w] (st) h = mv_i w (lw L xs d Q 313 [x0, x1, x2, some w] (w :: st) h) := (lw_at mj_406_312 rfl).trans (z_iload_n rfl)
theorem mj_406_313 : mc_P ml_y 313 = some (.iconst 4, 1, 0, 0, 0) := by decide +kernel
theorem s_406_313 {x0 x1 x2 x3 : Option Value} : lw L xs d Q 313 [x0, x1, x2, x3] (st) h = lw L xs d Q 314 [x0, x1, x2, x3] (.int 4 :: st) h := (lw_at mj_406_313 rfl).trans (z_iconst (by decide))
theorem mj_406_314 : mc_P ml_y 314 = some (.iadd, 1, 0, 0, 0) := by decide +kernel
theorem s_406_314 {x0 x1 x2 x3 : Option Value} {x w : Int32} : lw L xs d Q 314 [x0, x1, x2, x3] (.int w :: .int x :: st) h = lw L xs d Q 315 [x0, x1, x2, x3] (.int (x + w) :: st) h := (lw_at mj_406_314 rfl).trans (z_iadd)
theorem mj_406_315 : mc_P ml_y 315 = some (.iaload, 1, 0, 0, 0) := by decide +kernel
theorem s_406_315 {x0 x1 x2 x3 : Option Value} {i : Int32} : lw L xs d Q 315 [x0, x1, x2, x3] (.int i :: .retAddr 8 :: st) h = (mx i L ∧ lw L xs d Q 316 [x0, x1, x2, x3] (.int (xs i.toNatClampNeg) :: st) h) := lw_scr mj_406_315
theorem mj_406_316 : mc_P ml_y 316 = some (.aload_n 0, 1, 0, 0, 0) := by decide +kernel
theorem s_406_316 {x1 x2 x3 : Option Value} {w : Value} : lw L xs d Q 316 [some w, x1, x2, x3] (st) h = mv_a w (lw L xs d Q 317 [some w, x1, x2, x3] (w :: st) h) := (lw_at mj_406_316 rfl).trans (z_aload_n rfl)
theorem mj_406_317 : mc_P ml_y 317 = some (.iload_n 3, 1, 0, 0, 0) := by decide +kernel
theorem s_406_317 {x0 x1 x2 : Option Value} {w : Value} : lw L xs d Q 317 [x0, x1, x2, some w] (st) h = mv_i w (lw L xs d Q 318 [x0, x1, x2, some w] (w :: st) h) := (lw_at mj_406_317 rfl).trans (z_iload_n rfl)
theorem mj_406_318 : mc_P ml_y 318 = some (.iconst 5, 1, 0, 0, 0) := by decide +kernel
theorem s_406_318 {x0 x1 x2 x3 : Option Value} : lw L xs d Q 318 [x0, x1, x2, x3] (st) h = lw L xs d Q 319 [x0, x1, x2, x3] (.int 5 :: st) h := (lw_at mj_406_318 rfl).trans (z_iconst (by decide))
theorem mj_406_319 : mc_P ml_y 319 = some (.iadd, 1, 0, 0, 0) := by decide +kernel
theorem s_406_319 {x0 x1 x2 x3 : Option Value} {x w : Int32} : lw L xs d Q 319 [x0, x1, x2, x3] (.int w :: .int x :: st) h = lw L xs d Q 320 [x0, x1, x2, x3] (.int (x + w) :: st) h := (lw_at mj_406_319 rfl).trans (z_iadd)
theorem mj_406_320 : mc_P ml_y 320 = some (.iaload, 1, 0, 0, 0) := by decide +kernel
theorem s_406_320 {x0 x1 x2 x3 : Option Value} {i : Int32} : lw L xs d Q 320 [x0, x1, x2, x3] (.int i :: .retAddr 8 :: st) h = (mx i L ∧ lw L xs d Q 321 [x0, x1, x2, x3] (.int (xs i.toNatClampNeg) :: st) h) := lw_scr mj_406_320
theorem mj_406_321 : mc_P ml_y 321 = some (.aload_n 0, 1, 0, 0, 0) := by decide +kernel
theorem s_406_321 {x1 x2 x3 : Option Value} {w : Value} : lw L xs d Q 321 [some w, x1, x2, x3] (st) h = mv_a w (lw L xs d Q 322 [some w, x1, x2, x3] (w :: st) h) := (lw_at mj_406_321 rfl).trans (z_aload_n rfl)
theorem mj_406_322 : mc_P ml_y 322 = some (.iload_n 3, 1, 0, 0, 0) := by decide +kernel
theorem s_406_322 {x0 x1 x2 : Option Value} {w : Value} : lw L xs d Q 322 [x0, x1, x2, some w] (st) h = mv_i w (lw L xs d Q 323 [x0, x1, x2, some w] (w :: st) h) := (lw_at mj_406_322 rfl).trans (z_iload_n rfl)
theorem mj_406_323 : mc_P ml_y 323 = some (.bipush 6, 2, 0, 0, 0) := by decide +kernel
theorem s_406_323 {x0 x1 x2 x3 : Option Value} : lw L xs d Q 323 [x0, x1, x2, x3] (st) h = lw L xs d Q 325 [x0, x1, x2, x3] (.int 6 :: st) h := (lw_at mj_406_323 rfl).trans (z_bipush (by decide))
theorem mj_406_325 : mc_P ml_y 325 = some (.iadd, 1, 0, 0, 0) := by decide +kernel
theorem s_406_325 {x0 x1 x2 x3 : Option Value} {x w : Int32} : lw L xs d Q 325 [x0, x1, x2, x3] (.int w :: .int x :: st) h = lw L xs d Q 326 [x0, x1, x2, x3] (.int (x + w) :: st) h := (lw_at mj_406_325 rfl).trans (z_iadd)
theorem mj_406_326 : mc_P ml_y 326 = some (.iaload, 1, 0, 0, 0) := by decide +kernel
theorem s_406_326 {x0 x1 x2 x3 : Option Value} {i : Int32} : lw L xs d Q 326 [x0, x1, x2, x3] (.int i :: .retAddr 8 :: st) h = (mx i L ∧ lw L xs d Q 327 [x0, x1, x2, x3] (.int (xs i.toNatClampNeg) :: st) h) := lw_scr mj_406_326
theorem mj_406_327 : mc_P ml_y 327 = some (.invokevirtual 37, 3, 196, 11, 7) := by decide +kernel
theorem s_406_327 {x0 x1 x2 x3 : Option Value} {o : Nat} {a1 a2 a3 a4 a5 a6 : Value} : lw L xs (d + 1) Q 327 [x0, x1, x2, x3] (a6 :: a5 :: a4 :: a3 :: a2 :: a1 :: .ref o :: st) h = (mg h o 11 ∧ mca st 8 ∧ mca [.ref o, a1, a2, a3, a4, a5, a6] 8 ∧ mcall d 196 [.ref o, a1, a2, a3, a4, a5, a6] h (lK L xs (d + 1) Q 330 [x0, x1, x2, x3] st)) := (lw_at mj_406_327 rfl).trans ((z_invv (As := [a1, a2, a3, a4, a5, a6]) (by decide) rfl rfl).trans (congrArg (And _) (congrArg (And _) (lC_nl nl_196))))
theorem mj_406_330 : mc_P ml_y 330 = some (.aload_n 2, 1, 0, 0, 0) := by decide +kernel
theorem s_406_330 {x0 x1 x3 : Option Value} {w : Value} : lw L xs d Q 330 [x0, x1, some w, x3] (st) h = mv_a w (lw L xs d Q 331 [x0, x1, some w, x3] (w :: st) h) := (lw_at mj_406_330 rfl).trans (z_aload_n rfl)
theorem mj_406_331 : mc_P ml_y 331 = some (.aload_n 0, 1, 0, 0, 0) := by decide +kernel
theorem s_406_331 {x1 x2 x3 : Option Value} {w : Value} : lw L xs d Q 331 [some w, x1, x2, x3] (st) h = mv_a w (lw L xs d Q 332 [some w, x1, x2, x3] (w :: st) h) := (lw_at mj_406_331 rfl).trans (z_aload_n rfl)
theorem mj_406_332 : mc_P ml_y 332 = some (.iload_n 3, 1, 0, 0, 0) := by decide +kernel
theorem s_406_332 {x0 x1 x2 : Option Value} {w : Value} : lw L xs d Q 332 [x0, x1, x2, some w] (st) h = mv_i w (lw L xs d Q 333 [x0, x1, x2, some w] (w :: st) h) := (lw_at mj_406_332 rfl).trans (z_iload_n rfl)
theorem mj_406_333 : mc_P ml_y 333 = some (.iconst 1, 1, 0, 0, 0) := by decide +kernel
theorem s_406_333 {x0 x1 x2 x3 : Option Value} : lw L xs d Q 333 [x0, x1, x2, x3] (st) h = lw L xs d Q 334 [x0, x1, x2, x3] (.int 1 :: st) h := (lw_at mj_406_333 rfl).trans (z_iconst (by decide))
theorem mj_406_334 : mc_P ml_y 334 = some (.iadd, 1, 0, 0, 0) := by decide +kernel
theorem s_406_334 {x0 x1 x2 x3 : Option Value} {x w : Int32} : lw L xs d Q 334 [x0, x1, x2, x3] (.int w :: .int x :: st) h = lw L xs d Q 335 [x0, x1, x2, x3] (.int (x + w) :: st) h := (lw_at mj_406_334 rfl).trans (z_iadd)
theorem mj_406_335 : mc_P ml_y 335 = some (.iaload, 1, 0, 0, 0) := by decide +kernel
theorem s_406_335 {x0 x1 x2 x3 : Option Value} {i : Int32} : lw L xs d Q 335 [x0, x1, x2, x3] (.int i :: .retAddr 8 :: st) h = (mx i L ∧ lw L xs d Q 336 [x0, x1, x2, x3] (.int (xs i.toNatClampNeg) :: st) h) := lw_scr mj_406_335
theorem mj_406_336 : mc_P ml_y 336 = some (.ifCond .eq 7, 3, 0, 0, 0) := by decide +kernel
theorem s_406_336 {x0 x1 x2 x3 : Option Value} {x : Int32} : lw L xs d Q 336 [x0, x1, x2, x3] (.int x :: st) h = mB (x = 0) (lw L xs d Q) 343 339 [x0, x1, x2, x3] st h := (lw_at mj_406_336 rfl).trans (z_if_eq (by decide) rfl)
theorem mj_406_339 : mc_P ml_y 339 = some (.iconst 1, 1, 0, 0, 0) := by decide +kernel
theorem s_406_339 {x0 x1 x2 x3 : Option Value} : lw L xs d Q 339 [x0, x1, x2, x3] (st) h = lw L xs d Q 340 [x0, x1, x2, x3] (.int 1 :: st) h := (lw_at mj_406_339 rfl).trans (z_iconst (by decide))
theorem mj_406_340 : mc_P ml_y 340 = some (.goto 4, 3, 0, 0, 0) := by decide +kernel
theorem s_406_340 {x0 x1 x2 x3 : Option Value} : lw L xs d Q 340 [x0, x1, x2, x3] (st) h = lw L xs d Q 344 [x0, x1, x2, x3] (st) h := (lw_at mj_406_340 rfl).trans (z_goto (by decide))
theorem mj_406_343 : mc_P ml_y 343 = some (.iconst 0, 1, 0, 0, 0) := by decide +kernel
theorem s_406_343 {x0 x1 x2 x3 : Option Value} : lw L xs d Q 343 [x0, x1, x2, x3] (st) h = lw L xs d Q 344 [x0, x1, x2, x3] (.int 0 :: st) h := (lw_at mj_406_343 rfl).trans (z_iconst (by decide))
theorem mj_406_344 : mc_P ml_y 344 = some (.aload_n 0, 1, 0, 0, 0) := by decide +kernel
theorem s_406_344 {x1 x2 x3 : Option Value} {w : Value} : lw L xs d Q 344 [some w, x1, x2, x3] (st) h = mv_a w (lw L xs d Q 345 [some w, x1, x2, x3] (w :: st) h) := (lw_at mj_406_344 rfl).trans (z_aload_n rfl)
theorem mj_406_345 : mc_P ml_y 345 = some (.iload_n 3, 1, 0, 0, 0) := by decide +kernel
theorem s_406_345 {x0 x1 x2 : Option Value} {w : Value} : lw L xs d Q 345 [x0, x1, x2, some w] (st) h = mv_i w (lw L xs d Q 346 [x0, x1, x2, some w] (w :: st) h) := (lw_at mj_406_345 rfl).trans (z_iload_n rfl)
theorem mj_406_346 : mc_P ml_y 346 = some (.iconst 2, 1, 0, 0, 0) := by decide +kernel
theorem s_406_346 {x0 x1 x2 x3 : Option Value} : lw L xs d Q 346 [x0, x1, x2, x3] (st) h = lw L xs d Q 347 [x0, x1, x2, x3] (.int 2 :: st) h := (lw_at mj_406_346 rfl).trans (z_iconst (by decide))
theorem mj_406_347 : mc_P ml_y 347 = some (.iadd, 1, 0, 0, 0) := by decide +kernel
theorem s_406_347 {x0 x1 x2 x3 : Option Value} {x w : Int32} : lw L xs d Q 347 [x0, x1, x2, x3] (.int w :: .int x :: st) h = lw L xs d Q 348 [x0, x1, x2, x3] (.int (x + w) :: st) h := (lw_at mj_406_347 rfl).trans (z_iadd)
theorem mj_406_348 : mc_P ml_y 348 = some (.iaload, 1, 0, 0, 0) := by decide +kernel
theorem s_406_348 {x0 x1 x2 x3 : Option Value} {i : Int32} : lw L xs d Q 348 [x0, x1, x2, x3] (.int i :: .retAddr 8 :: st) h = (mx i L ∧ lw L xs d Q 349 [x0, x1, x2, x3] (.int (xs i.toNatClampNeg) :: st) h) := lw_scr mj_406_348
theorem mj_406_349 : mc_P ml_y 349 = some (.aload_n 0, 1, 0, 0, 0) := by decide +kernel
theorem s_406_349 {x1 x2 x3 : Option Value} {w : Value} : lw L xs d Q 349 [some w, x1, x2, x3] (st) h = mv_a w (lw L xs d Q 350 [some w, x1, x2, x3] (w :: st) h) := (lw_at mj_406_349 rfl).trans (z_aload_n rfl)
theorem mj_406_350 : mc_P ml_y 350 = some (.iload_n 3, 1, 0, 0, 0) := by decide +kernel
theorem s_406_350 {x0 x1 x2 : Option Value} {w : Value} : lw L xs d Q 350 [x0, x1, x2, some w] (st) h = mv_i w (lw L xs d Q 351 [x0, x1, x2, some w] (w :: st) h) := (lw_at mj_406_350 rfl).trans (z_iload_n rfl)
theorem mj_406_351 : mc_P ml_y 351 = some (.iconst 3, 1, 0, 0, 0) := by decide +kernel
theorem s_406_351 {x0 x1 x2 x3 : Option Value} : lw L xs d Q 351 [x0, x1, x2, x3] (st) h = lw L xs d Q 352 [x0, x1, x2, x3] (.int 3 :: st) h := (lw_at mj_406_351 rfl).trans (z_iconst (by decide))
theorem mj_406_352 : mc_P ml_y 352 = some (.iadd, 1, 0, 0, 0) := by decide +kernel
theorem s_406_352 {x0 x1 x2 x3 : Option Value} {x w : Int32} : lw L xs d Q 352 [x0, x1, x2, x3] (.int w :: .int x :: st) h = lw L xs d Q 353 [x0, x1, x2, x3] (.int (x + w) :: st) h := (lw_at mj_406_352 rfl).trans (z_iadd)
theorem mj_406_353 : mc_P ml_y 353 = some (.iaload, 1, 0, 0, 0) := by decide +kernel
theorem s_406_353 {x0 x1 x2 x3 : Option Value} {i : Int32} : lw L xs d Q 353 [x0, x1, x2, x3] (.int i :: .retAddr 8 :: st) h = (mx i L ∧ lw L xs d Q 354 [x0, x1, x2, x3] (.int (xs i.toNatClampNeg) :: st) h) := lw_scr mj_406_353
theorem mj_406_354 : mc_P ml_y 354 = some (.aload_n 0, 1, 0, 0, 0) := by decide +kernel
theorem s_406_354 {x1 x2 x3 : Option Value} {w : Value} : lw L xs d Q 354 [some w, x1, x2, x3] (st) h = mv_a w (lw L xs d Q 355 [some w, x1, x2, x3] (w :: st) h) := (lw_at mj_406_354 rfl).trans (z_aload_n rfl)
theorem mj_406_355 : mc_P ml_y 355 = some (.iload_n 3, 1, 0, 0, 0) := by decide +kernel
theorem s_406_355 {x0 x1 x2 : Option Value} {w : Value} : lw L xs d Q 355 [x0, x1, x2, some w] (st) h = mv_i w (lw L xs d Q 356 [x0, x1, x2, some w] (w :: st) h) := (lw_at mj_406_355 rfl).trans (z_iload_n rfl)
theorem mj_406_356 : mc_P ml_y 356 = some (.iconst 4, 1, 0, 0, 0) := by decide +kernel
theorem s_406_356 {x0 x1 x2 x3 : Option Value} : lw L xs d Q 356 [x0, x1, x2, x3] (st) h = lw L xs d Q 357 [x0, x1, x2, x3] (.int 4 :: st) h := (lw_at mj_406_356 rfl).trans (z_iconst (by decide))
theorem mj_406_357 : mc_P ml_y 357 = some (.iadd, 1, 0, 0, 0) := by decide +kernel
theorem s_406_357 {x0 x1 x2 x3 : Option Value} {x w : Int32} : lw L xs d Q 357 [x0, x1, x2, x3] (.int w :: .int x :: st) h = lw L xs d Q 358 [x0, x1, x2, x3] (.int (x + w) :: st) h := (lw_at mj_406_357 rfl).trans (z_iadd)
theorem mj_406_358 : mc_P ml_y 358 = some (.iaload, 1, 0, 0, 0) := by decide +kernel
theorem s_406_358 {x0 x1 x2 x3 : Option Value} {i : Int32} : lw L xs d Q 358 [x0, x1, x2, x3] (.int i :: .retAddr 8 :: st) h = (mx i L ∧ lw L xs d Q 359 [x0, x1, x2, x3] (.int (xs i.toNatClampNeg) :: st) h) := lw_scr mj_406_358
theorem mj_406_359 : mc_P ml_y 359 = some (.aload_n 0, 1, 0, 0, 0) := by decide +kernel
theorem s_406_359 {x1 x2 x3 : Option Value} {w : Value} : lw L xs d Q 359 [some w, x1, x2, x3] (st) h = mv_a w (lw L xs d Q 360 [some w, x1, x2, x3] (w :: st) h) := (lw_at mj_406_359 rfl).trans (z_aload_n rfl)
theorem mj_406_360 : mc_P ml_y 360 = some (.iload_n 3, 1, 0, 0, 0) := by decide +kernel
theorem s_406_360 {x0 x1 x2 : Option Value} {w : Value} : lw L xs d Q 360 [x0, x1, x2, some w] (st) h = mv_i w (lw L xs d Q 361 [x0, x1, x2, some w] (w :: st) h) := (lw_at mj_406_360 rfl).trans (z_iload_n rfl)
theorem mj_406_361 : mc_P ml_y 361 = some (.iconst 5, 1, 0, 0, 0) := by decide +kernel
theorem s_406_361 {x0 x1 x2 x3 : Option Value} : lw L xs d Q 361 [x0, x1, x2, x3] (st) h = lw L xs d Q 362 [x0, x1, x2, x3] (.int 5 :: st) h := (lw_at mj_406_361 rfl).trans (z_iconst (by decide))
theorem mj_406_362 : mc_P ml_y 362 = some (.iadd, 1, 0, 0, 0) := by decide +kernel
theorem s_406_362 {x0 x1 x2 x3 : Option Value} {x w : Int32} : lw L xs d Q 362 [x0, x1, x2, x3] (.int w :: .int x :: st) h = lw L xs d Q 363 [x0, x1, x2, x3] (.int (x + w) :: st) h := (lw_at mj_406_362 rfl).trans (z_iadd)
theorem mj_406_363 : mc_P ml_y 363 = some (.iaload, 1, 0, 0, 0) := by decide +kernel
theorem s_406_363 {x0 x1 x2 x3 : Option Value} {i : Int32} : lw L xs d Q 363 [x0, x1, x2, x3] (.int i :: .retAddr 8 :: st) h = (mx i L ∧ lw L xs d Q 364 [x0, x1, x2, x3] (.int (xs i.toNatClampNeg) :: st) h) := lw_scr mj_406_363
theorem mj_406_364 : mc_P ml_y 364 = some (.aload_n 0, 1, 0, 0, 0) := by decide +kernel
theorem s_406_364 {x1 x2 x3 : Option Value} {w : Value} : lw L xs d Q 364 [some w, x1, x2, x3] (st) h = mv_a w (lw L xs d Q 365 [some w, x1, x2, x3] (w :: st) h) := (lw_at mj_406_364 rfl).trans (z_aload_n rfl)
theorem mj_406_365 : mc_P ml_y 365 = some (.iload_n 3, 1, 0, 0, 0) := by decide +kernel
theorem s_406_365 {x0 x1 x2 : Option Value} {w : Value} : lw L xs d Q 365 [x0, x1, x2, some w] (st) h = mv_i w (lw L xs d Q 366 [x0, x1, x2, some w] (w :: st) h) := (lw_at mj_406_365 rfl).trans (z_iload_n rfl)
theorem mj_406_366 : mc_P ml_y 366 = some (.bipush 6, 2, 0, 0, 0) := by decide +kernel
theorem s_406_366 {x0 x1 x2 x3 : Option Value} : lw L xs d Q 366 [x0, x1, x2, x3] (st) h = lw L xs d Q 368 [x0, x1, x2, x3] (.int 6 :: st) h := (lw_at mj_406_366 rfl).trans (z_bipush (by decide))
theorem mj_406_368 : mc_P ml_y 368 = some (.iadd, 1, 0, 0, 0) := by decide +kernel
theorem s_406_368 {x0 x1 x2 x3 : Option Value} {x w : Int32} : lw L xs d Q 368 [x0, x1, x2, x3] (.int w :: .int x :: st) h = lw L xs d Q 369 [x0, x1, x2, x3] (.int (x + w) :: st) h := (lw_at mj_406_368 rfl).trans (z_iadd)
theorem mj_406_369 : mc_P ml_y 369 = some (.iaload, 1, 0, 0, 0) := by decide +kernel
theorem s_406_369 {x0 x1 x2 x3 : Option Value} {i : Int32} : lw L xs d Q 369 [x0, x1, x2, x3] (.int i :: .retAddr 8 :: st) h = (mx i L ∧ lw L xs d Q 370 [x0, x1, x2, x3] (.int (xs i.toNatClampNeg) :: st) h) := lw_scr mj_406_369
theorem mj_406_370 : mc_P ml_y 370 = some (.invokevirtual 41, 3, 377, 14, 7) := by decide +kernel
theorem s_406_370 {x0 x1 x2 x3 : Option Value} {o : Nat} {a1 a2 a3 a4 a5 a6 : Value} : lw L xs (d + 1) Q 370 [x0, x1, x2, x3] (a6 :: a5 :: a4 :: a3 :: a2 :: a1 :: .ref o :: st) h = (mg h o 14 ∧ mca st 8 ∧ mca [.ref o, a1, a2, a3, a4, a5, a6] 7 ∧ mcall d 377 [.ref o, a1, a2, a3, a4, a5, a6] h (lK L xs (d + 1) Q 373 [x0, x1, x2, x3] st)) := (lw_at mj_406_370 rfl).trans ((z_invv (As := [a1, a2, a3, a4, a5, a6]) (by decide) rfl rfl).trans (congrArg (And _) (congrArg (And _) (lC_nl nl_377))))
theorem mj_406_373 : mc_P ml_y 373 = some (.lcmp, 1, 0, 0, 0) := by decide +kernel
theorem s_406_373 {x0 x1 x2 x3 : Option Value} {x w : Int64} : lw L xs d Q 373 [x0, x1, x2, x3] (.long w :: .long x :: st) h = lw L xs d Q 374 [x0, x1, x2, x3] (.int (lg_cmp x w) :: st) h := (lw_at mj_406_373 rfl).trans (z_lcmp)
theorem mj_406_374 : mc_P ml_y 374 = some (.ifCond .eq 539, 3, 0, 0, 0) := by decide +kernel
theorem s_406_374 {x0 x1 x2 x3 : Option Value} {x : Int32} : lw L xs d Q 374 [x0, x1, x2, x3] (.int x :: st) h = mB (x = 0) (lw L xs d Q) 913 377 [x0, x1, x2, x3] st h := (lw_at mj_406_374 rfl).trans (z_if_eq (by decide) rfl)
theorem mj_406_377 : mc_P ml_y 377 = some (.iconst 0, 1, 0, 0, 0) := by decide +kernel
theorem s_406_377 {x0 x1 x2 x3 : Option Value} : lw L xs d Q 377 [x0, x1, x2, x3] (st) h = lw L xs d Q 378 [x0, x1, x2, x3] (.int 0 :: st) h := (lw_at mj_406_377 rfl).trans (z_iconst (by decide))
theorem mj_406_378 : mc_P ml_y 378 = some (.ireturn, 1, 0, 3, 0) := by decide +kernel
theorem s_406_378 {x0 x1 x2 x3 : Option Value} {x : Int32} : lw L xs d Q 378 [x0, x1, x2, x3] ([.int x]) h = ((x = 0 ∨ x = 1) ∧ Q (some (.int x)) h) := (lw_at mj_406_378 rfl).trans (z_zret)
theorem mj_406_379 : mc_P ml_y 379 = some (.aload_n 1, 1, 0, 0, 0) := by decide +kernel
theorem s_406_379 {x0 x2 x3 : Option Value} {w : Value} : lw L xs d Q 379 [x0, some w, x2, x3] (st) h = mv_a w (lw L xs d Q 380 [x0, some w, x2, x3] (w :: st) h) := (lw_at mj_406_379 rfl).trans (z_aload_n rfl)
theorem mj_406_380 : mc_P ml_y 380 = some (.aload_n 0, 1, 0, 0, 0) := by decide +kernel
theorem s_406_380 {x1 x2 x3 : Option Value} {w : Value} : lw L xs d Q 380 [some w, x1, x2, x3] (st) h = mv_a w (lw L xs d Q 381 [some w, x1, x2, x3] (w :: st) h) := (lw_at mj_406_380 rfl).trans (z_aload_n rfl)
theorem mj_406_381 : mc_P ml_y 381 = some (.iload_n 3, 1, 0, 0, 0) := by decide +kernel
theorem s_406_381 {x0 x1 x2 : Option Value} {w : Value} : lw L xs d Q 381 [x0, x1, x2, some w] (st) h = mv_i w (lw L xs d Q 382 [x0, x1, x2, some w] (w :: st) h) := (lw_at mj_406_381 rfl).trans (z_iload_n rfl)
theorem mj_406_382 : mc_P ml_y 382 = some (.iconst 1, 1, 0, 0, 0) := by decide +kernel
theorem s_406_382 {x0 x1 x2 x3 : Option Value} : lw L xs d Q 382 [x0, x1, x2, x3] (st) h = lw L xs d Q 383 [x0, x1, x2, x3] (.int 1 :: st) h := (lw_at mj_406_382 rfl).trans (z_iconst (by decide))
theorem mj_406_383 : mc_P ml_y 383 = some (.iadd, 1, 0, 0, 0) := by decide +kernel
theorem s_406_383 {x0 x1 x2 x3 : Option Value} {x w : Int32} : lw L xs d Q 383 [x0, x1, x2, x3] (.int w :: .int x :: st) h = lw L xs d Q 384 [x0, x1, x2, x3] (.int (x + w) :: st) h := (lw_at mj_406_383 rfl).trans (z_iadd)
theorem mj_406_384 : mc_P ml_y 384 = some (.iaload, 1, 0, 0, 0) := by decide +kernel
theorem s_406_384 {x0 x1 x2 x3 : Option Value} {i : Int32} : lw L xs d Q 384 [x0, x1, x2, x3] (.int i :: .retAddr 8 :: st) h = (mx i L ∧ lw L xs d Q 385 [x0, x1, x2, x3] (.int (xs i.toNatClampNeg) :: st) h) := lw_scr mj_406_384
theorem mj_406_385 : mc_P ml_y 385 = some (.ifCond .eq 7, 3, 0, 0, 0) := by decide +kernel
theorem s_406_385 {x0 x1 x2 x3 : Option Value} {x : Int32} : lw L xs d Q 385 [x0, x1, x2, x3] (.int x :: st) h = mB (x = 0) (lw L xs d Q) 392 388 [x0, x1, x2, x3] st h := (lw_at mj_406_385 rfl).trans (z_if_eq (by decide) rfl)
theorem mj_406_388 : mc_P ml_y 388 = some (.iconst 1, 1, 0, 0, 0) := by decide +kernel
theorem s_406_388 {x0 x1 x2 x3 : Option Value} : lw L xs d Q 388 [x0, x1, x2, x3] (st) h = lw L xs d Q 389 [x0, x1, x2, x3] (.int 1 :: st) h := (lw_at mj_406_388 rfl).trans (z_iconst (by decide))
theorem mj_406_389 : mc_P ml_y 389 = some (.goto 4, 3, 0, 0, 0) := by decide +kernel
theorem s_406_389 {x0 x1 x2 x3 : Option Value} : lw L xs d Q 389 [x0, x1, x2, x3] (st) h = lw L xs d Q 393 [x0, x1, x2, x3] (st) h := (lw_at mj_406_389 rfl).trans (z_goto (by decide))
theorem mj_406_392 : mc_P ml_y 392 = some (.iconst 0, 1, 0, 0, 0) := by decide +kernel
theorem s_406_392 {x0 x1 x2 x3 : Option Value} : lw L xs d Q 392 [x0, x1, x2, x3] (st) h = lw L xs d Q 393 [x0, x1, x2, x3] (.int 0 :: st) h := (lw_at mj_406_392 rfl).trans (z_iconst (by decide))
theorem mj_406_393 : mc_P ml_y 393 = some (.aload_n 0, 1, 0, 0, 0) := by decide +kernel
theorem s_406_393 {x1 x2 x3 : Option Value} {w : Value} : lw L xs d Q 393 [some w, x1, x2, x3] (st) h = mv_a w (lw L xs d Q 394 [some w, x1, x2, x3] (w :: st) h) := (lw_at mj_406_393 rfl).trans (z_aload_n rfl)
theorem mj_406_394 : mc_P ml_y 394 = some (.iload_n 3, 1, 0, 0, 0) := by decide +kernel
theorem s_406_394 {x0 x1 x2 : Option Value} {w : Value} : lw L xs d Q 394 [x0, x1, x2, some w] (st) h = mv_i w (lw L xs d Q 395 [x0, x1, x2, some w] (w :: st) h) := (lw_at mj_406_394 rfl).trans (z_iload_n rfl)
theorem mj_406_395 : mc_P ml_y 395 = some (.iconst 2, 1, 0, 0, 0) := by decide +kernel
theorem s_406_395 {x0 x1 x2 x3 : Option Value} : lw L xs d Q 395 [x0, x1, x2, x3] (st) h = lw L xs d Q 396 [x0, x1, x2, x3] (.int 2 :: st) h := (lw_at mj_406_395 rfl).trans (z_iconst (by decide))
theorem mj_406_396 : mc_P ml_y 396 = some (.iadd, 1, 0, 0, 0) := by decide +kernel
theorem s_406_396 {x0 x1 x2 x3 : Option Value} {x w : Int32} : lw L xs d Q 396 [x0, x1, x2, x3] (.int w :: .int x :: st) h = lw L xs d Q 397 [x0, x1, x2, x3] (.int (x + w) :: st) h := (lw_at mj_406_396 rfl).trans (z_iadd)
theorem mj_406_397 : mc_P ml_y 397 = some (.iaload, 1, 0, 0, 0) := by decide +kernel
theorem s_406_397 {x0 x1 x2 x3 : Option Value} {i : Int32} : lw L xs d Q 397 [x0, x1, x2, x3] (.int i :: .retAddr 8 :: st) h = (mx i L ∧ lw L xs d Q 398 [x0, x1, x2, x3] (.int (xs i.toNatClampNeg) :: st) h) := lw_scr mj_406_397
theorem mj_406_398 : mc_P ml_y 398 = some (.aload_n 0, 1, 0, 0, 0) := by decide +kernel
theorem s_406_398 {x1 x2 x3 : Option Value} {w : Value} : lw L xs d Q 398 [some w, x1, x2, x3] (st) h = mv_a w (lw L xs d Q 399 [some w, x1, x2, x3] (w :: st) h) := (lw_at mj_406_398 rfl).trans (z_aload_n rfl)
theorem mj_406_399 : mc_P ml_y 399 = some (.iload_n 3, 1, 0, 0, 0) := by decide +kernel
theorem s_406_399 {x0 x1 x2 : Option Value} {w : Value} : lw L xs d Q 399 [x0, x1, x2, some w] (st) h = mv_i w (lw L xs d Q 400 [x0, x1, x2, some w] (w :: st) h) := (lw_at mj_406_399 rfl).trans (z_iload_n rfl)
theorem mj_406_400 : mc_P ml_y 400 = some (.iconst 3, 1, 0, 0, 0) := by decide +kernel
theorem s_406_400 {x0 x1 x2 x3 : Option Value} : lw L xs d Q 400 [x0, x1, x2, x3] (st) h = lw L xs d Q 401 [x0, x1, x2, x3] (.int 3 :: st) h := (lw_at mj_406_400 rfl).trans (z_iconst (by decide))
theorem mj_406_401 : mc_P ml_y 401 = some (.iadd, 1, 0, 0, 0) := by decide +kernel
theorem s_406_401 {x0 x1 x2 x3 : Option Value} {x w : Int32} : lw L xs d Q 401 [x0, x1, x2, x3] (.int w :: .int x :: st) h = lw L xs d Q 402 [x0, x1, x2, x3] (.int (x + w) :: st) h := (lw_at mj_406_401 rfl).trans (z_iadd)
theorem mj_406_402 : mc_P ml_y 402 = some (.iaload, 1, 0, 0, 0) := by decide +kernel
theorem s_406_402 {x0 x1 x2 x3 : Option Value} {i : Int32} : lw L xs d Q 402 [x0, x1, x2, x3] (.int i :: .retAddr 8 :: st) h = (mx i L ∧ lw L xs d Q 403 [x0, x1, x2, x3] (.int (xs i.toNatClampNeg) :: st) h) := lw_scr mj_406_402
theorem mj_406_403 : mc_P ml_y 403 = some (.aload_n 0, 1, 0, 0, 0) := by decide +kernel
theorem s_406_403 {x1 x2 x3 : Option Value} {w : Value} : lw L xs d Q 403 [some w, x1, x2, x3] (st) h = mv_a w (lw L xs d Q 404 [some w, x1, x2, x3] (w :: st) h) := (lw_at mj_406_403 rfl).trans (z_aload_n rfl)
theorem mj_406_404 : mc_P ml_y 404 = some (.iload_n 3, 1, 0, 0, 0) := by decide +kernel
theorem s_406_404 {x0 x1 x2 : Option Value} {w : Value} : lw L xs d Q 404 [x0, x1, x2, some w] (st) h = mv_i w (lw L xs d Q 405 [x0, x1, x2, some w] (w :: st) h) := (lw_at mj_406_404 rfl).trans (z_iload_n rfl)
theorem mj_406_405 : mc_P ml_y 405 = some (.iconst 4, 1, 0, 0, 0) := by decide +kernel
theorem s_406_405 {x0 x1 x2 x3 : Option Value} : lw L xs d Q 405 [x0, x1, x2, x3] (st) h = lw L xs d Q 406 [x0, x1, x2, x3] (.int 4 :: st) h := (lw_at mj_406_405 rfl).trans (z_iconst (by decide))
theorem mj_406_406 : mc_P ml_y 406 = some (.iadd, 1, 0, 0, 0) := by decide +kernel
theorem s_406_406 {x0 x1 x2 x3 : Option Value} {x w : Int32} : lw L xs d Q 406 [x0, x1, x2, x3] (.int w :: .int x :: st) h = lw L xs d Q 407 [x0, x1, x2, x3] (.int (x + w) :: st) h := (lw_at mj_406_406 rfl).trans (z_iadd)
theorem mj_406_407 : mc_P ml_y 407 = some (.iaload, 1, 0, 0, 0) := by decide +kernel
theorem s_406_407 {x0 x1 x2 x3 : Option Value} {i : Int32} : lw L xs d Q 407 [x0, x1, x2, x3] (.int i :: .retAddr 8 :: st) h = (mx i L ∧ lw L xs d Q 408 [x0, x1, x2, x3] (.int (xs i.toNatClampNeg) :: st) h) := lw_scr mj_406_407
theorem mj_406_408 : mc_P ml_y 408 = some (.ifCond .eq 7, 3, 0, 0, 0) := by decide +kernel
theorem s_406_408 {x0 x1 x2 x3 : Option Value} {x : Int32} : lw L xs d Q 408 [x0, x1, x2, x3] (.int x :: st) h = mB (x = 0) (lw L xs d Q) 415 411 [x0, x1, x2, x3] st h := (lw_at mj_406_408 rfl).trans (z_if_eq (by decide) rfl)
theorem mj_406_411 : mc_P ml_y 411 = some (.iconst 1, 1, 0, 0, 0) := by decide +kernel
theorem s_406_411 {x0 x1 x2 x3 : Option Value} : lw L xs d Q 411 [x0, x1, x2, x3] (st) h = lw L xs d Q 412 [x0, x1, x2, x3] (.int 1 :: st) h := (lw_at mj_406_411 rfl).trans (z_iconst (by decide))
theorem mj_406_412 : mc_P ml_y 412 = some (.goto 4, 3, 0, 0, 0) := by decide +kernel
theorem s_406_412 {x0 x1 x2 x3 : Option Value} : lw L xs d Q 412 [x0, x1, x2, x3] (st) h = lw L xs d Q 416 [x0, x1, x2, x3] (st) h := (lw_at mj_406_412 rfl).trans (z_goto (by decide))
theorem mj_406_415 : mc_P ml_y 415 = some (.iconst 0, 1, 0, 0, 0) := by decide +kernel
theorem s_406_415 {x0 x1 x2 x3 : Option Value} : lw L xs d Q 415 [x0, x1, x2, x3] (st) h = lw L xs d Q 416 [x0, x1, x2, x3] (.int 0 :: st) h := (lw_at mj_406_415 rfl).trans (z_iconst (by decide))
theorem mj_406_416 : mc_P ml_y 416 = some (.invokevirtual 42, 3, 198, 11, 5) := by decide +kernel
theorem s_406_416 {x0 x1 x2 x3 : Option Value} {o : Nat} {a1 a2 a3 a4 : Value} : lw L xs (d + 1) Q 416 [x0, x1, x2, x3] (a4 :: a3 :: a2 :: a1 :: .ref o :: st) h = (mg h o 11 ∧ mca st 8 ∧ mca [.ref o, a1, a2, a3, a4] 6 ∧ mcall d 198 [.ref o, a1, a2, a3, a4] h (lK L xs (d + 1) Q 419 [x0, x1, x2, x3] st)) := (lw_at mj_406_416 rfl).trans ((z_invv (As := [a1, a2, a3, a4]) (by decide) rfl rfl).trans (congrArg (And _) (congrArg (And _) (lC_nl nl_198))))
theorem mj_406_419 : mc_P ml_y 419 = some (.aload_n 2, 1, 0, 0, 0) := by decide +kernel
theorem s_406_419 {x0 x1 x3 : Option Value} {w : Value} : lw L xs d Q 419 [x0, x1, some w, x3] (st) h = mv_a w (lw L xs d Q 420 [x0, x1, some w, x3] (w :: st) h) := (lw_at mj_406_419 rfl).trans (z_aload_n rfl)
theorem mj_406_420 : mc_P ml_y 420 = some (.aload_n 0, 1, 0, 0, 0) := by decide +kernel
theorem s_406_420 {x1 x2 x3 : Option Value} {w : Value} : lw L xs d Q 420 [some w, x1, x2, x3] (st) h = mv_a w (lw L xs d Q 421 [some w, x1, x2, x3] (w :: st) h) := (lw_at mj_406_420 rfl).trans (z_aload_n rfl)
theorem mj_406_421 : mc_P ml_y 421 = some (.iload_n 3, 1, 0, 0, 0) := by decide +kernel
theorem s_406_421 {x0 x1 x2 : Option Value} {w : Value} : lw L xs d Q 421 [x0, x1, x2, some w] (st) h = mv_i w (lw L xs d Q 422 [x0, x1, x2, some w] (w :: st) h) := (lw_at mj_406_421 rfl).trans (z_iload_n rfl)
theorem mj_406_422 : mc_P ml_y 422 = some (.iconst 1, 1, 0, 0, 0) := by decide +kernel
theorem s_406_422 {x0 x1 x2 x3 : Option Value} : lw L xs d Q 422 [x0, x1, x2, x3] (st) h = lw L xs d Q 423 [x0, x1, x2, x3] (.int 1 :: st) h := (lw_at mj_406_422 rfl).trans (z_iconst (by decide))
theorem mj_406_423 : mc_P ml_y 423 = some (.iadd, 1, 0, 0, 0) := by decide +kernel
theorem s_406_423 {x0 x1 x2 x3 : Option Value} {x w : Int32} : lw L xs d Q 423 [x0, x1, x2, x3] (.int w :: .int x :: st) h = lw L xs d Q 424 [x0, x1, x2, x3] (.int (x + w) :: st) h := (lw_at mj_406_423 rfl).trans (z_iadd)
theorem mj_406_424 : mc_P ml_y 424 = some (.iaload, 1, 0, 0, 0) := by decide +kernel
theorem s_406_424 {x0 x1 x2 x3 : Option Value} {i : Int32} : lw L xs d Q 424 [x0, x1, x2, x3] (.int i :: .retAddr 8 :: st) h = (mx i L ∧ lw L xs d Q 425 [x0, x1, x2, x3] (.int (xs i.toNatClampNeg) :: st) h) := lw_scr mj_406_424
theorem mj_406_425 : mc_P ml_y 425 = some (.ifCond .eq 7, 3, 0, 0, 0) := by decide +kernel
theorem s_406_425 {x0 x1 x2 x3 : Option Value} {x : Int32} : lw L xs d Q 425 [x0, x1, x2, x3] (.int x :: st) h = mB (x = 0) (lw L xs d Q) 432 428 [x0, x1, x2, x3] st h := (lw_at mj_406_425 rfl).trans (z_if_eq (by decide) rfl)
theorem mj_406_428 : mc_P ml_y 428 = some (.iconst 1, 1, 0, 0, 0) := by decide +kernel
theorem s_406_428 {x0 x1 x2 x3 : Option Value} : lw L xs d Q 428 [x0, x1, x2, x3] (st) h = lw L xs d Q 429 [x0, x1, x2, x3] (.int 1 :: st) h := (lw_at mj_406_428 rfl).trans (z_iconst (by decide))
theorem mj_406_429 : mc_P ml_y 429 = some (.goto 4, 3, 0, 0, 0) := by decide +kernel
theorem s_406_429 {x0 x1 x2 x3 : Option Value} : lw L xs d Q 429 [x0, x1, x2, x3] (st) h = lw L xs d Q 433 [x0, x1, x2, x3] (st) h := (lw_at mj_406_429 rfl).trans (z_goto (by decide))
theorem mj_406_432 : mc_P ml_y 432 = some (.iconst 0, 1, 0, 0, 0) := by decide +kernel
theorem s_406_432 {x0 x1 x2 x3 : Option Value} : lw L xs d Q 432 [x0, x1, x2, x3] (st) h = lw L xs d Q 433 [x0, x1, x2, x3] (.int 0 :: st) h := (lw_at mj_406_432 rfl).trans (z_iconst (by decide))
theorem mj_406_433 : mc_P ml_y 433 = some (.aload_n 0, 1, 0, 0, 0) := by decide +kernel
theorem s_406_433 {x1 x2 x3 : Option Value} {w : Value} : lw L xs d Q 433 [some w, x1, x2, x3] (st) h = mv_a w (lw L xs d Q 434 [some w, x1, x2, x3] (w :: st) h) := (lw_at mj_406_433 rfl).trans (z_aload_n rfl)
theorem mj_406_434 : mc_P ml_y 434 = some (.iload_n 3, 1, 0, 0, 0) := by decide +kernel
theorem s_406_434 {x0 x1 x2 : Option Value} {w : Value} : lw L xs d Q 434 [x0, x1, x2, some w] (st) h = mv_i w (lw L xs d Q 435 [x0, x1, x2, some w] (w :: st) h) := (lw_at mj_406_434 rfl).trans (z_iload_n rfl)
theorem mj_406_435 : mc_P ml_y 435 = some (.iconst 2, 1, 0, 0, 0) := by decide +kernel
theorem s_406_435 {x0 x1 x2 x3 : Option Value} : lw L xs d Q 435 [x0, x1, x2, x3] (st) h = lw L xs d Q 436 [x0, x1, x2, x3] (.int 2 :: st) h := (lw_at mj_406_435 rfl).trans (z_iconst (by decide))
theorem mj_406_436 : mc_P ml_y 436 = some (.iadd, 1, 0, 0, 0) := by decide +kernel
theorem s_406_436 {x0 x1 x2 x3 : Option Value} {x w : Int32} : lw L xs d Q 436 [x0, x1, x2, x3] (.int w :: .int x :: st) h = lw L xs d Q 437 [x0, x1, x2, x3] (.int (x + w) :: st) h := (lw_at mj_406_436 rfl).trans (z_iadd)
theorem mj_406_437 : mc_P ml_y 437 = some (.iaload, 1, 0, 0, 0) := by decide +kernel
theorem s_406_437 {x0 x1 x2 x3 : Option Value} {i : Int32} : lw L xs d Q 437 [x0, x1, x2, x3] (.int i :: .retAddr 8 :: st) h = (mx i L ∧ lw L xs d Q 438 [x0, x1, x2, x3] (.int (xs i.toNatClampNeg) :: st) h) := lw_scr mj_406_437
theorem mj_406_438 : mc_P ml_y 438 = some (.aload_n 0, 1, 0, 0, 0) := by decide +kernel
theorem s_406_438 {x1 x2 x3 : Option Value} {w : Value} : lw L xs d Q 438 [some w, x1, x2, x3] (st) h = mv_a w (lw L xs d Q 439 [some w, x1, x2, x3] (w :: st) h) := (lw_at mj_406_438 rfl).trans (z_aload_n rfl)
theorem mj_406_439 : mc_P ml_y 439 = some (.iload_n 3, 1, 0, 0, 0) := by decide +kernel
theorem s_406_439 {x0 x1 x2 : Option Value} {w : Value} : lw L xs d Q 439 [x0, x1, x2, some w] (st) h = mv_i w (lw L xs d Q 440 [x0, x1, x2, some w] (w :: st) h) := (lw_at mj_406_439 rfl).trans (z_iload_n rfl)
theorem mj_406_440 : mc_P ml_y 440 = some (.iconst 3, 1, 0, 0, 0) := by decide +kernel
theorem s_406_440 {x0 x1 x2 x3 : Option Value} : lw L xs d Q 440 [x0, x1, x2, x3] (st) h = lw L xs d Q 441 [x0, x1, x2, x3] (.int 3 :: st) h := (lw_at mj_406_440 rfl).trans (z_iconst (by decide))
theorem mj_406_441 : mc_P ml_y 441 = some (.iadd, 1, 0, 0, 0) := by decide +kernel
theorem s_406_441 {x0 x1 x2 x3 : Option Value} {x w : Int32} : lw L xs d Q 441 [x0, x1, x2, x3] (.int w :: .int x :: st) h = lw L xs d Q 442 [x0, x1, x2, x3] (.int (x + w) :: st) h := (lw_at mj_406_441 rfl).trans (z_iadd)
theorem mj_406_442 : mc_P ml_y 442 = some (.iaload, 1, 0, 0, 0) := by decide +kernel
theorem s_406_442 {x0 x1 x2 x3 : Option Value} {i : Int32} : lw L xs d Q 442 [x0, x1, x2, x3] (.int i :: .retAddr 8 :: st) h = (mx i L ∧ lw L xs d Q 443 [x0, x1, x2, x3] (.int (xs i.toNatClampNeg) :: st) h) := lw_scr mj_406_442
theorem mj_406_443 : mc_P ml_y 443 = some (.aload_n 0, 1, 0, 0, 0) := by decide +kernel
theorem s_406_443 {x1 x2 x3 : Option Value} {w : Value} : lw L xs d Q 443 [some w, x1, x2, x3] (st) h = mv_a w (lw L xs d Q 444 [some w, x1, x2, x3] (w :: st) h) := (lw_at mj_406_443 rfl).trans (z_aload_n rfl)
theorem mj_406_444 : mc_P ml_y 444 = some (.iload_n 3, 1, 0, 0, 0) := by decide +kernel
theorem s_406_444 {x0 x1 x2 : Option Value} {w : Value} : lw L xs d Q 444 [x0, x1, x2, some w] (st) h = mv_i w (lw L xs d Q 445 [x0, x1, x2, some w] (w :: st) h) := (lw_at mj_406_444 rfl).trans (z_iload_n rfl)
theorem mj_406_445 : mc_P ml_y 445 = some (.iconst 4, 1, 0, 0, 0) := by decide +kernel
theorem s_406_445 {x0 x1 x2 x3 : Option Value} : lw L xs d Q 445 [x0, x1, x2, x3] (st) h = lw L xs d Q 446 [x0, x1, x2, x3] (.int 4 :: st) h := (lw_at mj_406_445 rfl).trans (z_iconst (by decide))
theorem mj_406_446 : mc_P ml_y 446 = some (.iadd, 1, 0, 0, 0) := by decide +kernel
theorem s_406_446 {x0 x1 x2 x3 : Option Value} {x w : Int32} : lw L xs d Q 446 [x0, x1, x2, x3] (.int w :: .int x :: st) h = lw L xs d Q 447 [x0, x1, x2, x3] (.int (x + w) :: st) h := (lw_at mj_406_446 rfl).trans (z_iadd)
theorem mj_406_447 : mc_P ml_y 447 = some (.iaload, 1, 0, 0, 0) := by decide +kernel
theorem s_406_447 {x0 x1 x2 x3 : Option Value} {i : Int32} : lw L xs d Q 447 [x0, x1, x2, x3] (.int i :: .retAddr 8 :: st) h = (mx i L ∧ lw L xs d Q 448 [x0, x1, x2, x3] (.int (xs i.toNatClampNeg) :: st) h) := lw_scr mj_406_447
theorem mj_406_448 : mc_P ml_y 448 = some (.ifCond .eq 7, 3, 0, 0, 0) := by decide +kernel
theorem s_406_448 {x0 x1 x2 x3 : Option Value} {x : Int32} : lw L xs d Q 448 [x0, x1, x2, x3] (.int x :: st) h = mB (x = 0) (lw L xs d Q) 455 451 [x0, x1, x2, x3] st h := (lw_at mj_406_448 rfl).trans (z_if_eq (by decide) rfl)
theorem mj_406_451 : mc_P ml_y 451 = some (.iconst 1, 1, 0, 0, 0) := by decide +kernel
theorem s_406_451 {x0 x1 x2 x3 : Option Value} : lw L xs d Q 451 [x0, x1, x2, x3] (st) h = lw L xs d Q 452 [x0, x1, x2, x3] (.int 1 :: st) h := (lw_at mj_406_451 rfl).trans (z_iconst (by decide))
theorem mj_406_452 : mc_P ml_y 452 = some (.goto 4, 3, 0, 0, 0) := by decide +kernel
theorem s_406_452 {x0 x1 x2 x3 : Option Value} : lw L xs d Q 452 [x0, x1, x2, x3] (st) h = lw L xs d Q 456 [x0, x1, x2, x3] (st) h := (lw_at mj_406_452 rfl).trans (z_goto (by decide))
theorem mj_406_455 : mc_P ml_y 455 = some (.iconst 0, 1, 0, 0, 0) := by decide +kernel
theorem s_406_455 {x0 x1 x2 x3 : Option Value} : lw L xs d Q 455 [x0, x1, x2, x3] (st) h = lw L xs d Q 456 [x0, x1, x2, x3] (.int 0 :: st) h := (lw_at mj_406_455 rfl).trans (z_iconst (by decide))
theorem mj_406_456 : mc_P ml_y 456 = some (.invokevirtual 46, 3, 378, 14, 5) := by decide +kernel
theorem s_406_456 {x0 x1 x2 x3 : Option Value} {o : Nat} {a1 a2 a3 a4 : Value} : lw L xs (d + 1) Q 456 [x0, x1, x2, x3] (a4 :: a3 :: a2 :: a1 :: .ref o :: st) h = (mg h o 14 ∧ mca st 8 ∧ mca [.ref o, a1, a2, a3, a4] 5 ∧ mcall d 378 [.ref o, a1, a2, a3, a4] h (lK L xs (d + 1) Q 459 [x0, x1, x2, x3] st)) := (lw_at mj_406_456 rfl).trans ((z_invv (As := [a1, a2, a3, a4]) (by decide) rfl rfl).trans (congrArg (And _) (congrArg (And _) (lC_nl nl_378))))
theorem mj_406_459 : mc_P ml_y 459 = some (.lcmp, 1, 0, 0, 0) := by decide +kernel
theorem s_406_459 {x0 x1 x2 x3 : Option Value} {x w : Int64} : lw L xs d Q 459 [x0, x1, x2, x3] (.long w :: .long x :: st) h = lw L xs d Q 460 [x0, x1, x2, x3] (.int (lg_cmp x w) :: st) h := (lw_at mj_406_459 rfl).trans (z_lcmp)
theorem mj_406_460 : mc_P ml_y 460 = some (.ifCond .eq 453, 3, 0, 0, 0) := by decide +kernel
theorem s_406_460 {x0 x1 x2 x3 : Option Value} {x : Int32} : lw L xs d Q 460 [x0, x1, x2, x3] (.int x :: st) h = mB (x = 0) (lw L xs d Q) 913 463 [x0, x1, x2, x3] st h := (lw_at mj_406_460 rfl).trans (z_if_eq (by decide) rfl)
theorem mj_406_463 : mc_P ml_y 463 = some (.iconst 0, 1, 0, 0, 0) := by decide +kernel
theorem s_406_463 {x0 x1 x2 x3 : Option Value} : lw L xs d Q 463 [x0, x1, x2, x3] (st) h = lw L xs d Q 464 [x0, x1, x2, x3] (.int 0 :: st) h := (lw_at mj_406_463 rfl).trans (z_iconst (by decide))
theorem mj_406_464 : mc_P ml_y 464 = some (.ireturn, 1, 0, 3, 0) := by decide +kernel
theorem s_406_464 {x0 x1 x2 x3 : Option Value} {x : Int32} : lw L xs d Q 464 [x0, x1, x2, x3] ([.int x]) h = ((x = 0 ∨ x = 1) ∧ Q (some (.int x)) h) := (lw_at mj_406_464 rfl).trans (z_zret)
theorem mj_406_465 : mc_P ml_y 465 = some (.aload_n 1, 1, 0, 0, 0) := by decide +kernel
theorem s_406_465 {x0 x2 x3 : Option Value} {w : Value} : lw L xs d Q 465 [x0, some w, x2, x3] (st) h = mv_a w (lw L xs d Q 466 [x0, some w, x2, x3] (w :: st) h) := (lw_at mj_406_465 rfl).trans (z_aload_n rfl)
theorem mj_406_466 : mc_P ml_y 466 = some (.aload_n 0, 1, 0, 0, 0) := by decide +kernel
theorem s_406_466 {x1 x2 x3 : Option Value} {w : Value} : lw L xs d Q 466 [some w, x1, x2, x3] (st) h = mv_a w (lw L xs d Q 467 [some w, x1, x2, x3] (w :: st) h) := (lw_at mj_406_466 rfl).trans (z_aload_n rfl)
theorem mj_406_467 : mc_P ml_y 467 = some (.iload_n 3, 1, 0, 0, 0) := by decide +kernel
theorem s_406_467 {x0 x1 x2 : Option Value} {w : Value} : lw L xs d Q 467 [x0, x1, x2, some w] (st) h = mv_i w (lw L xs d Q 468 [x0, x1, x2, some w] (w :: st) h) := (lw_at mj_406_467 rfl).trans (z_iload_n rfl)
theorem mj_406_468 : mc_P ml_y 468 = some (.iconst 1, 1, 0, 0, 0) := by decide +kernel
theorem s_406_468 {x0 x1 x2 x3 : Option Value} : lw L xs d Q 468 [x0, x1, x2, x3] (st) h = lw L xs d Q 469 [x0, x1, x2, x3] (.int 1 :: st) h := (lw_at mj_406_468 rfl).trans (z_iconst (by decide))
theorem mj_406_469 : mc_P ml_y 469 = some (.iadd, 1, 0, 0, 0) := by decide +kernel
theorem s_406_469 {x0 x1 x2 x3 : Option Value} {x w : Int32} : lw L xs d Q 469 [x0, x1, x2, x3] (.int w :: .int x :: st) h = lw L xs d Q 470 [x0, x1, x2, x3] (.int (x + w) :: st) h := (lw_at mj_406_469 rfl).trans (z_iadd)
theorem mj_406_470 : mc_P ml_y 470 = some (.iaload, 1, 0, 0, 0) := by decide +kernel
theorem s_406_470 {x0 x1 x2 x3 : Option Value} {i : Int32} : lw L xs d Q 470 [x0, x1, x2, x3] (.int i :: .retAddr 8 :: st) h = (mx i L ∧ lw L xs d Q 471 [x0, x1, x2, x3] (.int (xs i.toNatClampNeg) :: st) h) := lw_scr mj_406_470
theorem mj_406_471 : mc_P ml_y 471 = some (.aload_n 0, 1, 0, 0, 0) := by decide +kernel
theorem s_406_471 {x1 x2 x3 : Option Value} {w : Value} : lw L xs d Q 471 [some w, x1, x2, x3] (st) h = mv_a w (lw L xs d Q 472 [some w, x1, x2, x3] (w :: st) h) := (lw_at mj_406_471 rfl).trans (z_aload_n rfl)
theorem mj_406_472 : mc_P ml_y 472 = some (.iload_n 3, 1, 0, 0, 0) := by decide +kernel
theorem s_406_472 {x0 x1 x2 : Option Value} {w : Value} : lw L xs d Q 472 [x0, x1, x2, some w] (st) h = mv_i w (lw L xs d Q 473 [x0, x1, x2, some w] (w :: st) h) := (lw_at mj_406_472 rfl).trans (z_iload_n rfl)
theorem mj_406_473 : mc_P ml_y 473 = some (.iconst 2, 1, 0, 0, 0) := by decide +kernel
theorem s_406_473 {x0 x1 x2 x3 : Option Value} : lw L xs d Q 473 [x0, x1, x2, x3] (st) h = lw L xs d Q 474 [x0, x1, x2, x3] (.int 2 :: st) h := (lw_at mj_406_473 rfl).trans (z_iconst (by decide))
theorem mj_406_474 : mc_P ml_y 474 = some (.iadd, 1, 0, 0, 0) := by decide +kernel
theorem s_406_474 {x0 x1 x2 x3 : Option Value} {x w : Int32} : lw L xs d Q 474 [x0, x1, x2, x3] (.int w :: .int x :: st) h = lw L xs d Q 475 [x0, x1, x2, x3] (.int (x + w) :: st) h := (lw_at mj_406_474 rfl).trans (z_iadd)
theorem mj_406_475 : mc_P ml_y 475 = some (.iaload, 1, 0, 0, 0) := by decide +kernel
theorem s_406_475 {x0 x1 x2 x3 : Option Value} {i : Int32} : lw L xs d Q 475 [x0, x1, x2, x3] (.int i :: .retAddr 8 :: st) h = (mx i L ∧ lw L xs d Q 476 [x0, x1, x2, x3] (.int (xs i.toNatClampNeg) :: st) h) := lw_scr mj_406_475
theorem mj_406_476 : mc_P ml_y 476 = some (.aload_n 0, 1, 0, 0, 0) := by decide +kernel
theorem s_406_476 {x1 x2 x3 : Option Value} {w : Value} : lw L xs d Q 476 [some w, x1, x2, x3] (st) h = mv_a w (lw L xs d Q 477 [some w, x1, x2, x3] (w :: st) h) := (lw_at mj_406_476 rfl).trans (z_aload_n rfl)
theorem mj_406_477 : mc_P ml_y 477 = some (.iload_n 3, 1, 0, 0, 0) := by decide +kernel
theorem s_406_477 {x0 x1 x2 : Option Value} {w : Value} : lw L xs d Q 477 [x0, x1, x2, some w] (st) h = mv_i w (lw L xs d Q 478 [x0, x1, x2, some w] (w :: st) h) := (lw_at mj_406_477 rfl).trans (z_iload_n rfl)
theorem mj_406_478 : mc_P ml_y 478 = some (.iconst 3, 1, 0, 0, 0) := by decide +kernel
theorem s_406_478 {x0 x1 x2 x3 : Option Value} : lw L xs d Q 478 [x0, x1, x2, x3] (st) h = lw L xs d Q 479 [x0, x1, x2, x3] (.int 3 :: st) h := (lw_at mj_406_478 rfl).trans (z_iconst (by decide))
theorem mj_406_479 : mc_P ml_y 479 = some (.iadd, 1, 0, 0, 0) := by decide +kernel
theorem s_406_479 {x0 x1 x2 x3 : Option Value} {x w : Int32} : lw L xs d Q 479 [x0, x1, x2, x3] (.int w :: .int x :: st) h = lw L xs d Q 480 [x0, x1, x2, x3] (.int (x + w) :: st) h := (lw_at mj_406_479 rfl).trans (z_iadd)
theorem mj_406_480 : mc_P ml_y 480 = some (.iaload, 1, 0, 0, 0) := by decide +kernel
theorem s_406_480 {x0 x1 x2 x3 : Option Value} {i : Int32} : lw L xs d Q 480 [x0, x1, x2, x3] (.int i :: .retAddr 8 :: st) h = (mx i L ∧ lw L xs d Q 481 [x0, x1, x2, x3] (.int (xs i.toNatClampNeg) :: st) h) := lw_scr mj_406_480
theorem mj_406_481 : mc_P ml_y 481 = some (.aload_n 0, 1, 0, 0, 0) := by decide +kernel
theorem s_406_481 {x1 x2 x3 : Option Value} {w : Value} : lw L xs d Q 481 [some w, x1, x2, x3] (st) h = mv_a w (lw L xs d Q 482 [some w, x1, x2, x3] (w :: st) h) := (lw_at mj_406_481 rfl).trans (z_aload_n rfl)
theorem mj_406_482 : mc_P ml_y 482 = some (.iload_n 3, 1, 0, 0, 0) := by decide +kernel
theorem s_406_482 {x0 x1 x2 : Option Value} {w : Value} : lw L xs d Q 482 [x0, x1, x2, some w] (st) h = mv_i w (lw L xs d Q 483 [x0, x1, x2, some w] (w :: st) h) := (lw_at mj_406_482 rfl).trans (z_iload_n rfl)
theorem mj_406_483 : mc_P ml_y 483 = some (.iconst 4, 1, 0, 0, 0) := by decide +kernel
theorem s_406_483 {x0 x1 x2 x3 : Option Value} : lw L xs d Q 483 [x0, x1, x2, x3] (st) h = lw L xs d Q 484 [x0, x1, x2, x3] (.int 4 :: st) h := (lw_at mj_406_483 rfl).trans (z_iconst (by decide))
theorem mj_406_484 : mc_P ml_y 484 = some (.iadd, 1, 0, 0, 0) := by decide +kernel
theorem s_406_484 {x0 x1 x2 x3 : Option Value} {x w : Int32} : lw L xs d Q 484 [x0, x1, x2, x3] (.int w :: .int x :: st) h = lw L xs d Q 485 [x0, x1, x2, x3] (.int (x + w) :: st) h := (lw_at mj_406_484 rfl).trans (z_iadd)
theorem mj_406_485 : mc_P ml_y 485 = some (.iaload, 1, 0, 0, 0) := by decide +kernel
theorem s_406_485 {x0 x1 x2 x3 : Option Value} {i : Int32} : lw L xs d Q 485 [x0, x1, x2, x3] (.int i :: .retAddr 8 :: st) h = (mx i L ∧ lw L xs d Q 486 [x0, x1, x2, x3] (.int (xs i.toNatClampNeg) :: st) h) := lw_scr mj_406_485
theorem mj_406_486 : mc_P ml_y 486 = some (.aload_n 0, 1, 0, 0, 0) := by decide +kernel
theorem s_406_486 {x1 x2 x3 : Option Value} {w : Value} : lw L xs d Q 486 [some w, x1, x2, x3] (st) h = mv_a w (lw L xs d Q 487 [some w, x1, x2, x3] (w :: st) h) := (lw_at mj_406_486 rfl).trans (z_aload_n rfl)
theorem mj_406_487 : mc_P ml_y 487 = some (.iload_n 3, 1, 0, 0, 0) := by decide +kernel
theorem s_406_487 {x0 x1 x2 : Option Value} {w : Value} : lw L xs d Q 487 [x0, x1, x2, some w] (st) h = mv_i w (lw L xs d Q 488 [x0, x1, x2, some w] (w :: st) h) := (lw_at mj_406_487 rfl).trans (z_iload_n rfl)
theorem mj_406_488 : mc_P ml_y 488 = some (.iconst 5, 1, 0, 0, 0) := by decide +kernel
theorem s_406_488 {x0 x1 x2 x3 : Option Value} : lw L xs d Q 488 [x0, x1, x2, x3] (st) h = lw L xs d Q 489 [x0, x1, x2, x3] (.int 5 :: st) h := (lw_at mj_406_488 rfl).trans (z_iconst (by decide))
theorem mj_406_489 : mc_P ml_y 489 = some (.iadd, 1, 0, 0, 0) := by decide +kernel
theorem s_406_489 {x0 x1 x2 x3 : Option Value} {x w : Int32} : lw L xs d Q 489 [x0, x1, x2, x3] (.int w :: .int x :: st) h = lw L xs d Q 490 [x0, x1, x2, x3] (.int (x + w) :: st) h := (lw_at mj_406_489 rfl).trans (z_iadd)
theorem mj_406_490 : mc_P ml_y 490 = some (.iaload, 1, 0, 0, 0) := by decide +kernel
theorem s_406_490 {x0 x1 x2 x3 : Option Value} {i : Int32} : lw L xs d Q 490 [x0, x1, x2, x3] (.int i :: .retAddr 8 :: st) h = (mx i L ∧ lw L xs d Q 491 [x0, x1, x2, x3] (.int (xs i.toNatClampNeg) :: st) h) := lw_scr mj_406_490
theorem mj_406_491 : mc_P ml_y 491 = some (.aload_n 0, 1, 0, 0, 0) := by decide +kernel
theorem s_406_491 {x1 x2 x3 : Option Value} {w : Value} : lw L xs d Q 491 [some w, x1, x2, x3] (st) h = mv_a w (lw L xs d Q 492 [some w, x1, x2, x3] (w :: st) h) := (lw_at mj_406_491 rfl).trans (z_aload_n rfl)
theorem mj_406_492 : mc_P ml_y 492 = some (.iload_n 3, 1, 0, 0, 0) := by decide +kernel
theorem s_406_492 {x0 x1 x2 : Option Value} {w : Value} : lw L xs d Q 492 [x0, x1, x2, some w] (st) h = mv_i w (lw L xs d Q 493 [x0, x1, x2, some w] (w :: st) h) := (lw_at mj_406_492 rfl).trans (z_iload_n rfl)
theorem mj_406_493 : mc_P ml_y 493 = some (.bipush 6, 2, 0, 0, 0) := by decide +kernel
theorem s_406_493 {x0 x1 x2 x3 : Option Value} : lw L xs d Q 493 [x0, x1, x2, x3] (st) h = lw L xs d Q 495 [x0, x1, x2, x3] (.int 6 :: st) h := (lw_at mj_406_493 rfl).trans (z_bipush (by decide))
theorem mj_406_495 : mc_P ml_y 495 = some (.iadd, 1, 0, 0, 0) := by decide +kernel
theorem s_406_495 {x0 x1 x2 x3 : Option Value} {x w : Int32} : lw L xs d Q 495 [x0, x1, x2, x3] (.int w :: .int x :: st) h = lw L xs d Q 496 [x0, x1, x2, x3] (.int (x + w) :: st) h := (lw_at mj_406_495 rfl).trans (z_iadd)
theorem mj_406_496 : mc_P ml_y 496 = some (.iaload, 1, 0, 0, 0) := by decide +kernel
theorem s_406_496 {x0 x1 x2 x3 : Option Value} {i : Int32} : lw L xs d Q 496 [x0, x1, x2, x3] (.int i :: .retAddr 8 :: st) h = (mx i L ∧ lw L xs d Q 497 [x0, x1, x2, x3] (.int (xs i.toNatClampNeg) :: st) h) := lw_scr mj_406_496
theorem mj_406_497 : mc_P ml_y 497 = some (.i2l, 1, 0, 0, 0) := by decide +kernel
theorem s_406_497 {x0 x1 x2 x3 : Option Value} {x : Int32} : lw L xs d Q 497 [x0, x1, x2, x3] (.int x :: st) h = lw L xs d Q 498 [x0, x1, x2, x3] (.long x.toInt64 :: st) h := (lw_at mj_406_497 rfl).trans (z_i2l)
theorem mj_406_498 : mc_P ml_y 498 = some (.bipush 32, 2, 0, 0, 0) := by decide +kernel
theorem s_406_498 {x0 x1 x2 x3 : Option Value} : lw L xs d Q 498 [x0, x1, x2, x3] (st) h = lw L xs d Q 500 [x0, x1, x2, x3] (.int 32 :: st) h := (lw_at mj_406_498 rfl).trans (z_bipush (by decide))
theorem mj_406_500 : mc_P ml_y 500 = some (.lshl, 1, 0, 0, 0) := by decide +kernel
theorem s_406_500 {x0 x1 x2 x3 : Option Value} {x : Int64} {w : Int32} : lw L xs d Q 500 [x0, x1, x2, x3] (.int w :: .long x :: st) h = lw L xs d Q 501 [x0, x1, x2, x3] (.long (x <<< (w.toInt64 &&& 63)) :: st) h := (lw_at mj_406_500 rfl).trans (z_lshl)
theorem mj_406_501 : mc_P ml_y 501 = some (.aload_n 0, 1, 0, 0, 0) := by decide +kernel
theorem s_406_501 {x1 x2 x3 : Option Value} {w : Value} : lw L xs d Q 501 [some w, x1, x2, x3] (st) h = mv_a w (lw L xs d Q 502 [some w, x1, x2, x3] (w :: st) h) := (lw_at mj_406_501 rfl).trans (z_aload_n rfl)
theorem mj_406_502 : mc_P ml_y 502 = some (.iload_n 3, 1, 0, 0, 0) := by decide +kernel
theorem s_406_502 {x0 x1 x2 : Option Value} {w : Value} : lw L xs d Q 502 [x0, x1, x2, some w] (st) h = mv_i w (lw L xs d Q 503 [x0, x1, x2, some w] (w :: st) h) := (lw_at mj_406_502 rfl).trans (z_iload_n rfl)
theorem mj_406_503 : mc_P ml_y 503 = some (.bipush 7, 2, 0, 0, 0) := by decide +kernel
theorem s_406_503 {x0 x1 x2 x3 : Option Value} : lw L xs d Q 503 [x0, x1, x2, x3] (st) h = lw L xs d Q 505 [x0, x1, x2, x3] (.int 7 :: st) h := (lw_at mj_406_503 rfl).trans (z_bipush (by decide))
theorem mj_406_505 : mc_P ml_y 505 = some (.iadd, 1, 0, 0, 0) := by decide +kernel
theorem s_406_505 {x0 x1 x2 x3 : Option Value} {x w : Int32} : lw L xs d Q 505 [x0, x1, x2, x3] (.int w :: .int x :: st) h = lw L xs d Q 506 [x0, x1, x2, x3] (.int (x + w) :: st) h := (lw_at mj_406_505 rfl).trans (z_iadd)
theorem mj_406_506 : mc_P ml_y 506 = some (.iaload, 1, 0, 0, 0) := by decide +kernel
theorem s_406_506 {x0 x1 x2 x3 : Option Value} {i : Int32} : lw L xs d Q 506 [x0, x1, x2, x3] (.int i :: .retAddr 8 :: st) h = (mx i L ∧ lw L xs d Q 507 [x0, x1, x2, x3] (.int (xs i.toNatClampNeg) :: st) h) := lw_scr mj_406_506
theorem mj_406_507 : mc_P ml_y 507 = some (.i2l, 1, 0, 0, 0) := by decide +kernel
theorem s_406_507 {x0 x1 x2 x3 : Option Value} {x : Int32} : lw L xs d Q 507 [x0, x1, x2, x3] (.int x :: st) h = lw L xs d Q 508 [x0, x1, x2, x3] (.long x.toInt64 :: st) h := (lw_at mj_406_507 rfl).trans (z_i2l)
theorem mj_406_508 : mc_P ml_y 508 = some (.ldc2_w 47, 3, 0, 0, 4294967295) := by decide +kernel
theorem s_406_508 {x0 x1 x2 x3 : Option Value} : lw L xs d Q 508 [x0, x1, x2, x3] (st) h = lw L xs d Q 511 [x0, x1, x2, x3] (.long 4294967295 :: st) h := (lw_at mj_406_508 rfl).trans (z_ldc2 (by decide))
theorem mj_406_511 : mc_P ml_y 511 = some (.land, 1, 0, 0, 0) := by decide +kernel
theorem s_406_511 {x0 x1 x2 x3 : Option Value} {x w : Int64} : lw L xs d Q 511 [x0, x1, x2, x3] (.long w :: .long x :: st) h = lw L xs d Q 512 [x0, x1, x2, x3] (.long (x &&& w) :: st) h := (lw_at mj_406_511 rfl).trans (z_land)
theorem mj_406_512 : mc_P ml_y 512 = some (.lor, 1, 0, 0, 0) := by decide +kernel
theorem s_406_512 {x0 x1 x2 x3 : Option Value} {x w : Int64} : lw L xs d Q 512 [x0, x1, x2, x3] (.long w :: .long x :: st) h = lw L xs d Q 513 [x0, x1, x2, x3] (.long (x ||| w) :: st) h := (lw_at mj_406_512 rfl).trans (z_lor)
theorem mj_406_513 : mc_P ml_y 513 = some (.invokevirtual 49, 3, 199, 11, 7) := by decide +kernel
theorem s_406_513 {x0 x1 x2 x3 : Option Value} {o : Nat} {a1 a2 a3 a4 a5 a6 : Value} : lw L xs (d + 1) Q 513 [x0, x1, x2, x3] (a6 :: a5 :: a4 :: a3 :: a2 :: a1 :: .ref o :: st) h = (mg h o 11 ∧ mca st 8 ∧ mca [.ref o, a1, a2, a3, a4, a5, a6] 11 ∧ mcall d 199 [.ref o, a1, a2, a3, a4, a5, a6] h (lK L xs (d + 1) Q 516 [x0, x1, x2, x3] st)) := (lw_at mj_406_513 rfl).trans ((z_invv (As := [a1, a2, a3, a4, a5, a6]) (by decide) rfl rfl).trans (congrArg (And _) (congrArg (And _) (lC_nl nl_199))))
theorem mj_406_516 : mc_P ml_y 516 = some (.aload_n 2, 1, 0, 0, 0) := by decide +kernel
theorem s_406_516 {x0 x1 x3 : Option Value} {w : Value} : lw L xs d Q 516 [x0, x1, some w, x3] (st) h = mv_a w (lw L xs d Q 517 [x0, x1, some w, x3] (w :: st) h) := (lw_at mj_406_516 rfl).trans (z_aload_n rfl)
theorem mj_406_517 : mc_P ml_y 517 = some (.aload_n 0, 1, 0, 0, 0) := by decide +kernel
theorem s_406_517 {x1 x2 x3 : Option Value} {w : Value} : lw L xs d Q 517 [some w, x1, x2, x3] (st) h = mv_a w (lw L xs d Q 518 [some w, x1, x2, x3] (w :: st) h) := (lw_at mj_406_517 rfl).trans (z_aload_n rfl)
theorem mj_406_518 : mc_P ml_y 518 = some (.iload_n 3, 1, 0, 0, 0) := by decide +kernel
theorem s_406_518 {x0 x1 x2 : Option Value} {w : Value} : lw L xs d Q 518 [x0, x1, x2, some w] (st) h = mv_i w (lw L xs d Q 519 [x0, x1, x2, some w] (w :: st) h) := (lw_at mj_406_518 rfl).trans (z_iload_n rfl)
theorem mj_406_519 : mc_P ml_y 519 = some (.iconst 1, 1, 0, 0, 0) := by decide +kernel
theorem s_406_519 {x0 x1 x2 x3 : Option Value} : lw L xs d Q 519 [x0, x1, x2, x3] (st) h = lw L xs d Q 520 [x0, x1, x2, x3] (.int 1 :: st) h := (lw_at mj_406_519 rfl).trans (z_iconst (by decide))
theorem mj_406_520 : mc_P ml_y 520 = some (.iadd, 1, 0, 0, 0) := by decide +kernel
theorem s_406_520 {x0 x1 x2 x3 : Option Value} {x w : Int32} : lw L xs d Q 520 [x0, x1, x2, x3] (.int w :: .int x :: st) h = lw L xs d Q 521 [x0, x1, x2, x3] (.int (x + w) :: st) h := (lw_at mj_406_520 rfl).trans (z_iadd)
theorem mj_406_521 : mc_P ml_y 521 = some (.iaload, 1, 0, 0, 0) := by decide +kernel
theorem s_406_521 {x0 x1 x2 x3 : Option Value} {i : Int32} : lw L xs d Q 521 [x0, x1, x2, x3] (.int i :: .retAddr 8 :: st) h = (mx i L ∧ lw L xs d Q 522 [x0, x1, x2, x3] (.int (xs i.toNatClampNeg) :: st) h) := lw_scr mj_406_521
theorem mj_406_522 : mc_P ml_y 522 = some (.aload_n 0, 1, 0, 0, 0) := by decide +kernel
theorem s_406_522 {x1 x2 x3 : Option Value} {w : Value} : lw L xs d Q 522 [some w, x1, x2, x3] (st) h = mv_a w (lw L xs d Q 523 [some w, x1, x2, x3] (w :: st) h) := (lw_at mj_406_522 rfl).trans (z_aload_n rfl)
theorem mj_406_523 : mc_P ml_y 523 = some (.iload_n 3, 1, 0, 0, 0) := by decide +kernel
theorem s_406_523 {x0 x1 x2 : Option Value} {w : Value} : lw L xs d Q 523 [x0, x1, x2, some w] (st) h = mv_i w (lw L xs d Q 524 [x0, x1, x2, some w] (w :: st) h) := (lw_at mj_406_523 rfl).trans (z_iload_n rfl)
theorem mj_406_524 : mc_P ml_y 524 = some (.iconst 2, 1, 0, 0, 0) := by decide +kernel
theorem s_406_524 {x0 x1 x2 x3 : Option Value} : lw L xs d Q 524 [x0, x1, x2, x3] (st) h = lw L xs d Q 525 [x0, x1, x2, x3] (.int 2 :: st) h := (lw_at mj_406_524 rfl).trans (z_iconst (by decide))
theorem mj_406_525 : mc_P ml_y 525 = some (.iadd, 1, 0, 0, 0) := by decide +kernel
theorem s_406_525 {x0 x1 x2 x3 : Option Value} {x w : Int32} : lw L xs d Q 525 [x0, x1, x2, x3] (.int w :: .int x :: st) h = lw L xs d Q 526 [x0, x1, x2, x3] (.int (x + w) :: st) h := (lw_at mj_406_525 rfl).trans (z_iadd)
theorem mj_406_526 : mc_P ml_y 526 = some (.iaload, 1, 0, 0, 0) := by decide +kernel
theorem s_406_526 {x0 x1 x2 x3 : Option Value} {i : Int32} : lw L xs d Q 526 [x0, x1, x2, x3] (.int i :: .retAddr 8 :: st) h = (mx i L ∧ lw L xs d Q 527 [x0, x1, x2, x3] (.int (xs i.toNatClampNeg) :: st) h) := lw_scr mj_406_526
theorem mj_406_527 : mc_P ml_y 527 = some (.aload_n 0, 1, 0, 0, 0) := by decide +kernel
theorem s_406_527 {x1 x2 x3 : Option Value} {w : Value} : lw L xs d Q 527 [some w, x1, x2, x3] (st) h = mv_a w (lw L xs d Q 528 [some w, x1, x2, x3] (w :: st) h) := (lw_at mj_406_527 rfl).trans (z_aload_n rfl)
theorem mj_406_528 : mc_P ml_y 528 = some (.iload_n 3, 1, 0, 0, 0) := by decide +kernel
theorem s_406_528 {x0 x1 x2 : Option Value} {w : Value} : lw L xs d Q 528 [x0, x1, x2, some w] (st) h = mv_i w (lw L xs d Q 529 [x0, x1, x2, some w] (w :: st) h) := (lw_at mj_406_528 rfl).trans (z_iload_n rfl)
theorem mj_406_529 : mc_P ml_y 529 = some (.iconst 3, 1, 0, 0, 0) := by decide +kernel
theorem s_406_529 {x0 x1 x2 x3 : Option Value} : lw L xs d Q 529 [x0, x1, x2, x3] (st) h = lw L xs d Q 530 [x0, x1, x2, x3] (.int 3 :: st) h := (lw_at mj_406_529 rfl).trans (z_iconst (by decide))
theorem mj_406_530 : mc_P ml_y 530 = some (.iadd, 1, 0, 0, 0) := by decide +kernel
theorem s_406_530 {x0 x1 x2 x3 : Option Value} {x w : Int32} : lw L xs d Q 530 [x0, x1, x2, x3] (.int w :: .int x :: st) h = lw L xs d Q 531 [x0, x1, x2, x3] (.int (x + w) :: st) h := (lw_at mj_406_530 rfl).trans (z_iadd)
theorem mj_406_531 : mc_P ml_y 531 = some (.iaload, 1, 0, 0, 0) := by decide +kernel
theorem s_406_531 {x0 x1 x2 x3 : Option Value} {i : Int32} : lw L xs d Q 531 [x0, x1, x2, x3] (.int i :: .retAddr 8 :: st) h = (mx i L ∧ lw L xs d Q 532 [x0, x1, x2, x3] (.int (xs i.toNatClampNeg) :: st) h) := lw_scr mj_406_531
theorem mj_406_532 : mc_P ml_y 532 = some (.aload_n 0, 1, 0, 0, 0) := by decide +kernel
theorem s_406_532 {x1 x2 x3 : Option Value} {w : Value} : lw L xs d Q 532 [some w, x1, x2, x3] (st) h = mv_a w (lw L xs d Q 533 [some w, x1, x2, x3] (w :: st) h) := (lw_at mj_406_532 rfl).trans (z_aload_n rfl)
theorem mj_406_533 : mc_P ml_y 533 = some (.iload_n 3, 1, 0, 0, 0) := by decide +kernel
theorem s_406_533 {x0 x1 x2 : Option Value} {w : Value} : lw L xs d Q 533 [x0, x1, x2, some w] (st) h = mv_i w (lw L xs d Q 534 [x0, x1, x2, some w] (w :: st) h) := (lw_at mj_406_533 rfl).trans (z_iload_n rfl)
theorem mj_406_534 : mc_P ml_y 534 = some (.iconst 4, 1, 0, 0, 0) := by decide +kernel
theorem s_406_534 {x0 x1 x2 x3 : Option Value} : lw L xs d Q 534 [x0, x1, x2, x3] (st) h = lw L xs d Q 535 [x0, x1, x2, x3] (.int 4 :: st) h := (lw_at mj_406_534 rfl).trans (z_iconst (by decide))
theorem mj_406_535 : mc_P ml_y 535 = some (.iadd, 1, 0, 0, 0) := by decide +kernel
theorem s_406_535 {x0 x1 x2 x3 : Option Value} {x w : Int32} : lw L xs d Q 535 [x0, x1, x2, x3] (.int w :: .int x :: st) h = lw L xs d Q 536 [x0, x1, x2, x3] (.int (x + w) :: st) h := (lw_at mj_406_535 rfl).trans (z_iadd)
theorem mj_406_536 : mc_P ml_y 536 = some (.iaload, 1, 0, 0, 0) := by decide +kernel
theorem s_406_536 {x0 x1 x2 x3 : Option Value} {i : Int32} : lw L xs d Q 536 [x0, x1, x2, x3] (.int i :: .retAddr 8 :: st) h = (mx i L ∧ lw L xs d Q 537 [x0, x1, x2, x3] (.int (xs i.toNatClampNeg) :: st) h) := lw_scr mj_406_536
theorem mj_406_537 : mc_P ml_y 537 = some (.aload_n 0, 1, 0, 0, 0) := by decide +kernel
theorem s_406_537 {x1 x2 x3 : Option Value} {w : Value} : lw L xs d Q 537 [some w, x1, x2, x3] (st) h = mv_a w (lw L xs d Q 538 [some w, x1, x2, x3] (w :: st) h) := (lw_at mj_406_537 rfl).trans (z_aload_n rfl)
theorem mj_406_538 : mc_P ml_y 538 = some (.iload_n 3, 1, 0, 0, 0) := by decide +kernel
theorem s_406_538 {x0 x1 x2 : Option Value} {w : Value} : lw L xs d Q 538 [x0, x1, x2, some w] (st) h = mv_i w (lw L xs d Q 539 [x0, x1, x2, some w] (w :: st) h) := (lw_at mj_406_538 rfl).trans (z_iload_n rfl)
theorem mj_406_539 : mc_P ml_y 539 = some (.iconst 5, 1, 0, 0, 0) := by decide +kernel
theorem s_406_539 {x0 x1 x2 x3 : Option Value} : lw L xs d Q 539 [x0, x1, x2, x3] (st) h = lw L xs d Q 540 [x0, x1, x2, x3] (.int 5 :: st) h := (lw_at mj_406_539 rfl).trans (z_iconst (by decide))
theorem mj_406_540 : mc_P ml_y 540 = some (.iadd, 1, 0, 0, 0) := by decide +kernel
theorem s_406_540 {x0 x1 x2 x3 : Option Value} {x w : Int32} : lw L xs d Q 540 [x0, x1, x2, x3] (.int w :: .int x :: st) h = lw L xs d Q 541 [x0, x1, x2, x3] (.int (x + w) :: st) h := (lw_at mj_406_540 rfl).trans (z_iadd)
theorem mj_406_541 : mc_P ml_y 541 = some (.iaload, 1, 0, 0, 0) := by decide +kernel
theorem s_406_541 {x0 x1 x2 x3 : Option Value} {i : Int32} : lw L xs d Q 541 [x0, x1, x2, x3] (.int i :: .retAddr 8 :: st) h = (mx i L ∧ lw L xs d Q 542 [x0, x1, x2, x3] (.int (xs i.toNatClampNeg) :: st) h) := lw_scr mj_406_541
theorem mj_406_542 : mc_P ml_y 542 = some (.aload_n 0, 1, 0, 0, 0) := by decide +kernel
theorem s_406_542 {x1 x2 x3 : Option Value} {w : Value} : lw L xs d Q 542 [some w, x1, x2, x3] (st) h = mv_a w (lw L xs d Q 543 [some w, x1, x2, x3] (w :: st) h) := (lw_at mj_406_542 rfl).trans (z_aload_n rfl)
theorem mj_406_543 : mc_P ml_y 543 = some (.iload_n 3, 1, 0, 0, 0) := by decide +kernel
theorem s_406_543 {x0 x1 x2 : Option Value} {w : Value} : lw L xs d Q 543 [x0, x1, x2, some w] (st) h = mv_i w (lw L xs d Q 544 [x0, x1, x2, some w] (w :: st) h) := (lw_at mj_406_543 rfl).trans (z_iload_n rfl)
theorem mj_406_544 : mc_P ml_y 544 = some (.bipush 6, 2, 0, 0, 0) := by decide +kernel
theorem s_406_544 {x0 x1 x2 x3 : Option Value} : lw L xs d Q 544 [x0, x1, x2, x3] (st) h = lw L xs d Q 546 [x0, x1, x2, x3] (.int 6 :: st) h := (lw_at mj_406_544 rfl).trans (z_bipush (by decide))
theorem mj_406_546 : mc_P ml_y 546 = some (.iadd, 1, 0, 0, 0) := by decide +kernel
theorem s_406_546 {x0 x1 x2 x3 : Option Value} {x w : Int32} : lw L xs d Q 546 [x0, x1, x2, x3] (.int w :: .int x :: st) h = lw L xs d Q 547 [x0, x1, x2, x3] (.int (x + w) :: st) h := (lw_at mj_406_546 rfl).trans (z_iadd)
theorem mj_406_547 : mc_P ml_y 547 = some (.iaload, 1, 0, 0, 0) := by decide +kernel
theorem s_406_547 {x0 x1 x2 x3 : Option Value} {i : Int32} : lw L xs d Q 547 [x0, x1, x2, x3] (.int i :: .retAddr 8 :: st) h = (mx i L ∧ lw L xs d Q 548 [x0, x1, x2, x3] (.int (xs i.toNatClampNeg) :: st) h) := lw_scr mj_406_547
theorem mj_406_548 : mc_P ml_y 548 = some (.i2l, 1, 0, 0, 0) := by decide +kernel
theorem s_406_548 {x0 x1 x2 x3 : Option Value} {x : Int32} : lw L xs d Q 548 [x0, x1, x2, x3] (.int x :: st) h = lw L xs d Q 549 [x0, x1, x2, x3] (.long x.toInt64 :: st) h := (lw_at mj_406_548 rfl).trans (z_i2l)
theorem mj_406_549 : mc_P ml_y 549 = some (.bipush 32, 2, 0, 0, 0) := by decide +kernel
theorem s_406_549 {x0 x1 x2 x3 : Option Value} : lw L xs d Q 549 [x0, x1, x2, x3] (st) h = lw L xs d Q 551 [x0, x1, x2, x3] (.int 32 :: st) h := (lw_at mj_406_549 rfl).trans (z_bipush (by decide))
theorem mj_406_551 : mc_P ml_y 551 = some (.lshl, 1, 0, 0, 0) := by decide +kernel
theorem s_406_551 {x0 x1 x2 x3 : Option Value} {x : Int64} {w : Int32} : lw L xs d Q 551 [x0, x1, x2, x3] (.int w :: .long x :: st) h = lw L xs d Q 552 [x0, x1, x2, x3] (.long (x <<< (w.toInt64 &&& 63)) :: st) h := (lw_at mj_406_551 rfl).trans (z_lshl)
theorem mj_406_552 : mc_P ml_y 552 = some (.aload_n 0, 1, 0, 0, 0) := by decide +kernel
theorem s_406_552 {x1 x2 x3 : Option Value} {w : Value} : lw L xs d Q 552 [some w, x1, x2, x3] (st) h = mv_a w (lw L xs d Q 553 [some w, x1, x2, x3] (w :: st) h) := (lw_at mj_406_552 rfl).trans (z_aload_n rfl)
theorem mj_406_553 : mc_P ml_y 553 = some (.iload_n 3, 1, 0, 0, 0) := by decide +kernel
theorem s_406_553 {x0 x1 x2 : Option Value} {w : Value} : lw L xs d Q 553 [x0, x1, x2, some w] (st) h = mv_i w (lw L xs d Q 554 [x0, x1, x2, some w] (w :: st) h) := (lw_at mj_406_553 rfl).trans (z_iload_n rfl)
theorem mj_406_554 : mc_P ml_y 554 = some (.bipush 7, 2, 0, 0, 0) := by decide +kernel
theorem s_406_554 {x0 x1 x2 x3 : Option Value} : lw L xs d Q 554 [x0, x1, x2, x3] (st) h = lw L xs d Q 556 [x0, x1, x2, x3] (.int 7 :: st) h := (lw_at mj_406_554 rfl).trans (z_bipush (by decide))
theorem mj_406_556 : mc_P ml_y 556 = some (.iadd, 1, 0, 0, 0) := by decide +kernel
theorem s_406_556 {x0 x1 x2 x3 : Option Value} {x w : Int32} : lw L xs d Q 556 [x0, x1, x2, x3] (.int w :: .int x :: st) h = lw L xs d Q 557 [x0, x1, x2, x3] (.int (x + w) :: st) h := (lw_at mj_406_556 rfl).trans (z_iadd)
theorem mj_406_557 : mc_P ml_y 557 = some (.iaload, 1, 0, 0, 0) := by decide +kernel
theorem s_406_557 {x0 x1 x2 x3 : Option Value} {i : Int32} : lw L xs d Q 557 [x0, x1, x2, x3] (.int i :: .retAddr 8 :: st) h = (mx i L ∧ lw L xs d Q 558 [x0, x1, x2, x3] (.int (xs i.toNatClampNeg) :: st) h) := lw_scr mj_406_557
theorem mj_406_558 : mc_P ml_y 558 = some (.i2l, 1, 0, 0, 0) := by decide +kernel
theorem s_406_558 {x0 x1 x2 x3 : Option Value} {x : Int32} : lw L xs d Q 558 [x0, x1, x2, x3] (.int x :: st) h = lw L xs d Q 559 [x0, x1, x2, x3] (.long x.toInt64 :: st) h := (lw_at mj_406_558 rfl).trans (z_i2l)
theorem mj_406_559 : mc_P ml_y 559 = some (.ldc2_w 47, 3, 0, 0, 4294967295) := by decide +kernel
theorem s_406_559 {x0 x1 x2 x3 : Option Value} : lw L xs d Q 559 [x0, x1, x2, x3] (st) h = lw L xs d Q 562 [x0, x1, x2, x3] (.long 4294967295 :: st) h := (lw_at mj_406_559 rfl).trans (z_ldc2 (by decide))
theorem mj_406_562 : mc_P ml_y 562 = some (.land, 1, 0, 0, 0) := by decide +kernel
theorem s_406_562 {x0 x1 x2 x3 : Option Value} {x w : Int64} : lw L xs d Q 562 [x0, x1, x2, x3] (.long w :: .long x :: st) h = lw L xs d Q 563 [x0, x1, x2, x3] (.long (x &&& w) :: st) h := (lw_at mj_406_562 rfl).trans (z_land)
theorem mj_406_563 : mc_P ml_y 563 = some (.lor, 1, 0, 0, 0) := by decide +kernel
theorem s_406_563 {x0 x1 x2 x3 : Option Value} {x w : Int64} : lw L xs d Q 563 [x0, x1, x2, x3] (.long w :: .long x :: st) h = lw L xs d Q 564 [x0, x1, x2, x3] (.long (x ||| w) :: st) h := (lw_at mj_406_563 rfl).trans (z_lor)
theorem mj_406_564 : mc_P ml_y 564 = some (.invokevirtual 53, 3, 379, 14, 7) := by decide +kernel
theorem s_406_564 {x0 x1 x2 x3 : Option Value} {o : Nat} {a1 a2 a3 a4 a5 a6 : Value} : lw L xs (d + 1) Q 564 [x0, x1, x2, x3] (a6 :: a5 :: a4 :: a3 :: a2 :: a1 :: .ref o :: st) h = (mg h o 14 ∧ mca st 8 ∧ mca [.ref o, a1, a2, a3, a4, a5, a6] 9 ∧ mcall d 379 [.ref o, a1, a2, a3, a4, a5, a6] h (lK L xs (d + 1) Q 567 [x0, x1, x2, x3] st)) := (lw_at mj_406_564 rfl).trans ((z_invv (As := [a1, a2, a3, a4, a5, a6]) (by decide) rfl rfl).trans (congrArg (And _) (congrArg (And _) (lC_nl nl_379))))
theorem mj_406_567 : mc_P ml_y 567 = some (.if_icmp .eq 346, 3, 0, 0, 0) := by decide +kernel
theorem s_406_567 {x0 x1 x2 x3 : Option Value} {x w : Int32} : lw L xs d Q 567 [x0, x1, x2, x3] (.int w :: .int x :: st) h = mB (x = w) (lw L xs d Q) 913 570 [x0, x1, x2, x3] st h := (lw_at mj_406_567 rfl).trans (z_icmp_eq (by decide) rfl)
theorem mj_406_570 : mc_P ml_y 570 = some (.iconst 0, 1, 0, 0, 0) := by decide +kernel
theorem s_406_570 {x0 x1 x2 x3 : Option Value} : lw L xs d Q 570 [x0, x1, x2, x3] (st) h = lw L xs d Q 571 [x0, x1, x2, x3] (.int 0 :: st) h := (lw_at mj_406_570 rfl).trans (z_iconst (by decide))
theorem mj_406_571 : mc_P ml_y 571 = some (.ireturn, 1, 0, 3, 0) := by decide +kernel
theorem s_406_571 {x0 x1 x2 x3 : Option Value} {x : Int32} : lw L xs d Q 571 [x0, x1, x2, x3] ([.int x]) h = ((x = 0 ∨ x = 1) ∧ Q (some (.int x)) h) := (lw_at mj_406_571 rfl).trans (z_zret)
theorem mj_406_572 : mc_P ml_y 572 = some (.aload_n 1, 1, 0, 0, 0) := by decide +kernel
theorem s_406_572 {x0 x2 x3 : Option Value} {w : Value} : lw L xs d Q 572 [x0, some w, x2, x3] (st) h = mv_a w (lw L xs d Q 573 [x0, some w, x2, x3] (w :: st) h) := (lw_at mj_406_572 rfl).trans (z_aload_n rfl)
theorem mj_406_573 : mc_P ml_y 573 = some (.aload_n 0, 1, 0, 0, 0) := by decide +kernel
theorem s_406_573 {x1 x2 x3 : Option Value} {w : Value} : lw L xs d Q 573 [some w, x1, x2, x3] (st) h = mv_a w (lw L xs d Q 574 [some w, x1, x2, x3] (w :: st) h) := (lw_at mj_406_573 rfl).trans (z_aload_n rfl)
theorem mj_406_574 : mc_P ml_y 574 = some (.iload_n 3, 1, 0, 0, 0) := by decide +kernel
theorem s_406_574 {x0 x1 x2 : Option Value} {w : Value} : lw L xs d Q 574 [x0, x1, x2, some w] (st) h = mv_i w (lw L xs d Q 575 [x0, x1, x2, some w] (w :: st) h) := (lw_at mj_406_574 rfl).trans (z_iload_n rfl)
theorem mj_406_575 : mc_P ml_y 575 = some (.iconst 1, 1, 0, 0, 0) := by decide +kernel
theorem s_406_575 {x0 x1 x2 x3 : Option Value} : lw L xs d Q 575 [x0, x1, x2, x3] (st) h = lw L xs d Q 576 [x0, x1, x2, x3] (.int 1 :: st) h := (lw_at mj_406_575 rfl).trans (z_iconst (by decide))
theorem mj_406_576 : mc_P ml_y 576 = some (.iadd, 1, 0, 0, 0) := by decide +kernel
theorem s_406_576 {x0 x1 x2 x3 : Option Value} {x w : Int32} : lw L xs d Q 576 [x0, x1, x2, x3] (.int w :: .int x :: st) h = lw L xs d Q 577 [x0, x1, x2, x3] (.int (x + w) :: st) h := (lw_at mj_406_576 rfl).trans (z_iadd)
theorem mj_406_577 : mc_P ml_y 577 = some (.iaload, 1, 0, 0, 0) := by decide +kernel
theorem s_406_577 {x0 x1 x2 x3 : Option Value} {i : Int32} : lw L xs d Q 577 [x0, x1, x2, x3] (.int i :: .retAddr 8 :: st) h = (mx i L ∧ lw L xs d Q 578 [x0, x1, x2, x3] (.int (xs i.toNatClampNeg) :: st) h) := lw_scr mj_406_577
theorem mj_406_578 : mc_P ml_y 578 = some (.aload_n 0, 1, 0, 0, 0) := by decide +kernel
theorem s_406_578 {x1 x2 x3 : Option Value} {w : Value} : lw L xs d Q 578 [some w, x1, x2, x3] (st) h = mv_a w (lw L xs d Q 579 [some w, x1, x2, x3] (w :: st) h) := (lw_at mj_406_578 rfl).trans (z_aload_n rfl)
theorem mj_406_579 : mc_P ml_y 579 = some (.iload_n 3, 1, 0, 0, 0) := by decide +kernel
theorem s_406_579 {x0 x1 x2 : Option Value} {w : Value} : lw L xs d Q 579 [x0, x1, x2, some w] (st) h = mv_i w (lw L xs d Q 580 [x0, x1, x2, some w] (w :: st) h) := (lw_at mj_406_579 rfl).trans (z_iload_n rfl)
theorem mj_406_580 : mc_P ml_y 580 = some (.iconst 2, 1, 0, 0, 0) := by decide +kernel
theorem s_406_580 {x0 x1 x2 x3 : Option Value} : lw L xs d Q 580 [x0, x1, x2, x3] (st) h = lw L xs d Q 581 [x0, x1, x2, x3] (.int 2 :: st) h := (lw_at mj_406_580 rfl).trans (z_iconst (by decide))
theorem mj_406_581 : mc_P ml_y 581 = some (.iadd, 1, 0, 0, 0) := by decide +kernel
theorem s_406_581 {x0 x1 x2 x3 : Option Value} {x w : Int32} : lw L xs d Q 581 [x0, x1, x2, x3] (.int w :: .int x :: st) h = lw L xs d Q 582 [x0, x1, x2, x3] (.int (x + w) :: st) h := (lw_at mj_406_581 rfl).trans (z_iadd)
theorem mj_406_582 : mc_P ml_y 582 = some (.iaload, 1, 0, 0, 0) := by decide +kernel
theorem s_406_582 {x0 x1 x2 x3 : Option Value} {i : Int32} : lw L xs d Q 582 [x0, x1, x2, x3] (.int i :: .retAddr 8 :: st) h = (mx i L ∧ lw L xs d Q 583 [x0, x1, x2, x3] (.int (xs i.toNatClampNeg) :: st) h) := lw_scr mj_406_582
theorem mj_406_583 : mc_P ml_y 583 = some (.aload_n 0, 1, 0, 0, 0) := by decide +kernel
theorem s_406_583 {x1 x2 x3 : Option Value} {w : Value} : lw L xs d Q 583 [some w, x1, x2, x3] (st) h = mv_a w (lw L xs d Q 584 [some w, x1, x2, x3] (w :: st) h) := (lw_at mj_406_583 rfl).trans (z_aload_n rfl)
theorem mj_406_584 : mc_P ml_y 584 = some (.iload_n 3, 1, 0, 0, 0) := by decide +kernel
theorem s_406_584 {x0 x1 x2 : Option Value} {w : Value} : lw L xs d Q 584 [x0, x1, x2, some w] (st) h = mv_i w (lw L xs d Q 585 [x0, x1, x2, some w] (w :: st) h) := (lw_at mj_406_584 rfl).trans (z_iload_n rfl)
theorem mj_406_585 : mc_P ml_y 585 = some (.iconst 3, 1, 0, 0, 0) := by decide +kernel
theorem s_406_585 {x0 x1 x2 x3 : Option Value} : lw L xs d Q 585 [x0, x1, x2, x3] (st) h = lw L xs d Q 586 [x0, x1, x2, x3] (.int 3 :: st) h := (lw_at mj_406_585 rfl).trans (z_iconst (by decide))
theorem mj_406_586 : mc_P ml_y 586 = some (.iadd, 1, 0, 0, 0) := by decide +kernel
theorem s_406_586 {x0 x1 x2 x3 : Option Value} {x w : Int32} : lw L xs d Q 586 [x0, x1, x2, x3] (.int w :: .int x :: st) h = lw L xs d Q 587 [x0, x1, x2, x3] (.int (x + w) :: st) h := (lw_at mj_406_586 rfl).trans (z_iadd)
theorem mj_406_587 : mc_P ml_y 587 = some (.iaload, 1, 0, 0, 0) := by decide +kernel
theorem s_406_587 {x0 x1 x2 x3 : Option Value} {i : Int32} : lw L xs d Q 587 [x0, x1, x2, x3] (.int i :: .retAddr 8 :: st) h = (mx i L ∧ lw L xs d Q 588 [x0, x1, x2, x3] (.int (xs i.toNatClampNeg) :: st) h) := lw_scr mj_406_587
theorem mj_406_588 : mc_P ml_y 588 = some (.ifCond .eq 7, 3, 0, 0, 0) := by decide +kernel
theorem s_406_588 {x0 x1 x2 x3 : Option Value} {x : Int32} : lw L xs d Q 588 [x0, x1, x2, x3] (.int x :: st) h = mB (x = 0) (lw L xs d Q) 595 591 [x0, x1, x2, x3] st h := (lw_at mj_406_588 rfl).trans (z_if_eq (by decide) rfl)
theorem mj_406_591 : mc_P ml_y 591 = some (.iconst 1, 1, 0, 0, 0) := by decide +kernel
theorem s_406_591 {x0 x1 x2 x3 : Option Value} : lw L xs d Q 591 [x0, x1, x2, x3] (st) h = lw L xs d Q 592 [x0, x1, x2, x3] (.int 1 :: st) h := (lw_at mj_406_591 rfl).trans (z_iconst (by decide))
theorem mj_406_592 : mc_P ml_y 592 = some (.goto 4, 3, 0, 0, 0) := by decide +kernel
theorem s_406_592 {x0 x1 x2 x3 : Option Value} : lw L xs d Q 592 [x0, x1, x2, x3] (st) h = lw L xs d Q 596 [x0, x1, x2, x3] (st) h := (lw_at mj_406_592 rfl).trans (z_goto (by decide))
theorem mj_406_595 : mc_P ml_y 595 = some (.iconst 0, 1, 0, 0, 0) := by decide +kernel
theorem s_406_595 {x0 x1 x2 x3 : Option Value} : lw L xs d Q 595 [x0, x1, x2, x3] (st) h = lw L xs d Q 596 [x0, x1, x2, x3] (.int 0 :: st) h := (lw_at mj_406_595 rfl).trans (z_iconst (by decide))
theorem mj_406_596 : mc_P ml_y 596 = some (.aload_n 0, 1, 0, 0, 0) := by decide +kernel
theorem s_406_596 {x1 x2 x3 : Option Value} {w : Value} : lw L xs d Q 596 [some w, x1, x2, x3] (st) h = mv_a w (lw L xs d Q 597 [some w, x1, x2, x3] (w :: st) h) := (lw_at mj_406_596 rfl).trans (z_aload_n rfl)
theorem mj_406_597 : mc_P ml_y 597 = some (.iload_n 3, 1, 0, 0, 0) := by decide +kernel
theorem s_406_597 {x0 x1 x2 : Option Value} {w : Value} : lw L xs d Q 597 [x0, x1, x2, some w] (st) h = mv_i w (lw L xs d Q 598 [x0, x1, x2, some w] (w :: st) h) := (lw_at mj_406_597 rfl).trans (z_iload_n rfl)
theorem mj_406_598 : mc_P ml_y 598 = some (.iconst 4, 1, 0, 0, 0) := by decide +kernel
theorem s_406_598 {x0 x1 x2 x3 : Option Value} : lw L xs d Q 598 [x0, x1, x2, x3] (st) h = lw L xs d Q 599 [x0, x1, x2, x3] (.int 4 :: st) h := (lw_at mj_406_598 rfl).trans (z_iconst (by decide))
theorem mj_406_599 : mc_P ml_y 599 = some (.iadd, 1, 0, 0, 0) := by decide +kernel
theorem s_406_599 {x0 x1 x2 x3 : Option Value} {x w : Int32} : lw L xs d Q 599 [x0, x1, x2, x3] (.int w :: .int x :: st) h = lw L xs d Q 600 [x0, x1, x2, x3] (.int (x + w) :: st) h := (lw_at mj_406_599 rfl).trans (z_iadd)
theorem mj_406_600 : mc_P ml_y 600 = some (.iaload, 1, 0, 0, 0) := by decide +kernel
theorem s_406_600 {x0 x1 x2 x3 : Option Value} {i : Int32} : lw L xs d Q 600 [x0, x1, x2, x3] (.int i :: .retAddr 8 :: st) h = (mx i L ∧ lw L xs d Q 601 [x0, x1, x2, x3] (.int (xs i.toNatClampNeg) :: st) h) := lw_scr mj_406_600
theorem mj_406_601 : mc_P ml_y 601 = some (.invokevirtual 54, 3, 200, 11, 5) := by decide +kernel
theorem s_406_601 {x0 x1 x2 x3 : Option Value} {o : Nat} {a1 a2 a3 a4 : Value} : lw L xs (d + 1) Q 601 [x0, x1, x2, x3] (a4 :: a3 :: a2 :: a1 :: .ref o :: st) h = (mg h o 11 ∧ mca st 8 ∧ mca [.ref o, a1, a2, a3, a4] 7 ∧ mcall d 200 [.ref o, a1, a2, a3, a4] h (lK L xs (d + 1) Q 604 [x0, x1, x2, x3] st)) := (lw_at mj_406_601 rfl).trans ((z_invv (As := [a1, a2, a3, a4]) (by decide) rfl rfl).trans (congrArg (And _) (congrArg (And _) (lC_nl nl_200))))
theorem mj_406_604 : mc_P ml_y 604 = some (.aload_n 2, 1, 0, 0, 0) := by decide +kernel
theorem s_406_604 {x0 x1 x3 : Option Value} {w : Value} : lw L xs d Q 604 [x0, x1, some w, x3] (st) h = mv_a w (lw L xs d Q 605 [x0, x1, some w, x3] (w :: st) h) := (lw_at mj_406_604 rfl).trans (z_aload_n rfl)
theorem mj_406_605 : mc_P ml_y 605 = some (.aload_n 0, 1, 0, 0, 0) := by decide +kernel
theorem s_406_605 {x1 x2 x3 : Option Value} {w : Value} : lw L xs d Q 605 [some w, x1, x2, x3] (st) h = mv_a w (lw L xs d Q 606 [some w, x1, x2, x3] (w :: st) h) := (lw_at mj_406_605 rfl).trans (z_aload_n rfl)
theorem mj_406_606 : mc_P ml_y 606 = some (.iload_n 3, 1, 0, 0, 0) := by decide +kernel
theorem s_406_606 {x0 x1 x2 : Option Value} {w : Value} : lw L xs d Q 606 [x0, x1, x2, some w] (st) h = mv_i w (lw L xs d Q 607 [x0, x1, x2, some w] (w :: st) h) := (lw_at mj_406_606 rfl).trans (z_iload_n rfl)
theorem mj_406_607 : mc_P ml_y 607 = some (.iconst 1, 1, 0, 0, 0) := by decide +kernel
theorem s_406_607 {x0 x1 x2 x3 : Option Value} : lw L xs d Q 607 [x0, x1, x2, x3] (st) h = lw L xs d Q 608 [x0, x1, x2, x3] (.int 1 :: st) h := (lw_at mj_406_607 rfl).trans (z_iconst (by decide))
theorem mj_406_608 : mc_P ml_y 608 = some (.iadd, 1, 0, 0, 0) := by decide +kernel
theorem s_406_608 {x0 x1 x2 x3 : Option Value} {x w : Int32} : lw L xs d Q 608 [x0, x1, x2, x3] (.int w :: .int x :: st) h = lw L xs d Q 609 [x0, x1, x2, x3] (.int (x + w) :: st) h := (lw_at mj_406_608 rfl).trans (z_iadd)
theorem mj_406_609 : mc_P ml_y 609 = some (.iaload, 1, 0, 0, 0) := by decide +kernel
theorem s_406_609 {x0 x1 x2 x3 : Option Value} {i : Int32} : lw L xs d Q 609 [x0, x1, x2, x3] (.int i :: .retAddr 8 :: st) h = (mx i L ∧ lw L xs d Q 610 [x0, x1, x2, x3] (.int (xs i.toNatClampNeg) :: st) h) := lw_scr mj_406_609
theorem mj_406_610 : mc_P ml_y 610 = some (.aload_n 0, 1, 0, 0, 0) := by decide +kernel
theorem s_406_610 {x1 x2 x3 : Option Value} {w : Value} : lw L xs d Q 610 [some w, x1, x2, x3] (st) h = mv_a w (lw L xs d Q 611 [some w, x1, x2, x3] (w :: st) h) := (lw_at mj_406_610 rfl).trans (z_aload_n rfl)
theorem mj_406_611 : mc_P ml_y 611 = some (.iload_n 3, 1, 0, 0, 0) := by decide +kernel
theorem s_406_611 {x0 x1 x2 : Option Value} {w : Value} : lw L xs d Q 611 [x0, x1, x2, some w] (st) h = mv_i w (lw L xs d Q 612 [x0, x1, x2, some w] (w :: st) h) := (lw_at mj_406_611 rfl).trans (z_iload_n rfl)
theorem mj_406_612 : mc_P ml_y 612 = some (.iconst 2, 1, 0, 0, 0) := by decide +kernel
theorem s_406_612 {x0 x1 x2 x3 : Option Value} : lw L xs d Q 612 [x0, x1, x2, x3] (st) h = lw L xs d Q 613 [x0, x1, x2, x3] (.int 2 :: st) h := (lw_at mj_406_612 rfl).trans (z_iconst (by decide))
theorem mj_406_613 : mc_P ml_y 613 = some (.iadd, 1, 0, 0, 0) := by decide +kernel
theorem s_406_613 {x0 x1 x2 x3 : Option Value} {x w : Int32} : lw L xs d Q 613 [x0, x1, x2, x3] (.int w :: .int x :: st) h = lw L xs d Q 614 [x0, x1, x2, x3] (.int (x + w) :: st) h := (lw_at mj_406_613 rfl).trans (z_iadd)
theorem mj_406_614 : mc_P ml_y 614 = some (.iaload, 1, 0, 0, 0) := by decide +kernel
theorem s_406_614 {x0 x1 x2 x3 : Option Value} {i : Int32} : lw L xs d Q 614 [x0, x1, x2, x3] (.int i :: .retAddr 8 :: st) h = (mx i L ∧ lw L xs d Q 615 [x0, x1, x2, x3] (.int (xs i.toNatClampNeg) :: st) h) := lw_scr mj_406_614
theorem mj_406_615 : mc_P ml_y 615 = some (.aload_n 0, 1, 0, 0, 0) := by decide +kernel
theorem s_406_615 {x1 x2 x3 : Option Value} {w : Value} : lw L xs d Q 615 [some w, x1, x2, x3] (st) h = mv_a w (lw L xs d Q 616 [some w, x1, x2, x3] (w :: st) h) := (lw_at mj_406_615 rfl).trans (z_aload_n rfl)
theorem mj_406_616 : mc_P ml_y 616 = some (.iload_n 3, 1, 0, 0, 0) := by decide +kernel
theorem s_406_616 {x0 x1 x2 : Option Value} {w : Value} : lw L xs d Q 616 [x0, x1, x2, some w] (st) h = mv_i w (lw L xs d Q 617 [x0, x1, x2, some w] (w :: st) h) := (lw_at mj_406_616 rfl).trans (z_iload_n rfl)
theorem mj_406_617 : mc_P ml_y 617 = some (.iconst 3, 1, 0, 0, 0) := by decide +kernel
theorem s_406_617 {x0 x1 x2 x3 : Option Value} : lw L xs d Q 617 [x0, x1, x2, x3] (st) h = lw L xs d Q 618 [x0, x1, x2, x3] (.int 3 :: st) h := (lw_at mj_406_617 rfl).trans (z_iconst (by decide))
theorem mj_406_618 : mc_P ml_y 618 = some (.iadd, 1, 0, 0, 0) := by decide +kernel
theorem s_406_618 {x0 x1 x2 x3 : Option Value} {x w : Int32} : lw L xs d Q 618 [x0, x1, x2, x3] (.int w :: .int x :: st) h = lw L xs d Q 619 [x0, x1, x2, x3] (.int (x + w) :: st) h := (lw_at mj_406_618 rfl).trans (z_iadd)
theorem mj_406_619 : mc_P ml_y 619 = some (.iaload, 1, 0, 0, 0) := by decide +kernel
theorem s_406_619 {x0 x1 x2 x3 : Option Value} {i : Int32} : lw L xs d Q 619 [x0, x1, x2, x3] (.int i :: .retAddr 8 :: st) h = (mx i L ∧ lw L xs d Q 620 [x0, x1, x2, x3] (.int (xs i.toNatClampNeg) :: st) h) := lw_scr mj_406_619
theorem mj_406_620 : mc_P ml_y 620 = some (.ifCond .eq 7, 3, 0, 0, 0) := by decide +kernel
theorem s_406_620 {x0 x1 x2 x3 : Option Value} {x : Int32} : lw L xs d Q 620 [x0, x1, x2, x3] (.int x :: st) h = mB (x = 0) (lw L xs d Q) 627 623 [x0, x1, x2, x3] st h := (lw_at mj_406_620 rfl).trans (z_if_eq (by decide) rfl)
theorem mj_406_623 : mc_P ml_y 623 = some (.iconst 1, 1, 0, 0, 0) := by decide +kernel
theorem s_406_623 {x0 x1 x2 x3 : Option Value} : lw L xs d Q 623 [x0, x1, x2, x3] (st) h = lw L xs d Q 624 [x0, x1, x2, x3] (.int 1 :: st) h := (lw_at mj_406_623 rfl).trans (z_iconst (by decide))
theorem mj_406_624 : mc_P ml_y 624 = some (.goto 4, 3, 0, 0, 0) := by decide +kernel
theorem s_406_624 {x0 x1 x2 x3 : Option Value} : lw L xs d Q 624 [x0, x1, x2, x3] (st) h = lw L xs d Q 628 [x0, x1, x2, x3] (st) h := (lw_at mj_406_624 rfl).trans (z_goto (by decide))
theorem mj_406_627 : mc_P ml_y 627 = some (.iconst 0, 1, 0, 0, 0) := by decide +kernel
theorem s_406_627 {x0 x1 x2 x3 : Option Value} : lw L xs d Q 627 [x0, x1, x2, x3] (st) h = lw L xs d Q 628 [x0, x1, x2, x3] (.int 0 :: st) h := (lw_at mj_406_627 rfl).trans (z_iconst (by decide))
theorem mj_406_628 : mc_P ml_y 628 = some (.aload_n 0, 1, 0, 0, 0) := by decide +kernel
theorem s_406_628 {x1 x2 x3 : Option Value} {w : Value} : lw L xs d Q 628 [some w, x1, x2, x3] (st) h = mv_a w (lw L xs d Q 629 [some w, x1, x2, x3] (w :: st) h) := (lw_at mj_406_628 rfl).trans (z_aload_n rfl)
theorem mj_406_629 : mc_P ml_y 629 = some (.iload_n 3, 1, 0, 0, 0) := by decide +kernel
theorem s_406_629 {x0 x1 x2 : Option Value} {w : Value} : lw L xs d Q 629 [x0, x1, x2, some w] (st) h = mv_i w (lw L xs d Q 630 [x0, x1, x2, some w] (w :: st) h) := (lw_at mj_406_629 rfl).trans (z_iload_n rfl)
theorem mj_406_630 : mc_P ml_y 630 = some (.iconst 4, 1, 0, 0, 0) := by decide +kernel
theorem s_406_630 {x0 x1 x2 x3 : Option Value} : lw L xs d Q 630 [x0, x1, x2, x3] (st) h = lw L xs d Q 631 [x0, x1, x2, x3] (.int 4 :: st) h := (lw_at mj_406_630 rfl).trans (z_iconst (by decide))
theorem mj_406_631 : mc_P ml_y 631 = some (.iadd, 1, 0, 0, 0) := by decide +kernel
theorem s_406_631 {x0 x1 x2 x3 : Option Value} {x w : Int32} : lw L xs d Q 631 [x0, x1, x2, x3] (.int w :: .int x :: st) h = lw L xs d Q 632 [x0, x1, x2, x3] (.int (x + w) :: st) h := (lw_at mj_406_631 rfl).trans (z_iadd)
theorem mj_406_632 : mc_P ml_y 632 = some (.iaload, 1, 0, 0, 0) := by decide +kernel
theorem s_406_632 {x0 x1 x2 x3 : Option Value} {i : Int32} : lw L xs d Q 632 [x0, x1, x2, x3] (.int i :: .retAddr 8 :: st) h = (mx i L ∧ lw L xs d Q 633 [x0, x1, x2, x3] (.int (xs i.toNatClampNeg) :: st) h) := lw_scr mj_406_632
theorem mj_406_633 : mc_P ml_y 633 = some (.invokevirtual 58, 3, 380, 14, 5) := by decide +kernel
theorem s_406_633 {x0 x1 x2 x3 : Option Value} {o : Nat} {a1 a2 a3 a4 : Value} : lw L xs (d + 1) Q 633 [x0, x1, x2, x3] (a4 :: a3 :: a2 :: a1 :: .ref o :: st) h = (mg h o 14 ∧ mca st 8 ∧ mca [.ref o, a1, a2, a3, a4] 6 ∧ mcall d 380 [.ref o, a1, a2, a3, a4] h (lK L xs (d + 1) Q 636 [x0, x1, x2, x3] st)) := (lw_at mj_406_633 rfl).trans ((z_invv (As := [a1, a2, a3, a4]) (by decide) rfl rfl).trans (congrArg (And _) (congrArg (And _) (lC_nl nl_380))))
theorem mj_406_636 : mc_P ml_y 636 = some (.if_icmp .eq 277, 3, 0, 0, 0) := by decide +kernel
theorem s_406_636 {x0 x1 x2 x3 : Option Value} {x w : Int32} : lw L xs d Q 636 [x0, x1, x2, x3] (.int w :: .int x :: st) h = mB (x = w) (lw L xs d Q) 913 639 [x0, x1, x2, x3] st h := (lw_at mj_406_636 rfl).trans (z_icmp_eq (by decide) rfl)
theorem mj_406_639 : mc_P ml_y 639 = some (.iconst 0, 1, 0, 0, 0) := by decide +kernel
theorem s_406_639 {x0 x1 x2 x3 : Option Value} : lw L xs d Q 639 [x0, x1, x2, x3] (st) h = lw L xs d Q 640 [x0, x1, x2, x3] (.int 0 :: st) h := (lw_at mj_406_639 rfl).trans (z_iconst (by decide))
theorem mj_406_640 : mc_P ml_y 640 = some (.ireturn, 1, 0, 3, 0) := by decide +kernel
theorem s_406_640 {x0 x1 x2 x3 : Option Value} {x : Int32} : lw L xs d Q 640 [x0, x1, x2, x3] ([.int x]) h = ((x = 0 ∨ x = 1) ∧ Q (some (.int x)) h) := (lw_at mj_406_640 rfl).trans (z_zret)
theorem mj_406_641 : mc_P ml_y 641 = some (.aload_n 1, 1, 0, 0, 0) := by decide +kernel
theorem s_406_641 {x0 x2 x3 : Option Value} {w : Value} : lw L xs d Q 641 [x0, some w, x2, x3] (st) h = mv_a w (lw L xs d Q 642 [x0, some w, x2, x3] (w :: st) h) := (lw_at mj_406_641 rfl).trans (z_aload_n rfl)
theorem mj_406_642 : mc_P ml_y 642 = some (.aload_n 0, 1, 0, 0, 0) := by decide +kernel
theorem s_406_642 {x1 x2 x3 : Option Value} {w : Value} : lw L xs d Q 642 [some w, x1, x2, x3] (st) h = mv_a w (lw L xs d Q 643 [some w, x1, x2, x3] (w :: st) h) := (lw_at mj_406_642 rfl).trans (z_aload_n rfl)
theorem mj_406_643 : mc_P ml_y 643 = some (.iload_n 3, 1, 0, 0, 0) := by decide +kernel
theorem s_406_643 {x0 x1 x2 : Option Value} {w : Value} : lw L xs d Q 643 [x0, x1, x2, some w] (st) h = mv_i w (lw L xs d Q 644 [x0, x1, x2, some w] (w :: st) h) := (lw_at mj_406_643 rfl).trans (z_iload_n rfl)
theorem mj_406_644 : mc_P ml_y 644 = some (.iconst 1, 1, 0, 0, 0) := by decide +kernel
theorem s_406_644 {x0 x1 x2 x3 : Option Value} : lw L xs d Q 644 [x0, x1, x2, x3] (st) h = lw L xs d Q 645 [x0, x1, x2, x3] (.int 1 :: st) h := (lw_at mj_406_644 rfl).trans (z_iconst (by decide))
theorem mj_406_645 : mc_P ml_y 645 = some (.iadd, 1, 0, 0, 0) := by decide +kernel
theorem s_406_645 {x0 x1 x2 x3 : Option Value} {x w : Int32} : lw L xs d Q 645 [x0, x1, x2, x3] (.int w :: .int x :: st) h = lw L xs d Q 646 [x0, x1, x2, x3] (.int (x + w) :: st) h := (lw_at mj_406_645 rfl).trans (z_iadd)
theorem mj_406_646 : mc_P ml_y 646 = some (.iaload, 1, 0, 0, 0) := by decide +kernel
theorem s_406_646 {x0 x1 x2 x3 : Option Value} {i : Int32} : lw L xs d Q 646 [x0, x1, x2, x3] (.int i :: .retAddr 8 :: st) h = (mx i L ∧ lw L xs d Q 647 [x0, x1, x2, x3] (.int (xs i.toNatClampNeg) :: st) h) := lw_scr mj_406_646
theorem mj_406_647 : mc_P ml_y 647 = some (.invokevirtual 59, 3, 201, 11, 2) := by decide +kernel
theorem s_406_647 {x0 x1 x2 x3 : Option Value} {o : Nat} {a1 : Value} : lw L xs (d + 1) Q 647 [x0, x1, x2, x3] (a1 :: .ref o :: st) h = (mg h o 11 ∧ mca st 8 ∧ mca [.ref o, a1] 2 ∧ mcall d 201 [.ref o, a1] h (lK L xs (d + 1) Q 650 [x0, x1, x2, x3] st)) := (lw_at mj_406_647 rfl).trans ((z_invv (As := [a1]) (by decide) rfl rfl).trans (congrArg (And _) (congrArg (And _) (lC_nl nl_201))))
theorem mj_406_650 : mc_P ml_y 650 = some (.aload_n 2, 1, 0, 0, 0) := by decide +kernel
theorem s_406_650 {x0 x1 x3 : Option Value} {w : Value} : lw L xs d Q 650 [x0, x1, some w, x3] (st) h = mv_a w (lw L xs d Q 651 [x0, x1, some w, x3] (w :: st) h) := (lw_at mj_406_650 rfl).trans (z_aload_n rfl)
theorem mj_406_651 : mc_P ml_y 651 = some (.aload_n 0, 1, 0, 0, 0) := by decide +kernel
theorem s_406_651 {x1 x2 x3 : Option Value} {w : Value} : lw L xs d Q 651 [some w, x1, x2, x3] (st) h = mv_a w (lw L xs d Q 652 [some w, x1, x2, x3] (w :: st) h) := (lw_at mj_406_651 rfl).trans (z_aload_n rfl)
theorem mj_406_652 : mc_P ml_y 652 = some (.iload_n 3, 1, 0, 0, 0) := by decide +kernel
theorem s_406_652 {x0 x1 x2 : Option Value} {w : Value} : lw L xs d Q 652 [x0, x1, x2, some w] (st) h = mv_i w (lw L xs d Q 653 [x0, x1, x2, some w] (w :: st) h) := (lw_at mj_406_652 rfl).trans (z_iload_n rfl)
theorem mj_406_653 : mc_P ml_y 653 = some (.iconst 1, 1, 0, 0, 0) := by decide +kernel
theorem s_406_653 {x0 x1 x2 x3 : Option Value} : lw L xs d Q 653 [x0, x1, x2, x3] (st) h = lw L xs d Q 654 [x0, x1, x2, x3] (.int 1 :: st) h := (lw_at mj_406_653 rfl).trans (z_iconst (by decide))
theorem mj_406_654 : mc_P ml_y 654 = some (.iadd, 1, 0, 0, 0) := by decide +kernel
theorem s_406_654 {x0 x1 x2 x3 : Option Value} {x w : Int32} : lw L xs d Q 654 [x0, x1, x2, x3] (.int w :: .int x :: st) h = lw L xs d Q 655 [x0, x1, x2, x3] (.int (x + w) :: st) h := (lw_at mj_406_654 rfl).trans (z_iadd)
theorem mj_406_655 : mc_P ml_y 655 = some (.iaload, 1, 0, 0, 0) := by decide +kernel
theorem s_406_655 {x0 x1 x2 x3 : Option Value} {i : Int32} : lw L xs d Q 655 [x0, x1, x2, x3] (.int i :: .retAddr 8 :: st) h = (mx i L ∧ lw L xs d Q 656 [x0, x1, x2, x3] (.int (xs i.toNatClampNeg) :: st) h) := lw_scr mj_406_655
theorem mj_406_656 : mc_P ml_y 656 = some (.invokevirtual 62, 3, 381, 14, 2) := by decide +kernel
theorem s_406_656 {x0 x1 x2 x3 : Option Value} {o : Nat} {a1 : Value} : lw L xs (d + 1) Q 656 [x0, x1, x2, x3] (a1 :: .ref o :: st) h = (mg h o 14 ∧ mca st 8 ∧ mca [.ref o, a1] 3 ∧ mcall d 381 [.ref o, a1] h (lK L xs (d + 1) Q 659 [x0, x1, x2, x3] st)) := (lw_at mj_406_656 rfl).trans ((z_invv (As := [a1]) (by decide) rfl rfl).trans (congrArg (And _) (congrArg (And _) (lC_nl nl_381))))
theorem mj_406_659 : mc_P ml_y 659 = some (.if_icmp .eq 254, 3, 0, 0, 0) := by decide +kernel
theorem s_406_659 {x0 x1 x2 x3 : Option Value} {x w : Int32} : lw L xs d Q 659 [x0, x1, x2, x3] (.int w :: .int x :: st) h = mB (x = w) (lw L xs d Q) 913 662 [x0, x1, x2, x3] st h := (lw_at mj_406_659 rfl).trans (z_icmp_eq (by decide) rfl)
theorem mj_406_662 : mc_P ml_y 662 = some (.iconst 0, 1, 0, 0, 0) := by decide +kernel
theorem s_406_662 {x0 x1 x2 x3 : Option Value} : lw L xs d Q 662 [x0, x1, x2, x3] (st) h = lw L xs d Q 663 [x0, x1, x2, x3] (.int 0 :: st) h := (lw_at mj_406_662 rfl).trans (z_iconst (by decide))
theorem mj_406_663 : mc_P ml_y 663 = some (.ireturn, 1, 0, 3, 0) := by decide +kernel
theorem s_406_663 {x0 x1 x2 x3 : Option Value} {x : Int32} : lw L xs d Q 663 [x0, x1, x2, x3] ([.int x]) h = ((x = 0 ∨ x = 1) ∧ Q (some (.int x)) h) := (lw_at mj_406_663 rfl).trans (z_zret)
theorem mj_406_664 : mc_P ml_y 664 = some (.aload_n 1, 1, 0, 0, 0) := by decide +kernel
theorem s_406_664 {x0 x2 x3 : Option Value} {w : Value} : lw L xs d Q 664 [x0, some w, x2, x3] (st) h = mv_a w (lw L xs d Q 665 [x0, some w, x2, x3] (w :: st) h) := (lw_at mj_406_664 rfl).trans (z_aload_n rfl)
theorem mj_406_665 : mc_P ml_y 665 = some (.invokevirtual 63, 3, 202, 11, 1) := by decide +kernel
theorem s_406_665 {x0 x1 x2 x3 : Option Value} {o : Nat} : lw L xs (d + 1) Q 665 [x0, x1, x2, x3] (.ref o :: st) h = (mg h o 11 ∧ mca st 8 ∧ mca [.ref o] 3 ∧ mcall d 202 [.ref o] h (lK L xs (d + 1) Q 668 [x0, x1, x2, x3] st)) := (lw_at mj_406_665 rfl).trans ((z_invv (As := []) (by decide) rfl rfl).trans (congrArg (And _) (congrArg (And _) (lC_nl nl_202))))
theorem mj_406_668 : mc_P ml_y 668 = some (.aload_n 2, 1, 0, 0, 0) := by decide +kernel
theorem s_406_668 {x0 x1 x3 : Option Value} {w : Value} : lw L xs d Q 668 [x0, x1, some w, x3] (st) h = mv_a w (lw L xs d Q 669 [x0, x1, some w, x3] (w :: st) h) := (lw_at mj_406_668 rfl).trans (z_aload_n rfl)
theorem mj_406_669 : mc_P ml_y 669 = some (.invokevirtual 66, 3, 382, 14, 1) := by decide +kernel
theorem s_406_669 {x0 x1 x2 x3 : Option Value} {o : Nat} : lw L xs (d + 1) Q 669 [x0, x1, x2, x3] (.ref o :: st) h = (mg h o 14 ∧ mca st 8 ∧ mca [.ref o] 1 ∧ mcall d 382 [.ref o] h (lK L xs (d + 1) Q 672 [x0, x1, x2, x3] st)) := (lw_at mj_406_669 rfl).trans ((z_invv (As := []) (by decide) rfl rfl).trans (congrArg (And _) (congrArg (And _) (lC_nl nl_382))))
theorem mj_406_672 : mc_P ml_y 672 = some (.if_icmp .eq 241, 3, 0, 0, 0) := by decide +kernel
theorem s_406_672 {x0 x1 x2 x3 : Option Value} {x w : Int32} : lw L xs d Q 672 [x0, x1, x2, x3] (.int w :: .int x :: st) h = mB (x = w) (lw L xs d Q) 913 675 [x0, x1, x2, x3] st h := (lw_at mj_406_672 rfl).trans (z_icmp_eq (by decide) rfl)
theorem mj_406_675 : mc_P ml_y 675 = some (.iconst 0, 1, 0, 0, 0) := by decide +kernel
theorem s_406_675 {x0 x1 x2 x3 : Option Value} : lw L xs d Q 675 [x0, x1, x2, x3] (st) h = lw L xs d Q 676 [x0, x1, x2, x3] (.int 0 :: st) h := (lw_at mj_406_675 rfl).trans (z_iconst (by decide))
theorem mj_406_676 : mc_P ml_y 676 = some (.ireturn, 1, 0, 3, 0) := by decide +kernel
theorem s_406_676 {x0 x1 x2 x3 : Option Value} {x : Int32} : lw L xs d Q 676 [x0, x1, x2, x3] ([.int x]) h = ((x = 0 ∨ x = 1) ∧ Q (some (.int x)) h) := (lw_at mj_406_676 rfl).trans (z_zret)
theorem mj_406_677 : mc_P ml_y 677 = some (.aload_n 1, 1, 0, 0, 0) := by decide +kernel
theorem s_406_677 {x0 x2 x3 : Option Value} {w : Value} : lw L xs d Q 677 [x0, some w, x2, x3] (st) h = mv_a w (lw L xs d Q 678 [x0, some w, x2, x3] (w :: st) h) := (lw_at mj_406_677 rfl).trans (z_aload_n rfl)
theorem mj_406_678 : mc_P ml_y 678 = some (.invokevirtual 67, 3, 203, 11, 1) := by decide +kernel
theorem s_406_678 {x0 x1 x2 x3 : Option Value} {o : Nat} : lw L xs (d + 1) Q 678 [x0, x1, x2, x3] (.ref o :: st) h = (mg h o 11 ∧ mca st 8 ∧ mca [.ref o] 1 ∧ mcall d 203 [.ref o] h (lK L xs (d + 1) Q 681 [x0, x1, x2, x3] st)) := (lw_at mj_406_678 rfl).trans ((z_invv (As := []) (by decide) rfl rfl).trans (congrArg (And _) (congrArg (And _) (lC_nl nl_203))))
theorem mj_406_681 : mc_P ml_y 681 = some (.aload_n 2, 1, 0, 0, 0) := by decide +kernel
theorem s_406_681 {x0 x1 x3 : Option Value} {w : Value} : lw L xs d Q 681 [x0, x1, some w, x3] (st) h = mv_a w (lw L xs d Q 682 [x0, x1, some w, x3] (w :: st) h) := (lw_at mj_406_681 rfl).trans (z_aload_n rfl)
theorem mj_406_682 : mc_P ml_y 682 = some (.invokevirtual 70, 3, 383, 14, 1) := by decide +kernel
theorem s_406_682 {x0 x1 x2 x3 : Option Value} {o : Nat} : lw L xs (d + 1) Q 682 [x0, x1, x2, x3] (.ref o :: st) h = (mg h o 14 ∧ mca st 8 ∧ mca [.ref o] 1 ∧ mcall d 383 [.ref o] h (lK L xs (d + 1) Q 685 [x0, x1, x2, x3] st)) := (lw_at mj_406_682 rfl).trans ((z_invv (As := []) (by decide) rfl rfl).trans (congrArg (And _) (congrArg (And _) (lC_nl nl_383))))
theorem mj_406_685 : mc_P ml_y 685 = some (.if_icmp .eq 228, 3, 0, 0, 0) := by decide +kernel
theorem s_406_685 {x0 x1 x2 x3 : Option Value} {x w : Int32} : lw L xs d Q 685 [x0, x1, x2, x3] (.int w :: .int x :: st) h = mB (x = w) (lw L xs d Q) 913 688 [x0, x1, x2, x3] st h := (lw_at mj_406_685 rfl).trans (z_icmp_eq (by decide) rfl)
theorem mj_406_688 : mc_P ml_y 688 = some (.iconst 0, 1, 0, 0, 0) := by decide +kernel
theorem s_406_688 {x0 x1 x2 x3 : Option Value} : lw L xs d Q 688 [x0, x1, x2, x3] (st) h = lw L xs d Q 689 [x0, x1, x2, x3] (.int 0 :: st) h := (lw_at mj_406_688 rfl).trans (z_iconst (by decide))
theorem mj_406_689 : mc_P ml_y 689 = some (.ireturn, 1, 0, 3, 0) := by decide +kernel
theorem s_406_689 {x0 x1 x2 x3 : Option Value} {x : Int32} : lw L xs d Q 689 [x0, x1, x2, x3] ([.int x]) h = ((x = 0 ∨ x = 1) ∧ Q (some (.int x)) h) := (lw_at mj_406_689 rfl).trans (z_zret)
theorem mj_406_690 : mc_P ml_y 690 = some (.aload_n 1, 1, 0, 0, 0) := by decide +kernel
theorem s_406_690 {x0 x2 x3 : Option Value} {w : Value} : lw L xs d Q 690 [x0, some w, x2, x3] (st) h = mv_a w (lw L xs d Q 691 [x0, some w, x2, x3] (w :: st) h) := (lw_at mj_406_690 rfl).trans (z_aload_n rfl)
theorem mj_406_691 : mc_P ml_y 691 = some (.aload_n 0, 1, 0, 0, 0) := by decide +kernel
theorem s_406_691 {x1 x2 x3 : Option Value} {w : Value} : lw L xs d Q 691 [some w, x1, x2, x3] (st) h = mv_a w (lw L xs d Q 692 [some w, x1, x2, x3] (w :: st) h) := (lw_at mj_406_691 rfl).trans (z_aload_n rfl)
theorem mj_406_692 : mc_P ml_y 692 = some (.iload_n 3, 1, 0, 0, 0) := by decide +kernel
theorem s_406_692 {x0 x1 x2 : Option Value} {w : Value} : lw L xs d Q 692 [x0, x1, x2, some w] (st) h = mv_i w (lw L xs d Q 693 [x0, x1, x2, some w] (w :: st) h) := (lw_at mj_406_692 rfl).trans (z_iload_n rfl)
theorem mj_406_693 : mc_P ml_y 693 = some (.iconst 1, 1, 0, 0, 0) := by decide +kernel
theorem s_406_693 {x0 x1 x2 x3 : Option Value} : lw L xs d Q 693 [x0, x1, x2, x3] (st) h = lw L xs d Q 694 [x0, x1, x2, x3] (.int 1 :: st) h := (lw_at mj_406_693 rfl).trans (z_iconst (by decide))
theorem mj_406_694 : mc_P ml_y 694 = some (.iadd, 1, 0, 0, 0) := by decide +kernel
theorem s_406_694 {x0 x1 x2 x3 : Option Value} {x w : Int32} : lw L xs d Q 694 [x0, x1, x2, x3] (.int w :: .int x :: st) h = lw L xs d Q 695 [x0, x1, x2, x3] (.int (x + w) :: st) h := (lw_at mj_406_694 rfl).trans (z_iadd)
theorem mj_406_695 : mc_P ml_y 695 = some (.iaload, 1, 0, 0, 0) := by decide +kernel
theorem s_406_695 {x0 x1 x2 x3 : Option Value} {i : Int32} : lw L xs d Q 695 [x0, x1, x2, x3] (.int i :: .retAddr 8 :: st) h = (mx i L ∧ lw L xs d Q 696 [x0, x1, x2, x3] (.int (xs i.toNatClampNeg) :: st) h) := lw_scr mj_406_695
theorem mj_406_696 : mc_P ml_y 696 = some (.invokevirtual 71, 3, 206, 11, 2) := by decide +kernel
theorem s_406_696 {x0 x1 x2 x3 : Option Value} {o : Nat} {a1 : Value} : lw L xs (d + 1) Q 696 [x0, x1, x2, x3] (a1 :: .ref o :: st) h = (mg h o 11 ∧ mca st 8 ∧ mca [.ref o, a1] 2 ∧ mcall d 206 [.ref o, a1] h (lK L xs (d + 1) Q 699 [x0, x1, x2, x3] st)) := (lw_at mj_406_696 rfl).trans ((z_invv (As := [a1]) (by decide) rfl rfl).trans (congrArg (And _) (congrArg (And _) (lC_nl nl_206))))
theorem mj_406_699 : mc_P ml_y 699 = some (.aload_n 2, 1, 0, 0, 0) := by decide +kernel
theorem s_406_699 {x0 x1 x3 : Option Value} {w : Value} : lw L xs d Q 699 [x0, x1, some w, x3] (st) h = mv_a w (lw L xs d Q 700 [x0, x1, some w, x3] (w :: st) h) := (lw_at mj_406_699 rfl).trans (z_aload_n rfl)
theorem mj_406_700 : mc_P ml_y 700 = some (.aload_n 0, 1, 0, 0, 0) := by decide +kernel
theorem s_406_700 {x1 x2 x3 : Option Value} {w : Value} : lw L xs d Q 700 [some w, x1, x2, x3] (st) h = mv_a w (lw L xs d Q 701 [some w, x1, x2, x3] (w :: st) h) := (lw_at mj_406_700 rfl).trans (z_aload_n rfl)
theorem mj_406_701 : mc_P ml_y 701 = some (.iload_n 3, 1, 0, 0, 0) := by decide +kernel
theorem s_406_701 {x0 x1 x2 : Option Value} {w : Value} : lw L xs d Q 701 [x0, x1, x2, some w] (st) h = mv_i w (lw L xs d Q 702 [x0, x1, x2, some w] (w :: st) h) := (lw_at mj_406_701 rfl).trans (z_iload_n rfl)
theorem mj_406_702 : mc_P ml_y 702 = some (.iconst 1, 1, 0, 0, 0) := by decide +kernel
theorem s_406_702 {x0 x1 x2 x3 : Option Value} : lw L xs d Q 702 [x0, x1, x2, x3] (st) h = lw L xs d Q 703 [x0, x1, x2, x3] (.int 1 :: st) h := (lw_at mj_406_702 rfl).trans (z_iconst (by decide))
theorem mj_406_703 : mc_P ml_y 703 = some (.iadd, 1, 0, 0, 0) := by decide +kernel
theorem s_406_703 {x0 x1 x2 x3 : Option Value} {x w : Int32} : lw L xs d Q 703 [x0, x1, x2, x3] (.int w :: .int x :: st) h = lw L xs d Q 704 [x0, x1, x2, x3] (.int (x + w) :: st) h := (lw_at mj_406_703 rfl).trans (z_iadd)
theorem mj_406_704 : mc_P ml_y 704 = some (.iaload, 1, 0, 0, 0) := by decide +kernel
theorem s_406_704 {x0 x1 x2 x3 : Option Value} {i : Int32} : lw L xs d Q 704 [x0, x1, x2, x3] (.int i :: .retAddr 8 :: st) h = (mx i L ∧ lw L xs d Q 705 [x0, x1, x2, x3] (.int (xs i.toNatClampNeg) :: st) h) := lw_scr mj_406_704
theorem mj_406_705 : mc_P ml_y 705 = some (.invokevirtual 74, 3, 353, 14, 2) := by decide +kernel
theorem s_406_705 {x0 x1 x2 x3 : Option Value} {o : Nat} {a1 : Value} : lw L xs (d + 1) Q 705 [x0, x1, x2, x3] (a1 :: .ref o :: st) h = (mg h o 14 ∧ mca st 8 ∧ mca [.ref o, a1] 2 ∧ mcall d 353 [.ref o, a1] h (lK L xs (d + 1) Q 708 [x0, x1, x2, x3] st)) := (lw_at mj_406_705 rfl).trans ((z_invv (As := [a1]) (by decide) rfl rfl).trans (congrArg (And _) (congrArg (And _) (lC_nl nl_353))))
theorem mj_406_708 : mc_P ml_y 708 = some (.if_icmp .eq 205, 3, 0, 0, 0) := by decide +kernel
theorem s_406_708 {x0 x1 x2 x3 : Option Value} {x w : Int32} : lw L xs d Q 708 [x0, x1, x2, x3] (.int w :: .int x :: st) h = mB (x = w) (lw L xs d Q) 913 711 [x0, x1, x2, x3] st h := (lw_at mj_406_708 rfl).trans (z_icmp_eq (by decide) rfl)
theorem mj_406_711 : mc_P ml_y 711 = some (.iconst 0, 1, 0, 0, 0) := by decide +kernel
theorem s_406_711 {x0 x1 x2 x3 : Option Value} : lw L xs d Q 711 [x0, x1, x2, x3] (st) h = lw L xs d Q 712 [x0, x1, x2, x3] (.int 0 :: st) h := (lw_at mj_406_711 rfl).trans (z_iconst (by decide))
theorem mj_406_712 : mc_P ml_y 712 = some (.ireturn, 1, 0, 3, 0) := by decide +kernel
theorem s_406_712 {x0 x1 x2 x3 : Option Value} {x : Int32} : lw L xs d Q 712 [x0, x1, x2, x3] ([.int x]) h = ((x = 0 ∨ x = 1) ∧ Q (some (.int x)) h) := (lw_at mj_406_712 rfl).trans (z_zret)
theorem mj_406_713 : mc_P ml_y 713 = some (.aload_n 1, 1, 0, 0, 0) := by decide +kernel
theorem s_406_713 {x0 x2 x3 : Option Value} {w : Value} : lw L xs d Q 713 [x0, some w, x2, x3] (st) h = mv_a w (lw L xs d Q 714 [x0, some w, x2, x3] (w :: st) h) := (lw_at mj_406_713 rfl).trans (z_aload_n rfl)
theorem mj_406_714 : mc_P ml_y 714 = some (.invokevirtual 75, 3, 207, 11, 1) := by decide +kernel
theorem s_406_714 {x0 x1 x2 x3 : Option Value} {o : Nat} : lw L xs (d + 1) Q 714 [x0, x1, x2, x3] (.ref o :: st) h = (mg h o 11 ∧ mca st 8 ∧ mca [.ref o] 2 ∧ mcall d 207 [.ref o] h (lK L xs (d + 1) Q 717 [x0, x1, x2, x3] st)) := (lw_at mj_406_714 rfl).trans ((z_invv (As := []) (by decide) rfl rfl).trans (congrArg (And _) (congrArg (And _) (lC_nl nl_207))))
theorem mj_406_717 : mc_P ml_y 717 = some (.aload_n 2, 1, 0, 0, 0) := by decide +kernel
theorem s_406_717 {x0 x1 x3 : Option Value} {w : Value} : lw L xs d Q 717 [x0, x1, some w, x3] (st) h = mv_a w (lw L xs d Q 718 [x0, x1, some w, x3] (w :: st) h) := (lw_at mj_406_717 rfl).trans (z_aload_n rfl)
theorem mj_406_718 : mc_P ml_y 718 = some (.invokevirtual 78, 3, 354, 14, 1) := by decide +kernel
theorem s_406_718 {x0 x1 x2 x3 : Option Value} {o : Nat} : lw L xs (d + 1) Q 718 [x0, x1, x2, x3] (.ref o :: st) h = (mg h o 14 ∧ mca st 8 ∧ mca [.ref o] 2 ∧ mcall d 354 [.ref o] h (lK L xs (d + 1) Q 721 [x0, x1, x2, x3] st)) := (lw_at mj_406_718 rfl).trans ((z_invv (As := []) (by decide) rfl rfl).trans (congrArg (And _) (congrArg (And _) (lC_nl nl_354))))
theorem mj_406_721 : mc_P ml_y 721 = some (.if_icmp .eq 192, 3, 0, 0, 0) := by decide +kernel
theorem s_406_721 {x0 x1 x2 x3 : Option Value} {x w : Int32} : lw L xs d Q 721 [x0, x1, x2, x3] (.int w :: .int x :: st) h = mB (x = w) (lw L xs d Q) 913 724 [x0, x1, x2, x3] st h := (lw_at mj_406_721 rfl).trans (z_icmp_eq (by decide) rfl)
theorem mj_406_724 : mc_P ml_y 724 = some (.iconst 0, 1, 0, 0, 0) := by decide +kernel
theorem s_406_724 {x0 x1 x2 x3 : Option Value} : lw L xs d Q 724 [x0, x1, x2, x3] (st) h = lw L xs d Q 725 [x0, x1, x2, x3] (.int 0 :: st) h := (lw_at mj_406_724 rfl).trans (z_iconst (by decide))
theorem mj_406_725 : mc_P ml_y 725 = some (.ireturn, 1, 0, 3, 0) := by decide +kernel
theorem s_406_725 {x0 x1 x2 x3 : Option Value} {x : Int32} : lw L xs d Q 725 [x0, x1, x2, x3] ([.int x]) h = ((x = 0 ∨ x = 1) ∧ Q (some (.int x)) h) := (lw_at mj_406_725 rfl).trans (z_zret)
theorem mj_406_726 : mc_P ml_y 726 = some (.aload_n 1, 1, 0, 0, 0) := by decide +kernel
theorem s_406_726 {x0 x2 x3 : Option Value} {w : Value} : lw L xs d Q 726 [x0, some w, x2, x3] (st) h = mv_a w (lw L xs d Q 727 [x0, some w, x2, x3] (w :: st) h) := (lw_at mj_406_726 rfl).trans (z_aload_n rfl)
theorem mj_406_727 : mc_P ml_y 727 = some (.aload_n 0, 1, 0, 0, 0) := by decide +kernel
theorem s_406_727 {x1 x2 x3 : Option Value} {w : Value} : lw L xs d Q 727 [some w, x1, x2, x3] (st) h = mv_a w (lw L xs d Q 728 [some w, x1, x2, x3] (w :: st) h) := (lw_at mj_406_727 rfl).trans (z_aload_n rfl)
theorem mj_406_728 : mc_P ml_y 728 = some (.iload_n 3, 1, 0, 0, 0) := by decide +kernel
theorem s_406_728 {x0 x1 x2 : Option Value} {w : Value} : lw L xs d Q 728 [x0, x1, x2, some w] (st) h = mv_i w (lw L xs d Q 729 [x0, x1, x2, some w] (w :: st) h) := (lw_at mj_406_728 rfl).trans (z_iload_n rfl)
theorem mj_406_729 : mc_P ml_y 729 = some (.iconst 1, 1, 0, 0, 0) := by decide +kernel
theorem s_406_729 {x0 x1 x2 x3 : Option Value} : lw L xs d Q 729 [x0, x1, x2, x3] (st) h = lw L xs d Q 730 [x0, x1, x2, x3] (.int 1 :: st) h := (lw_at mj_406_729 rfl).trans (z_iconst (by decide))
theorem mj_406_730 : mc_P ml_y 730 = some (.iadd, 1, 0, 0, 0) := by decide +kernel
theorem s_406_730 {x0 x1 x2 x3 : Option Value} {x w : Int32} : lw L xs d Q 730 [x0, x1, x2, x3] (.int w :: .int x :: st) h = lw L xs d Q 731 [x0, x1, x2, x3] (.int (x + w) :: st) h := (lw_at mj_406_730 rfl).trans (z_iadd)
theorem mj_406_731 : mc_P ml_y 731 = some (.iaload, 1, 0, 0, 0) := by decide +kernel
theorem s_406_731 {x0 x1 x2 x3 : Option Value} {i : Int32} : lw L xs d Q 731 [x0, x1, x2, x3] (.int i :: .retAddr 8 :: st) h = (mx i L ∧ lw L xs d Q 732 [x0, x1, x2, x3] (.int (xs i.toNatClampNeg) :: st) h) := lw_scr mj_406_731
theorem mj_406_732 : mc_P ml_y 732 = some (.invokevirtual 79, 3, 208, 11, 2) := by decide +kernel
theorem s_406_732 {x0 x1 x2 x3 : Option Value} {o : Nat} {a1 : Value} : lw L xs (d + 1) Q 732 [x0, x1, x2, x3] (a1 :: .ref o :: st) h = (mg h o 11 ∧ mca st 8 ∧ mca [.ref o, a1] 3 ∧ mcall d 208 [.ref o, a1] h (lK L xs (d + 1) Q 735 [x0, x1, x2, x3] st)) := (lw_at mj_406_732 rfl).trans ((z_invv (As := [a1]) (by decide) rfl rfl).trans (congrArg (And _) (congrArg (And _) (lC_nl nl_208))))
theorem mj_406_735 : mc_P ml_y 735 = some (.aload_n 2, 1, 0, 0, 0) := by decide +kernel
theorem s_406_735 {x0 x1 x3 : Option Value} {w : Value} : lw L xs d Q 735 [x0, x1, some w, x3] (st) h = mv_a w (lw L xs d Q 736 [x0, x1, some w, x3] (w :: st) h) := (lw_at mj_406_735 rfl).trans (z_aload_n rfl)
theorem mj_406_736 : mc_P ml_y 736 = some (.aload_n 0, 1, 0, 0, 0) := by decide +kernel
theorem s_406_736 {x1 x2 x3 : Option Value} {w : Value} : lw L xs d Q 736 [some w, x1, x2, x3] (st) h = mv_a w (lw L xs d Q 737 [some w, x1, x2, x3] (w :: st) h) := (lw_at mj_406_736 rfl).trans (z_aload_n rfl)
theorem mj_406_737 : mc_P ml_y 737 = some (.iload_n 3, 1, 0, 0, 0) := by decide +kernel
theorem s_406_737 {x0 x1 x2 : Option Value} {w : Value} : lw L xs d Q 737 [x0, x1, x2, some w] (st) h = mv_i w (lw L xs d Q 738 [x0, x1, x2, some w] (w :: st) h) := (lw_at mj_406_737 rfl).trans (z_iload_n rfl)
theorem mj_406_738 : mc_P ml_y 738 = some (.iconst 1, 1, 0, 0, 0) := by decide +kernel
theorem s_406_738 {x0 x1 x2 x3 : Option Value} : lw L xs d Q 738 [x0, x1, x2, x3] (st) h = lw L xs d Q 739 [x0, x1, x2, x3] (.int 1 :: st) h := (lw_at mj_406_738 rfl).trans (z_iconst (by decide))
theorem mj_406_739 : mc_P ml_y 739 = some (.iadd, 1, 0, 0, 0) := by decide +kernel
theorem s_406_739 {x0 x1 x2 x3 : Option Value} {x w : Int32} : lw L xs d Q 739 [x0, x1, x2, x3] (.int w :: .int x :: st) h = lw L xs d Q 740 [x0, x1, x2, x3] (.int (x + w) :: st) h := (lw_at mj_406_739 rfl).trans (z_iadd)
theorem mj_406_740 : mc_P ml_y 740 = some (.iaload, 1, 0, 0, 0) := by decide +kernel
theorem s_406_740 {x0 x1 x2 x3 : Option Value} {i : Int32} : lw L xs d Q 740 [x0, x1, x2, x3] (.int i :: .retAddr 8 :: st) h = (mx i L ∧ lw L xs d Q 741 [x0, x1, x2, x3] (.int (xs i.toNatClampNeg) :: st) h) := lw_scr mj_406_740
theorem mj_406_741 : mc_P ml_y 741 = some (.invokevirtual 82, 3, 366, 14, 2) := by decide +kernel
theorem s_406_741 {x0 x1 x2 x3 : Option Value} {o : Nat} {a1 : Value} : lw L xs (d + 1) Q 741 [x0, x1, x2, x3] (a1 :: .ref o :: st) h = (mg h o 14 ∧ mca st 8 ∧ mca [.ref o, a1] 4 ∧ mcall d 366 [.ref o, a1] h (lK L xs (d + 1) Q 744 [x0, x1, x2, x3] st)) := (lw_at mj_406_741 rfl).trans ((z_invv (As := [a1]) (by decide) rfl rfl).trans (congrArg (And _) (congrArg (And _) (lC_nl nl_366))))
theorem mj_406_744 : mc_P ml_y 744 = some (.if_icmp .eq 169, 3, 0, 0, 0) := by decide +kernel
theorem s_406_744 {x0 x1 x2 x3 : Option Value} {x w : Int32} : lw L xs d Q 744 [x0, x1, x2, x3] (.int w :: .int x :: st) h = mB (x = w) (lw L xs d Q) 913 747 [x0, x1, x2, x3] st h := (lw_at mj_406_744 rfl).trans (z_icmp_eq (by decide) rfl)
theorem mj_406_747 : mc_P ml_y 747 = some (.iconst 0, 1, 0, 0, 0) := by decide +kernel
theorem s_406_747 {x0 x1 x2 x3 : Option Value} : lw L xs d Q 747 [x0, x1, x2, x3] (st) h = lw L xs d Q 748 [x0, x1, x2, x3] (.int 0 :: st) h := (lw_at mj_406_747 rfl).trans (z_iconst (by decide))
theorem mj_406_748 : mc_P ml_y 748 = some (.ireturn, 1, 0, 3, 0) := by decide +kernel
theorem s_406_748 {x0 x1 x2 x3 : Option Value} {x : Int32} : lw L xs d Q 748 [x0, x1, x2, x3] ([.int x]) h = ((x = 0 ∨ x = 1) ∧ Q (some (.int x)) h) := (lw_at mj_406_748 rfl).trans (z_zret)
theorem mj_406_749 : mc_P ml_y 749 = some (.aload_n 1, 1, 0, 0, 0) := by decide +kernel
theorem s_406_749 {x0 x2 x3 : Option Value} {w : Value} : lw L xs d Q 749 [x0, some w, x2, x3] (st) h = mv_a w (lw L xs d Q 750 [x0, some w, x2, x3] (w :: st) h) := (lw_at mj_406_749 rfl).trans (z_aload_n rfl)
theorem mj_406_750 : mc_P ml_y 750 = some (.aload_n 0, 1, 0, 0, 0) := by decide +kernel
theorem s_406_750 {x1 x2 x3 : Option Value} {w : Value} : lw L xs d Q 750 [some w, x1, x2, x3] (st) h = mv_a w (lw L xs d Q 751 [some w, x1, x2, x3] (w :: st) h) := (lw_at mj_406_750 rfl).trans (z_aload_n rfl)
theorem mj_406_751 : mc_P ml_y 751 = some (.iload_n 3, 1, 0, 0, 0) := by decide +kernel
theorem s_406_751 {x0 x1 x2 : Option Value} {w : Value} : lw L xs d Q 751 [x0, x1, x2, some w] (st) h = mv_i w (lw L xs d Q 752 [x0, x1, x2, some w] (w :: st) h) := (lw_at mj_406_751 rfl).trans (z_iload_n rfl)
theorem mj_406_752 : mc_P ml_y 752 = some (.iconst 1, 1, 0, 0, 0) := by decide +kernel
theorem s_406_752 {x0 x1 x2 x3 : Option Value} : lw L xs d Q 752 [x0, x1, x2, x3] (st) h = lw L xs d Q 753 [x0, x1, x2, x3] (.int 1 :: st) h := (lw_at mj_406_752 rfl).trans (z_iconst (by decide))
theorem mj_406_753 : mc_P ml_y 753 = some (.iadd, 1, 0, 0, 0) := by decide +kernel
theorem s_406_753 {x0 x1 x2 x3 : Option Value} {x w : Int32} : lw L xs d Q 753 [x0, x1, x2, x3] (.int w :: .int x :: st) h = lw L xs d Q 754 [x0, x1, x2, x3] (.int (x + w) :: st) h := (lw_at mj_406_753 rfl).trans (z_iadd)
theorem mj_406_754 : mc_P ml_y 754 = some (.iaload, 1, 0, 0, 0) := by decide +kernel
theorem s_406_754 {x0 x1 x2 x3 : Option Value} {i : Int32} : lw L xs d Q 754 [x0, x1, x2, x3] (.int i :: .retAddr 8 :: st) h = (mx i L ∧ lw L xs d Q 755 [x0, x1, x2, x3] (.int (xs i.toNatClampNeg) :: st) h) := lw_scr mj_406_754
theorem mj_406_755 : mc_P ml_y 755 = some (.invokevirtual 83, 3, 209, 11, 2) := by decide +kernel
theorem s_406_755 {x0 x1 x2 x3 : Option Value} {o : Nat} {a1 : Value} : lw L xs (d + 1) Q 755 [x0, x1, x2, x3] (a1 :: .ref o :: st) h = (mg h o 11 ∧ mca st 8 ∧ mca [.ref o, a1] 2 ∧ mcall d 209 [.ref o, a1] h (lK L xs (d + 1) Q 758 [x0, x1, x2, x3] st)) := (lw_at mj_406_755 rfl).trans ((z_invv (As := [a1]) (by decide) rfl rfl).trans (congrArg (And _) (congrArg (And _) (lC_nl nl_209))))
theorem mj_406_758 : mc_P ml_y 758 = some (.aload_n 2, 1, 0, 0, 0) := by decide +kernel
theorem s_406_758 {x0 x1 x3 : Option Value} {w : Value} : lw L xs d Q 758 [x0, x1, some w, x3] (st) h = mv_a w (lw L xs d Q 759 [x0, x1, some w, x3] (w :: st) h) := (lw_at mj_406_758 rfl).trans (z_aload_n rfl)
theorem mj_406_759 : mc_P ml_y 759 = some (.aload_n 0, 1, 0, 0, 0) := by decide +kernel
theorem s_406_759 {x1 x2 x3 : Option Value} {w : Value} : lw L xs d Q 759 [some w, x1, x2, x3] (st) h = mv_a w (lw L xs d Q 760 [some w, x1, x2, x3] (w :: st) h) := (lw_at mj_406_759 rfl).trans (z_aload_n rfl)
theorem mj_406_760 : mc_P ml_y 760 = some (.iload_n 3, 1, 0, 0, 0) := by decide +kernel
theorem s_406_760 {x0 x1 x2 : Option Value} {w : Value} : lw L xs d Q 760 [x0, x1, x2, some w] (st) h = mv_i w (lw L xs d Q 761 [x0, x1, x2, some w] (w :: st) h) := (lw_at mj_406_760 rfl).trans (z_iload_n rfl)
theorem mj_406_761 : mc_P ml_y 761 = some (.iconst 1, 1, 0, 0, 0) := by decide +kernel
theorem s_406_761 {x0 x1 x2 x3 : Option Value} : lw L xs d Q 761 [x0, x1, x2, x3] (st) h = lw L xs d Q 762 [x0, x1, x2, x3] (.int 1 :: st) h := (lw_at mj_406_761 rfl).trans (z_iconst (by decide))
theorem mj_406_762 : mc_P ml_y 762 = some (.iadd, 1, 0, 0, 0) := by decide +kernel
theorem s_406_762 {x0 x1 x2 x3 : Option Value} {x w : Int32} : lw L xs d Q 762 [x0, x1, x2, x3] (.int w :: .int x :: st) h = lw L xs d Q 763 [x0, x1, x2, x3] (.int (x + w) :: st) h := (lw_at mj_406_762 rfl).trans (z_iadd)
theorem mj_406_763 : mc_P ml_y 763 = some (.iaload, 1, 0, 0, 0) := by decide +kernel
theorem s_406_763 {x0 x1 x2 x3 : Option Value} {i : Int32} : lw L xs d Q 763 [x0, x1, x2, x3] (.int i :: .retAddr 8 :: st) h = (mx i L ∧ lw L xs d Q 764 [x0, x1, x2, x3] (.int (xs i.toNatClampNeg) :: st) h) := lw_scr mj_406_763
theorem mj_406_764 : mc_P ml_y 764 = some (.invokevirtual 86, 3, 369, 14, 2) := by decide +kernel
theorem s_406_764 {x0 x1 x2 x3 : Option Value} {o : Nat} {a1 : Value} : lw L xs (d + 1) Q 764 [x0, x1, x2, x3] (a1 :: .ref o :: st) h = (mg h o 14 ∧ mca st 8 ∧ mca [.ref o, a1] 2 ∧ mcall d 369 [.ref o, a1] h (lK L xs (d + 1) Q 767 [x0, x1, x2, x3] st)) := (lw_at mj_406_764 rfl).trans ((z_invv (As := [a1]) (by decide) rfl rfl).trans (congrArg (And _) (congrArg (And _) (lC_nl nl_369))))
theorem mj_406_767 : mc_P ml_y 767 = some (.if_icmp .eq 146, 3, 0, 0, 0) := by decide +kernel
theorem s_406_767 {x0 x1 x2 x3 : Option Value} {x w : Int32} : lw L xs d Q 767 [x0, x1, x2, x3] (.int w :: .int x :: st) h = mB (x = w) (lw L xs d Q) 913 770 [x0, x1, x2, x3] st h := (lw_at mj_406_767 rfl).trans (z_icmp_eq (by decide) rfl)
theorem mj_406_770 : mc_P ml_y 770 = some (.iconst 0, 1, 0, 0, 0) := by decide +kernel
theorem s_406_770 {x0 x1 x2 x3 : Option Value} : lw L xs d Q 770 [x0, x1, x2, x3] (st) h = lw L xs d Q 771 [x0, x1, x2, x3] (.int 0 :: st) h := (lw_at mj_406_770 rfl).trans (z_iconst (by decide))
theorem mj_406_771 : mc_P ml_y 771 = some (.ireturn, 1, 0, 3, 0) := by decide +kernel
theorem s_406_771 {x0 x1 x2 x3 : Option Value} {x : Int32} : lw L xs d Q 771 [x0, x1, x2, x3] ([.int x]) h = ((x = 0 ∨ x = 1) ∧ Q (some (.int x)) h) := (lw_at mj_406_771 rfl).trans (z_zret)
theorem mj_406_772 : mc_P ml_y 772 = some (.aload_n 1, 1, 0, 0, 0) := by decide +kernel
theorem s_406_772 {x0 x2 x3 : Option Value} {w : Value} : lw L xs d Q 772 [x0, some w, x2, x3] (st) h = mv_a w (lw L xs d Q 773 [x0, some w, x2, x3] (w :: st) h) := (lw_at mj_406_772 rfl).trans (z_aload_n rfl)
theorem mj_406_773 : mc_P ml_y 773 = some (.aload_n 0, 1, 0, 0, 0) := by decide +kernel
theorem s_406_773 {x1 x2 x3 : Option Value} {w : Value} : lw L xs d Q 773 [some w, x1, x2, x3] (st) h = mv_a w (lw L xs d Q 774 [some w, x1, x2, x3] (w :: st) h) := (lw_at mj_406_773 rfl).trans (z_aload_n rfl)
theorem mj_406_774 : mc_P ml_y 774 = some (.iload_n 3, 1, 0, 0, 0) := by decide +kernel
theorem s_406_774 {x0 x1 x2 : Option Value} {w : Value} : lw L xs d Q 774 [x0, x1, x2, some w] (st) h = mv_i w (lw L xs d Q 775 [x0, x1, x2, some w] (w :: st) h) := (lw_at mj_406_774 rfl).trans (z_iload_n rfl)
theorem mj_406_775 : mc_P ml_y 775 = some (.iconst 1, 1, 0, 0, 0) := by decide +kernel
theorem s_406_775 {x0 x1 x2 x3 : Option Value} : lw L xs d Q 775 [x0, x1, x2, x3] (st) h = lw L xs d Q 776 [x0, x1, x2, x3] (.int 1 :: st) h := (lw_at mj_406_775 rfl).trans (z_iconst (by decide))
theorem mj_406_776 : mc_P ml_y 776 = some (.iadd, 1, 0, 0, 0) := by decide +kernel
theorem s_406_776 {x0 x1 x2 x3 : Option Value} {x w : Int32} : lw L xs d Q 776 [x0, x1, x2, x3] (.int w :: .int x :: st) h = lw L xs d Q 777 [x0, x1, x2, x3] (.int (x + w) :: st) h := (lw_at mj_406_776 rfl).trans (z_iadd)
theorem mj_406_777 : mc_P ml_y 777 = some (.iaload, 1, 0, 0, 0) := by decide +kernel
theorem s_406_777 {x0 x1 x2 x3 : Option Value} {i : Int32} : lw L xs d Q 777 [x0, x1, x2, x3] (.int i :: .retAddr 8 :: st) h = (mx i L ∧ lw L xs d Q 778 [x0, x1, x2, x3] (.int (xs i.toNatClampNeg) :: st) h) := lw_scr mj_406_777
theorem mj_406_778 : mc_P ml_y 778 = some (.invokevirtual 87, 3, 210, 11, 2) := by decide +kernel
theorem s_406_778 {x0 x1 x2 x3 : Option Value} {o : Nat} {a1 : Value} : lw L xs (d + 1) Q 778 [x0, x1, x2, x3] (a1 :: .ref o :: st) h = (mg h o 11 ∧ mca st 8 ∧ mca [.ref o, a1] 3 ∧ mcall d 210 [.ref o, a1] h (lK L xs (d + 1) Q 781 [x0, x1, x2, x3] st)) := (lw_at mj_406_778 rfl).trans ((z_invv (As := [a1]) (by decide) rfl rfl).trans (congrArg (And _) (congrArg (And _) (lC_nl nl_210))))
theorem mj_406_781 : mc_P ml_y 781 = some (.aload_n 2, 1, 0, 0, 0) := by decide +kernel
theorem s_406_781 {x0 x1 x3 : Option Value} {w : Value} : lw L xs d Q 781 [x0, x1, some w, x3] (st) h = mv_a w (lw L xs d Q 782 [x0, x1, some w, x3] (w :: st) h) := (lw_at mj_406_781 rfl).trans (z_aload_n rfl)
theorem mj_406_782 : mc_P ml_y 782 = some (.aload_n 0, 1, 0, 0, 0) := by decide +kernel
theorem s_406_782 {x1 x2 x3 : Option Value} {w : Value} : lw L xs d Q 782 [some w, x1, x2, x3] (st) h = mv_a w (lw L xs d Q 783 [some w, x1, x2, x3] (w :: st) h) := (lw_at mj_406_782 rfl).trans (z_aload_n rfl)
theorem mj_406_783 : mc_P ml_y 783 = some (.iload_n 3, 1, 0, 0, 0) := by decide +kernel
theorem s_406_783 {x0 x1 x2 : Option Value} {w : Value} : lw L xs d Q 783 [x0, x1, x2, some w] (st) h = mv_i w (lw L xs d Q 784 [x0, x1, x2, some w] (w :: st) h) := (lw_at mj_406_783 rfl).trans (z_iload_n rfl)
theorem mj_406_784 : mc_P ml_y 784 = some (.iconst 1, 1, 0, 0, 0) := by decide +kernel
theorem s_406_784 {x0 x1 x2 x3 : Option Value} : lw L xs d Q 784 [x0, x1, x2, x3] (st) h = lw L xs d Q 785 [x0, x1, x2, x3] (.int 1 :: st) h := (lw_at mj_406_784 rfl).trans (z_iconst (by decide))
theorem mj_406_785 : mc_P ml_y 785 = some (.iadd, 1, 0, 0, 0) := by decide +kernel
theorem s_406_785 {x0 x1 x2 x3 : Option Value} {x w : Int32} : lw L xs d Q 785 [x0, x1, x2, x3] (.int w :: .int x :: st) h = lw L xs d Q 786 [x0, x1, x2, x3] (.int (x + w) :: st) h := (lw_at mj_406_785 rfl).trans (z_iadd)
theorem mj_406_786 : mc_P ml_y 786 = some (.iaload, 1, 0, 0, 0) := by decide +kernel
theorem s_406_786 {x0 x1 x2 x3 : Option Value} {i : Int32} : lw L xs d Q 786 [x0, x1, x2, x3] (.int i :: .retAddr 8 :: st) h = (mx i L ∧ lw L xs d Q 787 [x0, x1, x2, x3] (.int (xs i.toNatClampNeg) :: st) h) := lw_scr mj_406_786
theorem mj_406_787 : mc_P ml_y 787 = some (.invokevirtual 90, 3, 370, 14, 2) := by decide +kernel
theorem s_406_787 {x0 x1 x2 x3 : Option Value} {o : Nat} {a1 : Value} : lw L xs (d + 1) Q 787 [x0, x1, x2, x3] (a1 :: .ref o :: st) h = (mg h o 14 ∧ mca st 8 ∧ mca [.ref o, a1] 2 ∧ mcall d 370 [.ref o, a1] h (lK L xs (d + 1) Q 790 [x0, x1, x2, x3] st)) := (lw_at mj_406_787 rfl).trans ((z_invv (As := [a1]) (by decide) rfl rfl).trans (congrArg (And _) (congrArg (And _) (lC_nl nl_370))))
theorem mj_406_790 : mc_P ml_y 790 = some (.if_icmp .eq 123, 3, 0, 0, 0) := by decide +kernel
theorem s_406_790 {x0 x1 x2 x3 : Option Value} {x w : Int32} : lw L xs d Q 790 [x0, x1, x2, x3] (.int w :: .int x :: st) h = mB (x = w) (lw L xs d Q) 913 793 [x0, x1, x2, x3] st h := (lw_at mj_406_790 rfl).trans (z_icmp_eq (by decide) rfl)
theorem mj_406_793 : mc_P ml_y 793 = some (.iconst 0, 1, 0, 0, 0) := by decide +kernel
theorem s_406_793 {x0 x1 x2 x3 : Option Value} : lw L xs d Q 793 [x0, x1, x2, x3] (st) h = lw L xs d Q 794 [x0, x1, x2, x3] (.int 0 :: st) h := (lw_at mj_406_793 rfl).trans (z_iconst (by decide))
theorem mj_406_794 : mc_P ml_y 794 = some (.ireturn, 1, 0, 3, 0) := by decide +kernel
theorem s_406_794 {x0 x1 x2 x3 : Option Value} {x : Int32} : lw L xs d Q 794 [x0, x1, x2, x3] ([.int x]) h = ((x = 0 ∨ x = 1) ∧ Q (some (.int x)) h) := (lw_at mj_406_794 rfl).trans (z_zret)
theorem mj_406_795 : mc_P ml_y 795 = some (.aload_n 1, 1, 0, 0, 0) := by decide +kernel
theorem s_406_795 {x0 x2 x3 : Option Value} {w : Value} : lw L xs d Q 795 [x0, some w, x2, x3] (st) h = mv_a w (lw L xs d Q 796 [x0, some w, x2, x3] (w :: st) h) := (lw_at mj_406_795 rfl).trans (z_aload_n rfl)
theorem mj_406_796 : mc_P ml_y 796 = some (.aload_n 0, 1, 0, 0, 0) := by decide +kernel
theorem s_406_796 {x1 x2 x3 : Option Value} {w : Value} : lw L xs d Q 796 [some w, x1, x2, x3] (st) h = mv_a w (lw L xs d Q 797 [some w, x1, x2, x3] (w :: st) h) := (lw_at mj_406_796 rfl).trans (z_aload_n rfl)
theorem mj_406_797 : mc_P ml_y 797 = some (.iload_n 3, 1, 0, 0, 0) := by decide +kernel
theorem s_406_797 {x0 x1 x2 : Option Value} {w : Value} : lw L xs d Q 797 [x0, x1, x2, some w] (st) h = mv_i w (lw L xs d Q 798 [x0, x1, x2, some w] (w :: st) h) := (lw_at mj_406_797 rfl).trans (z_iload_n rfl)
theorem mj_406_798 : mc_P ml_y 798 = some (.iconst 1, 1, 0, 0, 0) := by decide +kernel
theorem s_406_798 {x0 x1 x2 x3 : Option Value} : lw L xs d Q 798 [x0, x1, x2, x3] (st) h = lw L xs d Q 799 [x0, x1, x2, x3] (.int 1 :: st) h := (lw_at mj_406_798 rfl).trans (z_iconst (by decide))
theorem mj_406_799 : mc_P ml_y 799 = some (.iadd, 1, 0, 0, 0) := by decide +kernel
theorem s_406_799 {x0 x1 x2 x3 : Option Value} {x w : Int32} : lw L xs d Q 799 [x0, x1, x2, x3] (.int w :: .int x :: st) h = lw L xs d Q 800 [x0, x1, x2, x3] (.int (x + w) :: st) h := (lw_at mj_406_799 rfl).trans (z_iadd)
theorem mj_406_800 : mc_P ml_y 800 = some (.iaload, 1, 0, 0, 0) := by decide +kernel
theorem s_406_800 {x0 x1 x2 x3 : Option Value} {i : Int32} : lw L xs d Q 800 [x0, x1, x2, x3] (.int i :: .retAddr 8 :: st) h = (mx i L ∧ lw L xs d Q 801 [x0, x1, x2, x3] (.int (xs i.toNatClampNeg) :: st) h) := lw_scr mj_406_800
theorem mj_406_801 : mc_P ml_y 801 = some (.aload_n 0, 1, 0, 0, 0) := by decide +kernel
theorem s_406_801 {x1 x2 x3 : Option Value} {w : Value} : lw L xs d Q 801 [some w, x1, x2, x3] (st) h = mv_a w (lw L xs d Q 802 [some w, x1, x2, x3] (w :: st) h) := (lw_at mj_406_801 rfl).trans (z_aload_n rfl)
theorem mj_406_802 : mc_P ml_y 802 = some (.iload_n 3, 1, 0, 0, 0) := by decide +kernel
theorem s_406_802 {x0 x1 x2 : Option Value} {w : Value} : lw L xs d Q 802 [x0, x1, x2, some w] (st) h = mv_i w (lw L xs d Q 803 [x0, x1, x2, some w] (w :: st) h) := (lw_at mj_406_802 rfl).trans (z_iload_n rfl)
theorem mj_406_803 : mc_P ml_y 803 = some (.iconst 2, 1, 0, 0, 0) := by decide +kernel
theorem s_406_803 {x0 x1 x2 x3 : Option Value} : lw L xs d Q 803 [x0, x1, x2, x3] (st) h = lw L xs d Q 804 [x0, x1, x2, x3] (.int 2 :: st) h := (lw_at mj_406_803 rfl).trans (z_iconst (by decide))
theorem mj_406_804 : mc_P ml_y 804 = some (.iadd, 1, 0, 0, 0) := by decide +kernel
theorem s_406_804 {x0 x1 x2 x3 : Option Value} {x w : Int32} : lw L xs d Q 804 [x0, x1, x2, x3] (.int w :: .int x :: st) h = lw L xs d Q 805 [x0, x1, x2, x3] (.int (x + w) :: st) h := (lw_at mj_406_804 rfl).trans (z_iadd)
theorem mj_406_805 : mc_P ml_y 805 = some (.iaload, 1, 0, 0, 0) := by decide +kernel
theorem s_406_805 {x0 x1 x2 x3 : Option Value} {i : Int32} : lw L xs d Q 805 [x0, x1, x2, x3] (.int i :: .retAddr 8 :: st) h = (mx i L ∧ lw L xs d Q 806 [x0, x1, x2, x3] (.int (xs i.toNatClampNeg) :: st) h) := lw_scr mj_406_805
theorem mj_406_806 : mc_P ml_y 806 = some (.invokevirtual 91, 3, 211, 11, 3) := by decide +kernel
theorem s_406_806 {x0 x1 x2 x3 : Option Value} {o : Nat} {a1 a2 : Value} : lw L xs (d + 1) Q 806 [x0, x1, x2, x3] (a2 :: a1 :: .ref o :: st) h = (mg h o 11 ∧ mca st 8 ∧ mca [.ref o, a1, a2] 4 ∧ mcall d 211 [.ref o, a1, a2] h (lK L xs (d + 1) Q 809 [x0, x1, x2, x3] st)) := (lw_at mj_406_806 rfl).trans ((z_invv (As := [a1, a2]) (by decide) rfl rfl).trans (congrArg (And _) (congrArg (And _) (lC_nl nl_211))))
theorem mj_406_809 : mc_P ml_y 809 = some (.aload_n 2, 1, 0, 0, 0) := by decide +kernel
theorem s_406_809 {x0 x1 x3 : Option Value} {w : Value} : lw L xs d Q 809 [x0, x1, some w, x3] (st) h = mv_a w (lw L xs d Q 810 [x0, x1, some w, x3] (w :: st) h) := (lw_at mj_406_809 rfl).trans (z_aload_n rfl)
theorem mj_406_810 : mc_P ml_y 810 = some (.aload_n 0, 1, 0, 0, 0) := by decide +kernel
theorem s_406_810 {x1 x2 x3 : Option Value} {w : Value} : lw L xs d Q 810 [some w, x1, x2, x3] (st) h = mv_a w (lw L xs d Q 811 [some w, x1, x2, x3] (w :: st) h) := (lw_at mj_406_810 rfl).trans (z_aload_n rfl)
theorem mj_406_811 : mc_P ml_y 811 = some (.iload_n 3, 1, 0, 0, 0) := by decide +kernel
theorem s_406_811 {x0 x1 x2 : Option Value} {w : Value} : lw L xs d Q 811 [x0, x1, x2, some w] (st) h = mv_i w (lw L xs d Q 812 [x0, x1, x2, some w] (w :: st) h) := (lw_at mj_406_811 rfl).trans (z_iload_n rfl)
theorem mj_406_812 : mc_P ml_y 812 = some (.iconst 1, 1, 0, 0, 0) := by decide +kernel
theorem s_406_812 {x0 x1 x2 x3 : Option Value} : lw L xs d Q 812 [x0, x1, x2, x3] (st) h = lw L xs d Q 813 [x0, x1, x2, x3] (.int 1 :: st) h := (lw_at mj_406_812 rfl).trans (z_iconst (by decide))
theorem mj_406_813 : mc_P ml_y 813 = some (.iadd, 1, 0, 0, 0) := by decide +kernel
theorem s_406_813 {x0 x1 x2 x3 : Option Value} {x w : Int32} : lw L xs d Q 813 [x0, x1, x2, x3] (.int w :: .int x :: st) h = lw L xs d Q 814 [x0, x1, x2, x3] (.int (x + w) :: st) h := (lw_at mj_406_813 rfl).trans (z_iadd)
theorem mj_406_814 : mc_P ml_y 814 = some (.iaload, 1, 0, 0, 0) := by decide +kernel
theorem s_406_814 {x0 x1 x2 x3 : Option Value} {i : Int32} : lw L xs d Q 814 [x0, x1, x2, x3] (.int i :: .retAddr 8 :: st) h = (mx i L ∧ lw L xs d Q 815 [x0, x1, x2, x3] (.int (xs i.toNatClampNeg) :: st) h) := lw_scr mj_406_814
theorem mj_406_815 : mc_P ml_y 815 = some (.aload_n 0, 1, 0, 0, 0) := by decide +kernel
theorem s_406_815 {x1 x2 x3 : Option Value} {w : Value} : lw L xs d Q 815 [some w, x1, x2, x3] (st) h = mv_a w (lw L xs d Q 816 [some w, x1, x2, x3] (w :: st) h) := (lw_at mj_406_815 rfl).trans (z_aload_n rfl)
theorem mj_406_816 : mc_P ml_y 816 = some (.iload_n 3, 1, 0, 0, 0) := by decide +kernel
theorem s_406_816 {x0 x1 x2 : Option Value} {w : Value} : lw L xs d Q 816 [x0, x1, x2, some w] (st) h = mv_i w (lw L xs d Q 817 [x0, x1, x2, some w] (w :: st) h) := (lw_at mj_406_816 rfl).trans (z_iload_n rfl)
theorem mj_406_817 : mc_P ml_y 817 = some (.iconst 2, 1, 0, 0, 0) := by decide +kernel
theorem s_406_817 {x0 x1 x2 x3 : Option Value} : lw L xs d Q 817 [x0, x1, x2, x3] (st) h = lw L xs d Q 818 [x0, x1, x2, x3] (.int 2 :: st) h := (lw_at mj_406_817 rfl).trans (z_iconst (by decide))
theorem mj_406_818 : mc_P ml_y 818 = some (.iadd, 1, 0, 0, 0) := by decide +kernel
theorem s_406_818 {x0 x1 x2 x3 : Option Value} {x w : Int32} : lw L xs d Q 818 [x0, x1, x2, x3] (.int w :: .int x :: st) h = lw L xs d Q 819 [x0, x1, x2, x3] (.int (x + w) :: st) h := (lw_at mj_406_818 rfl).trans (z_iadd)
theorem mj_406_819 : mc_P ml_y 819 = some (.iaload, 1, 0, 0, 0) := by decide +kernel
theorem s_406_819 {x0 x1 x2 x3 : Option Value} {i : Int32} : lw L xs d Q 819 [x0, x1, x2, x3] (.int i :: .retAddr 8 :: st) h = (mx i L ∧ lw L xs d Q 820 [x0, x1, x2, x3] (.int (xs i.toNatClampNeg) :: st) h) := lw_scr mj_406_819
theorem mj_406_820 : mc_P ml_y 820 = some (.invokevirtual 94, 3, 371, 14, 3) := by decide +kernel
theorem s_406_820 {x0 x1 x2 x3 : Option Value} {o : Nat} {a1 a2 : Value} : lw L xs (d + 1) Q 820 [x0, x1, x2, x3] (a2 :: a1 :: .ref o :: st) h = (mg h o 14 ∧ mca st 8 ∧ mca [.ref o, a1, a2] 3 ∧ mcall d 371 [.ref o, a1, a2] h (lK L xs (d + 1) Q 823 [x0, x1, x2, x3] st)) := (lw_at mj_406_820 rfl).trans ((z_invv (As := [a1, a2]) (by decide) rfl rfl).trans (congrArg (And _) (congrArg (And _) (lC_nl nl_371))))
theorem mj_406_823 : mc_P ml_y 823 = some (.if_icmp .eq 90, 3, 0, 0, 0) := by decide +kernel
theorem s_406_823 {x0 x1 x2 x3 : Option Value} {x w : Int32} : lw L xs d Q 823 [x0, x1, x2, x3] (.int w :: .int x :: st) h = mB (x = w) (lw L xs d Q) 913 826 [x0, x1, x2, x3] st h := (lw_at mj_406_823 rfl).trans (z_icmp_eq (by decide) rfl)
theorem mj_406_826 : mc_P ml_y 826 = some (.iconst 0, 1, 0, 0, 0) := by decide +kernel
theorem s_406_826 {x0 x1 x2 x3 : Option Value} : lw L xs d Q 826 [x0, x1, x2, x3] (st) h = lw L xs d Q 827 [x0, x1, x2, x3] (.int 0 :: st) h := (lw_at mj_406_826 rfl).trans (z_iconst (by decide))
theorem mj_406_827 : mc_P ml_y 827 = some (.ireturn, 1, 0, 3, 0) := by decide +kernel
theorem s_406_827 {x0 x1 x2 x3 : Option Value} {x : Int32} : lw L xs d Q 827 [x0, x1, x2, x3] ([.int x]) h = ((x = 0 ∨ x = 1) ∧ Q (some (.int x)) h) := (lw_at mj_406_827 rfl).trans (z_zret)
theorem mj_406_828 : mc_P ml_y 828 = some (.aload_n 1, 1, 0, 0, 0) := by decide +kernel
theorem s_406_828 {x0 x2 x3 : Option Value} {w : Value} : lw L xs d Q 828 [x0, some w, x2, x3] (st) h = mv_a w (lw L xs d Q 829 [x0, some w, x2, x3] (w :: st) h) := (lw_at mj_406_828 rfl).trans (z_aload_n rfl)
theorem mj_406_829 : mc_P ml_y 829 = some (.invokevirtual 95, 3, 212, 11, 1) := by decide +kernel
theorem s_406_829 {x0 x1 x2 x3 : Option Value} {o : Nat} : lw L xs (d + 1) Q 829 [x0, x1, x2, x3] (.ref o :: st) h = (mg h o 11 ∧ mca st 8 ∧ mca [.ref o] 1 ∧ mcall d 212 [.ref o] h (lK L xs (d + 1) Q 832 [x0, x1, x2, x3] st)) := (lw_at mj_406_829 rfl).trans ((z_invv (As := []) (by decide) rfl rfl).trans (congrArg (And _) (congrArg (And _) (lC_nl nl_212))))
theorem mj_406_832 : mc_P ml_y 832 = some (.aload_n 2, 1, 0, 0, 0) := by decide +kernel
theorem s_406_832 {x0 x1 x3 : Option Value} {w : Value} : lw L xs d Q 832 [x0, x1, some w, x3] (st) h = mv_a w (lw L xs d Q 833 [x0, x1, some w, x3] (w :: st) h) := (lw_at mj_406_832 rfl).trans (z_aload_n rfl)
theorem mj_406_833 : mc_P ml_y 833 = some (.invokevirtual 98, 3, 368, 14, 1) := by decide +kernel
theorem s_406_833 {x0 x1 x2 x3 : Option Value} {o : Nat} : lw L xs (d + 1) Q 833 [x0, x1, x2, x3] (.ref o :: st) h = (mg h o 14 ∧ mca st 8 ∧ mca [.ref o] 1 ∧ mcall d 368 [.ref o] h (lK L xs (d + 1) Q 836 [x0, x1, x2, x3] st)) := (lw_at mj_406_833 rfl).trans ((z_invv (As := []) (by decide) rfl rfl).trans (congrArg (And _) (congrArg (And _) (lC_nl nl_368))))
theorem mj_406_836 : mc_P ml_y 836 = some (.if_icmp .eq 77, 3, 0, 0, 0) := by decide +kernel
theorem s_406_836 {x0 x1 x2 x3 : Option Value} {x w : Int32} : lw L xs d Q 836 [x0, x1, x2, x3] (.int w :: .int x :: st) h = mB (x = w) (lw L xs d Q) 913 839 [x0, x1, x2, x3] st h := (lw_at mj_406_836 rfl).trans (z_icmp_eq (by decide) rfl)
theorem mj_406_839 : mc_P ml_y 839 = some (.iconst 0, 1, 0, 0, 0) := by decide +kernel
theorem s_406_839 {x0 x1 x2 x3 : Option Value} : lw L xs d Q 839 [x0, x1, x2, x3] (st) h = lw L xs d Q 840 [x0, x1, x2, x3] (.int 0 :: st) h := (lw_at mj_406_839 rfl).trans (z_iconst (by decide))
theorem mj_406_840 : mc_P ml_y 840 = some (.ireturn, 1, 0, 3, 0) := by decide +kernel
theorem s_406_840 {x0 x1 x2 x3 : Option Value} {x : Int32} : lw L xs d Q 840 [x0, x1, x2, x3] ([.int x]) h = ((x = 0 ∨ x = 1) ∧ Q (some (.int x)) h) := (lw_at mj_406_840 rfl).trans (z_zret)
theorem mj_406_841 : mc_P ml_y 841 = some (.aload_n 1, 1, 0, 0, 0) := by decide +kernel
theorem s_406_841 {x0 x2 x3 : Option Value} {w : Value} : lw L xs d Q 841 [x0, some w, x2, x3] (st) h = mv_a w (lw L xs d Q 842 [x0, some w, x2, x3] (w :: st) h) := (lw_at mj_406_841 rfl).trans (z_aload_n rfl)
theorem mj_406_842 : mc_P ml_y 842 = some (.aload_n 0, 1, 0, 0, 0) := by decide +kernel
theorem s_406_842 {x1 x2 x3 : Option Value} {w : Value} : lw L xs d Q 842 [some w, x1, x2, x3] (st) h = mv_a w (lw L xs d Q 843 [some w, x1, x2, x3] (w :: st) h) := (lw_at mj_406_842 rfl).trans (z_aload_n rfl)
theorem mj_406_843 : mc_P ml_y 843 = some (.iload_n 3, 1, 0, 0, 0) := by decide +kernel
theorem s_406_843 {x0 x1 x2 : Option Value} {w : Value} : lw L xs d Q 843 [x0, x1, x2, some w] (st) h = mv_i w (lw L xs d Q 844 [x0, x1, x2, some w] (w :: st) h) := (lw_at mj_406_843 rfl).trans (z_iload_n rfl)
theorem mj_406_844 : mc_P ml_y 844 = some (.iconst 1, 1, 0, 0, 0) := by decide +kernel
theorem s_406_844 {x0 x1 x2 x3 : Option Value} : lw L xs d Q 844 [x0, x1, x2, x3] (st) h = lw L xs d Q 845 [x0, x1, x2, x3] (.int 1 :: st) h := (lw_at mj_406_844 rfl).trans (z_iconst (by decide))
theorem mj_406_845 : mc_P ml_y 845 = some (.iadd, 1, 0, 0, 0) := by decide +kernel
theorem s_406_845 {x0 x1 x2 x3 : Option Value} {x w : Int32} : lw L xs d Q 845 [x0, x1, x2, x3] (.int w :: .int x :: st) h = lw L xs d Q 846 [x0, x1, x2, x3] (.int (x + w) :: st) h := (lw_at mj_406_845 rfl).trans (z_iadd)
theorem mj_406_846 : mc_P ml_y 846 = some (.iaload, 1, 0, 0, 0) := by decide +kernel
theorem s_406_846 {x0 x1 x2 x3 : Option Value} {i : Int32} : lw L xs d Q 846 [x0, x1, x2, x3] (.int i :: .retAddr 8 :: st) h = (mx i L ∧ lw L xs d Q 847 [x0, x1, x2, x3] (.int (xs i.toNatClampNeg) :: st) h) := lw_scr mj_406_846
theorem mj_406_847 : mc_P ml_y 847 = some (.ifCond .eq 7, 3, 0, 0, 0) := by decide +kernel
theorem s_406_847 {x0 x1 x2 x3 : Option Value} {x : Int32} : lw L xs d Q 847 [x0, x1, x2, x3] (.int x :: st) h = mB (x = 0) (lw L xs d Q) 854 850 [x0, x1, x2, x3] st h := (lw_at mj_406_847 rfl).trans (z_if_eq (by decide) rfl)
theorem mj_406_850 : mc_P ml_y 850 = some (.iconst 1, 1, 0, 0, 0) := by decide +kernel
theorem s_406_850 {x0 x1 x2 x3 : Option Value} : lw L xs d Q 850 [x0, x1, x2, x3] (st) h = lw L xs d Q 851 [x0, x1, x2, x3] (.int 1 :: st) h := (lw_at mj_406_850 rfl).trans (z_iconst (by decide))
theorem mj_406_851 : mc_P ml_y 851 = some (.goto 4, 3, 0, 0, 0) := by decide +kernel
theorem s_406_851 {x0 x1 x2 x3 : Option Value} : lw L xs d Q 851 [x0, x1, x2, x3] (st) h = lw L xs d Q 855 [x0, x1, x2, x3] (st) h := (lw_at mj_406_851 rfl).trans (z_goto (by decide))
theorem mj_406_854 : mc_P ml_y 854 = some (.iconst 0, 1, 0, 0, 0) := by decide +kernel
theorem s_406_854 {x0 x1 x2 x3 : Option Value} : lw L xs d Q 854 [x0, x1, x2, x3] (st) h = lw L xs d Q 855 [x0, x1, x2, x3] (.int 0 :: st) h := (lw_at mj_406_854 rfl).trans (z_iconst (by decide))
theorem mj_406_855 : mc_P ml_y 855 = some (.aload_n 0, 1, 0, 0, 0) := by decide +kernel
theorem s_406_855 {x1 x2 x3 : Option Value} {w : Value} : lw L xs d Q 855 [some w, x1, x2, x3] (st) h = mv_a w (lw L xs d Q 856 [some w, x1, x2, x3] (w :: st) h) := (lw_at mj_406_855 rfl).trans (z_aload_n rfl)
theorem mj_406_856 : mc_P ml_y 856 = some (.iload_n 3, 1, 0, 0, 0) := by decide +kernel
theorem s_406_856 {x0 x1 x2 : Option Value} {w : Value} : lw L xs d Q 856 [x0, x1, x2, some w] (st) h = mv_i w (lw L xs d Q 857 [x0, x1, x2, some w] (w :: st) h) := (lw_at mj_406_856 rfl).trans (z_iload_n rfl)
theorem mj_406_857 : mc_P ml_y 857 = some (.iconst 2, 1, 0, 0, 0) := by decide +kernel
theorem s_406_857 {x0 x1 x2 x3 : Option Value} : lw L xs d Q 857 [x0, x1, x2, x3] (st) h = lw L xs d Q 858 [x0, x1, x2, x3] (.int 2 :: st) h := (lw_at mj_406_857 rfl).trans (z_iconst (by decide))
theorem mj_406_858 : mc_P ml_y 858 = some (.iadd, 1, 0, 0, 0) := by decide +kernel
theorem s_406_858 {x0 x1 x2 x3 : Option Value} {x w : Int32} : lw L xs d Q 858 [x0, x1, x2, x3] (.int w :: .int x :: st) h = lw L xs d Q 859 [x0, x1, x2, x3] (.int (x + w) :: st) h := (lw_at mj_406_858 rfl).trans (z_iadd)
theorem mj_406_859 : mc_P ml_y 859 = some (.iaload, 1, 0, 0, 0) := by decide +kernel
theorem s_406_859 {x0 x1 x2 x3 : Option Value} {i : Int32} : lw L xs d Q 859 [x0, x1, x2, x3] (.int i :: .retAddr 8 :: st) h = (mx i L ∧ lw L xs d Q 860 [x0, x1, x2, x3] (.int (xs i.toNatClampNeg) :: st) h) := lw_scr mj_406_859
theorem mj_406_860 : mc_P ml_y 860 = some (.invokevirtual 99, 3, 213, 11, 3) := by decide +kernel
theorem s_406_860 {x0 x1 x2 x3 : Option Value} {o : Nat} {a1 a2 : Value} : lw L xs (d + 1) Q 860 [x0, x1, x2, x3] (a2 :: a1 :: .ref o :: st) h = (mg h o 11 ∧ mca st 8 ∧ mca [.ref o, a1, a2] 4 ∧ mcall d 213 [.ref o, a1, a2] h (lK L xs (d + 1) Q 863 [x0, x1, x2, x3] st)) := (lw_at mj_406_860 rfl).trans ((z_invv (As := [a1, a2]) (by decide) rfl rfl).trans (congrArg (And _) (congrArg (And _) (lC_nl nl_213))))
theorem mj_406_863 : mc_P ml_y 863 = some (.aload_n 2, 1, 0, 0, 0) := by decide +kernel
theorem s_406_863 {x0 x1 x3 : Option Value} {w : Value} : lw L xs d Q 863 [x0, x1, some w, x3] (st) h = mv_a w (lw L xs d Q 864 [x0, x1, some w, x3] (w :: st) h) := (lw_at mj_406_863 rfl).trans (z_aload_n rfl)
theorem mj_406_864 : mc_P ml_y 864 = some (.aload_n 0, 1, 0, 0, 0) := by decide +kernel
theorem s_406_864 {x1 x2 x3 : Option Value} {w : Value} : lw L xs d Q 864 [some w, x1, x2, x3] (st) h = mv_a w (lw L xs d Q 865 [some w, x1, x2, x3] (w :: st) h) := (lw_at mj_406_864 rfl).trans (z_aload_n rfl)
theorem mj_406_865 : mc_P ml_y 865 = some (.iload_n 3, 1, 0, 0, 0) := by decide +kernel
theorem s_406_865 {x0 x1 x2 : Option Value} {w : Value} : lw L xs d Q 865 [x0, x1, x2, some w] (st) h = mv_i w (lw L xs d Q 866 [x0, x1, x2, some w] (w :: st) h) := (lw_at mj_406_865 rfl).trans (z_iload_n rfl)
theorem mj_406_866 : mc_P ml_y 866 = some (.iconst 1, 1, 0, 0, 0) := by decide +kernel
theorem s_406_866 {x0 x1 x2 x3 : Option Value} : lw L xs d Q 866 [x0, x1, x2, x3] (st) h = lw L xs d Q 867 [x0, x1, x2, x3] (.int 1 :: st) h := (lw_at mj_406_866 rfl).trans (z_iconst (by decide))
theorem mj_406_867 : mc_P ml_y 867 = some (.iadd, 1, 0, 0, 0) := by decide +kernel
theorem s_406_867 {x0 x1 x2 x3 : Option Value} {x w : Int32} : lw L xs d Q 867 [x0, x1, x2, x3] (.int w :: .int x :: st) h = lw L xs d Q 868 [x0, x1, x2, x3] (.int (x + w) :: st) h := (lw_at mj_406_867 rfl).trans (z_iadd)
theorem mj_406_868 : mc_P ml_y 868 = some (.iaload, 1, 0, 0, 0) := by decide +kernel
theorem s_406_868 {x0 x1 x2 x3 : Option Value} {i : Int32} : lw L xs d Q 868 [x0, x1, x2, x3] (.int i :: .retAddr 8 :: st) h = (mx i L ∧ lw L xs d Q 869 [x0, x1, x2, x3] (.int (xs i.toNatClampNeg) :: st) h) := lw_scr mj_406_868
theorem mj_406_869 : mc_P ml_y 869 = some (.ifCond .eq 7, 3, 0, 0, 0) := by decide +kernel
theorem s_406_869 {x0 x1 x2 x3 : Option Value} {x : Int32} : lw L xs d Q 869 [x0, x1, x2, x3] (.int x :: st) h = mB (x = 0) (lw L xs d Q) 876 872 [x0, x1, x2, x3] st h := (lw_at mj_406_869 rfl).trans (z_if_eq (by decide) rfl)
theorem mj_406_872 : mc_P ml_y 872 = some (.iconst 1, 1, 0, 0, 0) := by decide +kernel
theorem s_406_872 {x0 x1 x2 x3 : Option Value} : lw L xs d Q 872 [x0, x1, x2, x3] (st) h = lw L xs d Q 873 [x0, x1, x2, x3] (.int 1 :: st) h := (lw_at mj_406_872 rfl).trans (z_iconst (by decide))
theorem mj_406_873 : mc_P ml_y 873 = some (.goto 4, 3, 0, 0, 0) := by decide +kernel
theorem s_406_873 {x0 x1 x2 x3 : Option Value} : lw L xs d Q 873 [x0, x1, x2, x3] (st) h = lw L xs d Q 877 [x0, x1, x2, x3] (st) h := (lw_at mj_406_873 rfl).trans (z_goto (by decide))
theorem mj_406_876 : mc_P ml_y 876 = some (.iconst 0, 1, 0, 0, 0) := by decide +kernel
theorem s_406_876 {x0 x1 x2 x3 : Option Value} : lw L xs d Q 876 [x0, x1, x2, x3] (st) h = lw L xs d Q 877 [x0, x1, x2, x3] (.int 0 :: st) h := (lw_at mj_406_876 rfl).trans (z_iconst (by decide))
theorem mj_406_877 : mc_P ml_y 877 = some (.aload_n 0, 1, 0, 0, 0) := by decide +kernel
theorem s_406_877 {x1 x2 x3 : Option Value} {w : Value} : lw L xs d Q 877 [some w, x1, x2, x3] (st) h = mv_a w (lw L xs d Q 878 [some w, x1, x2, x3] (w :: st) h) := (lw_at mj_406_877 rfl).trans (z_aload_n rfl)
theorem mj_406_878 : mc_P ml_y 878 = some (.iload_n 3, 1, 0, 0, 0) := by decide +kernel
theorem s_406_878 {x0 x1 x2 : Option Value} {w : Value} : lw L xs d Q 878 [x0, x1, x2, some w] (st) h = mv_i w (lw L xs d Q 879 [x0, x1, x2, some w] (w :: st) h) := (lw_at mj_406_878 rfl).trans (z_iload_n rfl)
theorem mj_406_879 : mc_P ml_y 879 = some (.iconst 2, 1, 0, 0, 0) := by decide +kernel
theorem s_406_879 {x0 x1 x2 x3 : Option Value} : lw L xs d Q 879 [x0, x1, x2, x3] (st) h = lw L xs d Q 880 [x0, x1, x2, x3] (.int 2 :: st) h := (lw_at mj_406_879 rfl).trans (z_iconst (by decide))
theorem mj_406_880 : mc_P ml_y 880 = some (.iadd, 1, 0, 0, 0) := by decide +kernel
theorem s_406_880 {x0 x1 x2 x3 : Option Value} {x w : Int32} : lw L xs d Q 880 [x0, x1, x2, x3] (.int w :: .int x :: st) h = lw L xs d Q 881 [x0, x1, x2, x3] (.int (x + w) :: st) h := (lw_at mj_406_880 rfl).trans (z_iadd)
theorem mj_406_881 : mc_P ml_y 881 = some (.iaload, 1, 0, 0, 0) := by decide +kernel
theorem s_406_881 {x0 x1 x2 x3 : Option Value} {i : Int32} : lw L xs d Q 881 [x0, x1, x2, x3] (.int i :: .retAddr 8 :: st) h = (mx i L ∧ lw L xs d Q 882 [x0, x1, x2, x3] (.int (xs i.toNatClampNeg) :: st) h) := lw_scr mj_406_881
theorem mj_406_882 : mc_P ml_y 882 = some (.invokevirtual 103, 3, 390, 14, 3) := by decide +kernel
theorem s_406_882 {x0 x1 x2 x3 : Option Value} {o : Nat} {a1 a2 : Value} : lw L xs (d + 1) Q 882 [x0, x1, x2, x3] (a2 :: a1 :: .ref o :: st) h = (mg h o 14 ∧ mca st 8 ∧ mca [.ref o, a1, a2] 6 ∧ mcall d 390 [.ref o, a1, a2] h (lK L xs (d + 1) Q 885 [x0, x1, x2, x3] st)) := (lw_at mj_406_882 rfl).trans ((z_invv (As := [a1, a2]) (by decide) rfl rfl).trans (congrArg (And _) (congrArg (And _) (lC_nl nl_390))))
theorem mj_406_885 : mc_P ml_y 885 = some (.if_icmp .eq 28, 3, 0, 0, 0) := by decide +kernel
theorem s_406_885 {x0 x1 x2 x3 : Option Value} {x w : Int32} : lw L xs d Q 885 [x0, x1, x2, x3] (.int w :: .int x :: st) h = mB (x = w) (lw L xs d Q) 913 888 [x0, x1, x2, x3] st h := (lw_at mj_406_885 rfl).trans (z_icmp_eq (by decide) rfl)
theorem mj_406_888 : mc_P ml_y 888 = some (.iconst 0, 1, 0, 0, 0) := by decide +kernel
theorem s_406_888 {x0 x1 x2 x3 : Option Value} : lw L xs d Q 888 [x0, x1, x2, x3] (st) h = lw L xs d Q 889 [x0, x1, x2, x3] (.int 0 :: st) h := (lw_at mj_406_888 rfl).trans (z_iconst (by decide))
theorem mj_406_889 : mc_P ml_y 889 = some (.ireturn, 1, 0, 3, 0) := by decide +kernel
theorem s_406_889 {x0 x1 x2 x3 : Option Value} {x : Int32} : lw L xs d Q 889 [x0, x1, x2, x3] ([.int x]) h = ((x = 0 ∨ x = 1) ∧ Q (some (.int x)) h) := (lw_at mj_406_889 rfl).trans (z_zret)
theorem mj_406_890 : mc_P ml_y 890 = some (.aload_n 1, 1, 0, 0, 0) := by decide +kernel
theorem s_406_890 {x0 x2 x3 : Option Value} {w : Value} : lw L xs d Q 890 [x0, some w, x2, x3] (st) h = mv_a w (lw L xs d Q 891 [x0, some w, x2, x3] (w :: st) h) := (lw_at mj_406_890 rfl).trans (z_aload_n rfl)
theorem mj_406_891 : mc_P ml_y 891 = some (.aload_n 0, 1, 0, 0, 0) := by decide +kernel
theorem s_406_891 {x1 x2 x3 : Option Value} {w : Value} : lw L xs d Q 891 [some w, x1, x2, x3] (st) h = mv_a w (lw L xs d Q 892 [some w, x1, x2, x3] (w :: st) h) := (lw_at mj_406_891 rfl).trans (z_aload_n rfl)
theorem mj_406_892 : mc_P ml_y 892 = some (.iload_n 3, 1, 0, 0, 0) := by decide +kernel
theorem s_406_892 {x0 x1 x2 : Option Value} {w : Value} : lw L xs d Q 892 [x0, x1, x2, some w] (st) h = mv_i w (lw L xs d Q 893 [x0, x1, x2, some w] (w :: st) h) := (lw_at mj_406_892 rfl).trans (z_iload_n rfl)
theorem mj_406_893 : mc_P ml_y 893 = some (.iconst 1, 1, 0, 0, 0) := by decide +kernel
theorem s_406_893 {x0 x1 x2 x3 : Option Value} : lw L xs d Q 893 [x0, x1, x2, x3] (st) h = lw L xs d Q 894 [x0, x1, x2, x3] (.int 1 :: st) h := (lw_at mj_406_893 rfl).trans (z_iconst (by decide))
theorem mj_406_894 : mc_P ml_y 894 = some (.iadd, 1, 0, 0, 0) := by decide +kernel
theorem s_406_894 {x0 x1 x2 x3 : Option Value} {x w : Int32} : lw L xs d Q 894 [x0, x1, x2, x3] (.int w :: .int x :: st) h = lw L xs d Q 895 [x0, x1, x2, x3] (.int (x + w) :: st) h := (lw_at mj_406_894 rfl).trans (z_iadd)
theorem mj_406_895 : mc_P ml_y 895 = some (.iaload, 1, 0, 0, 0) := by decide +kernel
theorem s_406_895 {x0 x1 x2 x3 : Option Value} {i : Int32} : lw L xs d Q 895 [x0, x1, x2, x3] (.int i :: .retAddr 8 :: st) h = (mx i L ∧ lw L xs d Q 896 [x0, x1, x2, x3] (.int (xs i.toNatClampNeg) :: st) h) := lw_scr mj_406_895
theorem mj_406_896 : mc_P ml_y 896 = some (.invokevirtual 104, 3, 214, 11, 2) := by decide +kernel
theorem s_406_896 {x0 x1 x2 x3 : Option Value} {o : Nat} {a1 : Value} : lw L xs (d + 1) Q 896 [x0, x1, x2, x3] (a1 :: .ref o :: st) h = (mg h o 11 ∧ mca st 8 ∧ mca [.ref o, a1] 2 ∧ mcall d 214 [.ref o, a1] h (lK L xs (d + 1) Q 899 [x0, x1, x2, x3] st)) := (lw_at mj_406_896 rfl).trans ((z_invv (As := [a1]) (by decide) rfl rfl).trans (congrArg (And _) (congrArg (And _) (lC_nl nl_214))))
theorem mj_406_899 : mc_P ml_y 899 = some (.aload_n 2, 1, 0, 0, 0) := by decide +kernel
theorem s_406_899 {x0 x1 x3 : Option Value} {w : Value} : lw L xs d Q 899 [x0, x1, some w, x3] (st) h = mv_a w (lw L xs d Q 900 [x0, x1, some w, x3] (w :: st) h) := (lw_at mj_406_899 rfl).trans (z_aload_n rfl)
theorem mj_406_900 : mc_P ml_y 900 = some (.aload_n 0, 1, 0, 0, 0) := by decide +kernel
theorem s_406_900 {x1 x2 x3 : Option Value} {w : Value} : lw L xs d Q 900 [some w, x1, x2, x3] (st) h = mv_a w (lw L xs d Q 901 [some w, x1, x2, x3] (w :: st) h) := (lw_at mj_406_900 rfl).trans (z_aload_n rfl)
theorem mj_406_901 : mc_P ml_y 901 = some (.iload_n 3, 1, 0, 0, 0) := by decide +kernel
theorem s_406_901 {x0 x1 x2 : Option Value} {w : Value} : lw L xs d Q 901 [x0, x1, x2, some w] (st) h = mv_i w (lw L xs d Q 902 [x0, x1, x2, some w] (w :: st) h) := (lw_at mj_406_901 rfl).trans (z_iload_n rfl)
theorem mj_406_902 : mc_P ml_y 902 = some (.iconst 1, 1, 0, 0, 0) := by decide +kernel
theorem s_406_902 {x0 x1 x2 x3 : Option Value} : lw L xs d Q 902 [x0, x1, x2, x3] (st) h = lw L xs d Q 903 [x0, x1, x2, x3] (.int 1 :: st) h := (lw_at mj_406_902 rfl).trans (z_iconst (by decide))
theorem mj_406_903 : mc_P ml_y 903 = some (.iadd, 1, 0, 0, 0) := by decide +kernel
theorem s_406_903 {x0 x1 x2 x3 : Option Value} {x w : Int32} : lw L xs d Q 903 [x0, x1, x2, x3] (.int w :: .int x :: st) h = lw L xs d Q 904 [x0, x1, x2, x3] (.int (x + w) :: st) h := (lw_at mj_406_903 rfl).trans (z_iadd)
theorem mj_406_904 : mc_P ml_y 904 = some (.iaload, 1, 0, 0, 0) := by decide +kernel
theorem s_406_904 {x0 x1 x2 x3 : Option Value} {i : Int32} : lw L xs d Q 904 [x0, x1, x2, x3] (.int i :: .retAddr 8 :: st) h = (mx i L ∧ lw L xs d Q 905 [x0, x1, x2, x3] (.int (xs i.toNatClampNeg) :: st) h) := lw_scr mj_406_904
theorem mj_406_905 : mc_P ml_y 905 = some (.invokevirtual 107, 3, 391, 14, 2) := by decide +kernel
theorem s_406_905 {x0 x1 x2 x3 : Option Value} {o : Nat} {a1 : Value} : lw L xs (d + 1) Q 905 [x0, x1, x2, x3] (a1 :: .ref o :: st) h = (mg h o 14 ∧ mca st 8 ∧ mca [.ref o, a1] 2 ∧ mcall d 391 [.ref o, a1] h (lK L xs (d + 1) Q 908 [x0, x1, x2, x3] st)) := (lw_at mj_406_905 rfl).trans ((z_invv (As := [a1]) (by decide) rfl rfl).trans (congrArg (And _) (congrArg (And _) (lC_nl nl_391))))
theorem mj_406_908 : mc_P ml_y 908 = some (.if_icmp .eq 5, 3, 0, 0, 0) := by decide +kernel
theorem s_406_908 {x0 x1 x2 x3 : Option Value} {x w : Int32} : lw L xs d Q 908 [x0, x1, x2, x3] (.int w :: .int x :: st) h = mB (x = w) (lw L xs d Q) 913 911 [x0, x1, x2, x3] st h := (lw_at mj_406_908 rfl).trans (z_icmp_eq (by decide) rfl)
theorem mj_406_911 : mc_P ml_y 911 = some (.iconst 0, 1, 0, 0, 0) := by decide +kernel
theorem s_406_911 {x0 x1 x2 x3 : Option Value} : lw L xs d Q 911 [x0, x1, x2, x3] (st) h = lw L xs d Q 912 [x0, x1, x2, x3] (.int 0 :: st) h := (lw_at mj_406_911 rfl).trans (z_iconst (by decide))
theorem mj_406_912 : mc_P ml_y 912 = some (.ireturn, 1, 0, 3, 0) := by decide +kernel
theorem s_406_912 {x0 x1 x2 x3 : Option Value} {x : Int32} : lw L xs d Q 912 [x0, x1, x2, x3] ([.int x]) h = ((x = 0 ∨ x = 1) ∧ Q (some (.int x)) h) := (lw_at mj_406_912 rfl).trans (z_zret)
theorem mj_406_913 : mc_P ml_y 913 = some (.iinc 3 8, 3, 0, 0, 0) := by decide +kernel
theorem s_406_913 {x0 x1 x2 : Option Value} {w : Int32} : lw L xs d Q 913 [x0, x1, x2, some (.int w)] (st) h = lw L xs d Q 916 [x0, x1, mk2 x2, some (.int (w + 8))] (st) h := (lw_at mj_406_913 rfl).trans (z_iinc rfl (Nat.le_of_ble_eq_true rfl) (by decide) (me_s1_mk (j := 2) (w := x2) rfl))
theorem mj_406_916 : mc_P ml_y 916 = some (.goto (-898), 3, 0, 0, 0) := by decide +kernel
theorem s_406_916 {x0 x1 x2 x3 : Option Value} : lw L xs d Q 916 [x0, x1, x2, x3] (st) h = lw L xs d Q 18 [x0, x1, x2, x3] (st) h := (lw_at mj_406_916 rfl).trans (z_goto (by decide))
theorem mj_406_919 : mc_P ml_y 919 = some (.iconst 1, 1, 0, 0, 0) := by decide +kernel
theorem s_406_919 {x0 x1 x2 x3 : Option Value} : lw L xs d Q 919 [x0, x1, x2, x3] (st) h = lw L xs d Q 920 [x0, x1, x2, x3] (.int 1 :: st) h := (lw_at mj_406_919 rfl).trans (z_iconst (by decide))
theorem mj_406_920 : mc_P ml_y 920 = some (.ireturn, 1, 0, 3, 0) := by decide +kernel
theorem s_406_920 {x0 x1 x2 x3 : Option Value} {x : Int32} : lw L xs d Q 920 [x0, x1, x2, x3] ([.int x]) h = ((x = 0 ∨ x = 1) ∧ Q (some (.int x)) h) := (lw_at mj_406_920 rfl).trans (z_zret)
end SL
section SE
variable {d : Nat} {Q : Option Value → mh_H → Prop} {h : mh_H}
theorem e_28n {a0 : Nat} {a1 : Int32} {a2 : Nat} : mcall d 28 [.ref a0, .int a1, .ref a2, .null] h Q = mw d 28 Q 0 [some (.ref a0), some (.int a1), some (.ref a2), some (.null), none, none] [] h := by
  show mw d 28 Q 0 (me_en (mc_nl 28) _) [] h = _
  rw [nl_28]; rfl
theorem e_29n {a0 : Nat} {a1 : Nat} : mcall d 29 [.ref a0, .ref a1, .null] h Q = mw d 29 Q 0 [some (.ref a0), some (.ref a1), some (.null), none] [] h := by
  show mw d 29 Q 0 (me_en (mc_nl 29) _) [] h = _
  rw [nl_29]; rfl
end SE
