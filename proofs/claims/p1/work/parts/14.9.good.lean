theorem mk_cut {c : ByteArray} {o ini : Nat} {rt : Option FieldType} {l : List (Nat × me_E)} (i : Nat) (h1 : mk_all c o ini rt ((l.drop i).take 40) = true) (h2 : mk_all c o ini rt (l.drop (i + 40)) = true) : mk_all c o ini rt (l.drop i) = true := by
  unfold mk_all at h1 h2 ⊢
  rw [← List.take_append_drop 40 (l.drop i), List.all_append, h1, List.drop_drop, h2]
  rfl
theorem mk_q0 : mk_all (mc_M 406).2.1 19 99 (mc_M 406).2.2.2 ((mc_406.drop 0).take 40) = true := by decide +kernel
theorem mk_q40 : mk_all (mc_M 406).2.1 19 99 (mc_M 406).2.2.2 ((mc_406.drop 40).take 40) = true := by decide +kernel
theorem mk_q80 : mk_all (mc_M 406).2.1 19 99 (mc_M 406).2.2.2 ((mc_406.drop 80).take 40) = true := by decide +kernel
theorem mk_q120 : mk_all (mc_M 406).2.1 19 99 (mc_M 406).2.2.2 ((mc_406.drop 120).take 40) = true := by decide +kernel
theorem mk_q160 : mk_all (mc_M 406).2.1 19 99 (mc_M 406).2.2.2 ((mc_406.drop 160).take 40) = true := by decide +kernel
theorem mk_q200 : mk_all (mc_M 406).2.1 19 99 (mc_M 406).2.2.2 ((mc_406.drop 200).take 40) = true := by decide +kernel
theorem mk_q240 : mk_all (mc_M 406).2.1 19 99 (mc_M 406).2.2.2 ((mc_406.drop 240).take 40) = true := by decide +kernel
theorem mk_q280 : mk_all (mc_M 406).2.1 19 99 (mc_M 406).2.2.2 ((mc_406.drop 280).take 40) = true := by decide +kernel
theorem mk_q320 : mk_all (mc_M 406).2.1 19 99 (mc_M 406).2.2.2 ((mc_406.drop 320).take 40) = true := by decide +kernel
theorem mk_q360 : mk_all (mc_M 406).2.1 19 99 (mc_M 406).2.2.2 ((mc_406.drop 360).take 40) = true := by decide +kernel
theorem mk_q400 : mk_all (mc_M 406).2.1 19 99 (mc_M 406).2.2.2 ((mc_406.drop 400).take 40) = true := by decide +kernel
theorem mk_q440 : mk_all (mc_M 406).2.1 19 99 (mc_M 406).2.2.2 ((mc_406.drop 440).take 40) = true := by decide +kernel
theorem mk_q480 : mk_all (mc_M 406).2.1 19 99 (mc_M 406).2.2.2 ((mc_406.drop 480).take 40) = true := by decide +kernel
theorem mk_q520 : mk_all (mc_M 406).2.1 19 99 (mc_M 406).2.2.2 ((mc_406.drop 520).take 40) = true := by decide +kernel
theorem mk_q560 : mk_all (mc_M 406).2.1 19 99 (mc_M 406).2.2.2 ((mc_406.drop 560).take 40) = true := by decide +kernel
theorem mk_q600 : mk_all (mc_M 406).2.1 19 99 (mc_M 406).2.2.2 ((mc_406.drop 600).take 40) = true := by decide +kernel
theorem mk_qe : mk_all (mc_M 406).2.1 19 99 (mc_M 406).2.2.2 (mc_406.drop 640) = true := by decide +kernel
theorem mk_g406 : mk_good 406 mc_406 := mk_good_of (o := 19) (ini := 99) (mk_cut 0 mk_q0 (mk_cut 40 mk_q40 (mk_cut 80 mk_q80 (mk_cut 120 mk_q120 (mk_cut 160 mk_q160 (mk_cut 200 mk_q200 (mk_cut 240 mk_q240 (mk_cut 280 mk_q280 (mk_cut 320 mk_q320 (mk_cut 360 mk_q360 (mk_cut 400 mk_q400 (mk_cut 440 mk_q440 (mk_cut 480 mk_q480 (mk_cut 520 mk_q520 (mk_cut 560 mk_q560 (mk_cut 600 mk_q600 mk_qe)))))))))))))))) mk_w406
