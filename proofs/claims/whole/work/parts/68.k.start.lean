set_option maxRecDepth 100000
/-! THE START: what the kernel sees of the heap before the reference's loop -/
set_option maxRecDepth 100000 in
theorem cC_n : mh_n mp_hC = 132 := by decide +kernel
set_option maxRecDepth 100000 in
theorem cC_K : (rfK.all fun t => decide (132 ≤ t.1) || (decide (mh_k mp_hC t.1 = t.2.1) && decide (mh_l mp_hC t.1 = t.2.2))) = true := by decide +kernel
set_option maxRecDepth 100000 in
theorem cC_R : (rfR.all fun t => (decide (132 ≤ t.1) || (decide (t.1 ≠ 115) && (decide (t.2.1 < 1) || decide (52 ≤ t.2.1)))) || decide (mh_r mp_hC t.1 t.2.1 = some t.2.2)) = true := by decide +kernel
set_option maxRecDepth 100000 in
theorem cC_p : mh_r mp_hC 115 12 = some 120 ∧ mh_r mp_hC 115 27 = some 124 ∧ mh_r mp_hC 115 28 = some 125 ∧ mh_r mp_hC 115 29 = some 126 ∧ mh_r mp_hC 115 30 = some 127 ∧ mh_r mp_hC 115 31 = some 128 ∧ mh_r mp_hC 115 32 = some 129 := by decide +kernel
set_option maxRecDepth 100000 in
theorem cC_s : ((List.range 2048).all fun j => decide (mh_r mp_hC 119 j = none)) = true := by decide +kernel
set_option maxRecDepth 100000 in
theorem cC_i : mh_i mp_hC 81 49 = -1 ∧ mh_i mp_hC 81 2 = 0 ∧ mh_i mp_hC 81 54 = 0 ∧ mh_i mp_hC 81 57 = 0 ∧ mh_i mp_hC 81 60 = 0 ∧ mh_i mp_hC 99 0 = 0 := by decide +kernel
theorem ZC_C : ZC0 mp_hC := ZC_0 cC_n cC_K cC_R cC_p cC_s cC_i
theorem eD_C : mp_hD = lp 116 117 250 0 mp_hC := rfl
theorem wD_E : mw 2046 298 (fun _ z => z = mp_hE) 308 [some (.ref 81)] [.ref 115, .ref 81] mp_hD := by
  have hq : (fun (_ : Option Value) (z : mh_H) => z = mp_hE) none mp_hE := rfl
  refine mq_mw _ _ _ _ _ _ _ _ _ _ _ (mq_eq mp_cE) ?_
  exact mr_vret mi_298_429 hq
theorem xE : fG noW (zwZ mp_hD) mp_hE ∧ NOP mp_hE := zc_E (d := 2041) ZC_C eD_C wD_E
theorem RB_E : RBz mp_hE := zc_B ZC_C eD_C xE.1 xE.2 iyf_E
theorem iE_E : (mh_i mp_hE 81 49 = -1 ∧ mh_i mp_hE 81 2 = 0 ∧ mh_i mp_hE 81 54 = 0 ∧ mh_i mp_hE 81 57 = 0 ∧ mh_i mp_hE 81 60 = 0) ∧ mh_i mp_hE 2639 = fun _ => 0 := zc_I ZC_C eD_C xE.1
