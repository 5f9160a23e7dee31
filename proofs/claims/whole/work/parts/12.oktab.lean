/-! the tables of 11 are right -/
def mk_cn : List String := ["InvariantDesk$Analysis", "InvariantDesk$Effect", "InvariantDesk$Machine", "InvariantDesk$Parser", "InvariantDesk$Program", "InvariantDesk$Ranges", "InvariantDesk$Scope", "InvariantDesk$Source", "InvariantDesk$State", "InvariantDesk$Statement", "InvariantDesk$Tokens", "InvariantDesk", "InvariantDeskModel$Analysis", "InvariantDeskModel$Known", "InvariantDeskModel", "java/util/Arrays", "java/lang/String", "java/lang/StringLatin1", "jdk/internal/util/Preconditions", "InvariantDeskLaw"]
def mk_nm (c : Nat) : String := mk_cn.getD c ""
def mk_ow : List Nat := [0, 0, 0, 0, 0, 0, 0, 0, 0, 0, 0, 0, 1, 1, 1, 1, 1, 1, 1, 1, 1, 1, 1, 1, 1, 2, 2, 2, 2, 2, 2, 2, 2, 2, 2, 2, 2, 2, 2, 2, 2, 2, 2, 3, 3, 3, 3, 3, 3, 3, 3, 3, 3, 3, 3, 3, 3, 3, 3, 3, 3, 3, 3, 3, 3, 3, 3, 3, 3, 3, 3, 3, 3, 3, 3, 3, 3, 3, 4, 4, 4, 4, 4, 4, 4, 4, 4, 4, 4, 4, 4, 4, 4, 4, 4, 4, 5, 5, 5, 5, 5, 5, 5, 5, 5, 5, 5, 5, 5, 5, 5, 5, 5, 5, 5, 5, 6, 6, 6, 6, 6, 6, 6, 6, 6, 7, 7, 7, 7, 7, 7, 7, 7, 7, 7, 7, 7, 7, 7, 8, 8, 8, 8, 8, 8, 8, 8, 8, 8, 8, 8, 8, 8, 8, 8, 8, 8, 8, 8, 8, 8, 8, 8, 8, 9, 9, 9, 10, 10, 10, 10, 10, 10, 10, 10, 10, 10, 10, 10, 10, 10, 10, 10, 11, 11, 11, 11, 11, 11, 11, 11, 11, 11, 11, 11, 11, 11, 11, 11, 11, 11, 11, 11, 11, 11, 11, 11, 11, 11, 11, 11, 11, 11, 11, 11, 11, 11, 11, 11, 11, 11, 11, 11, 11, 11, 12, 12, 12, 12, 12, 12, 12, 12, 12, 12, 12, 12, 12, 12, 12, 12, 12, 12, 12, 12, 12, 12, 12, 12, 12, 12, 12, 12, 12, 12, 12, 12, 12, 12, 12, 12, 12, 12, 12, 12, 12, 12, 12, 12, 12, 12, 12, 12, 12, 12, 12, 13, 13, 13, 13, 13, 13, 13, 13, 13, 13, 13, 13, 13, 13, 13, 13, 13, 13, 13, 13, 13, 13, 14, 14, 14, 14, 14, 14, 14, 14, 14, 14, 14, 14, 14, 14, 14, 14, 14, 14, 14, 14, 14, 14, 14, 14, 14, 14, 14, 14, 14, 14, 14, 14, 14, 14, 14, 14, 14, 14, 14, 14, 14, 14, 14, 14, 14, 14, 14, 14, 14, 14, 14, 14, 14, 14, 14, 14, 14, 14, 14, 14, 14, 14, 14, 14, 14, 14, 14, 14, 14, 14, 14, 14, 14, 14, 14, 14, 14, 14, 14, 14, 14, 14, 14, 14, 14, 14, 14, 14, 14, 14, 14, 14, 14, 14, 15, 15, 16, 16, 16, 16, 16, 16, 16, 17, 17, 17, 17, 18, 19]
theorem mk_sub1 {w : Jvm.Cond} (h : w ∈ tables_1_1) (hg : goodWord w = true) : w ∈ ms_gw := List.mem_filter.mpr ⟨List.mem_append_right _ (List.mem_append_left _ h), hg⟩
theorem mk_sub2 {w : Jvm.Cond} (h : w ∈ tables_1_2) (hg : goodWord w = true) : w ∈ ms_gw := List.mem_filter.mpr ⟨List.mem_append_right _ (List.mem_append_right _ (List.mem_append_left _ h)), hg⟩
theorem mk_sub3 {w : Jvm.Cond} (h : w ∈ tables_1_3) (hg : goodWord w = true) : w ∈ ms_gw := List.mem_filter.mpr ⟨List.mem_append_right _ (List.mem_append_right _ (List.mem_append_right _ (List.mem_append_left _ h))), hg⟩
theorem mk_sub4 {w : Jvm.Cond} (h : w ∈ tables_1_4) (hg : goodWord w = true) : w ∈ ms_gw := List.mem_filter.mpr ⟨List.mem_append_right _ (List.mem_append_right _ (List.mem_append_right _ (List.mem_append_right _ (List.mem_append_left _ h)))), hg⟩
theorem mk_sub5 {w : Jvm.Cond} (h : w ∈ tables_1_5) (hg : goodWord w = true) : w ∈ ms_gw := List.mem_filter.mpr ⟨List.mem_append_right _ (List.mem_append_right _ (List.mem_append_right _ (List.mem_append_right _ (List.mem_append_right _ (List.mem_append_left _ h))))), hg⟩
theorem mk_sub6 {w : Jvm.Cond} (h : w ∈ tables_1_6) (hg : goodWord w = true) : w ∈ ms_gw := List.mem_filter.mpr ⟨List.mem_append_right _ (List.mem_append_right _ (List.mem_append_right _ (List.mem_append_right _ (List.mem_append_right _ (List.mem_append_right _ (List.mem_append_left _ h)))))), hg⟩
theorem mk_sub7 {w : Jvm.Cond} (h : w ∈ tables_1_7) (hg : goodWord w = true) : w ∈ ms_gw := List.mem_filter.mpr ⟨List.mem_append_right _ (List.mem_append_right _ (List.mem_append_right _ (List.mem_append_right _ (List.mem_append_right _ (List.mem_append_right _ (List.mem_append_right _ (List.mem_append_left _ h))))))), hg⟩
theorem mk_sub8 {w : Jvm.Cond} (h : w ∈ tables_1_8) (hg : goodWord w = true) : w ∈ ms_gw := List.mem_filter.mpr ⟨List.mem_append_right _ (List.mem_append_right _ (List.mem_append_right _ (List.mem_append_right _ (List.mem_append_right _ (List.mem_append_right _ (List.mem_append_right _ (List.mem_append_right _ (List.mem_append_left _ h)))))))), hg⟩
theorem mk_sub9 {w : Jvm.Cond} (h : w ∈ tables_1_9) (hg : goodWord w = true) : w ∈ ms_gw := List.mem_filter.mpr ⟨List.mem_append_right _ (List.mem_append_right _ (List.mem_append_right _ (List.mem_append_right _ (List.mem_append_right _ (List.mem_append_right _ (List.mem_append_right _ (List.mem_append_right _ (List.mem_append_right _ (List.mem_append_left _ h))))))))), hg⟩
theorem mk_sub10 {w : Jvm.Cond} (h : w ∈ tables_1_10) (hg : goodWord w = true) : w ∈ ms_gw := List.mem_filter.mpr ⟨List.mem_append_right _ (List.mem_append_right _ (List.mem_append_right _ (List.mem_append_right _ (List.mem_append_right _ (List.mem_append_right _ (List.mem_append_right _ (List.mem_append_right _ (List.mem_append_right _ (List.mem_append_right _ (List.mem_append_left _ h)))))))))), hg⟩
theorem mk_sub11 {w : Jvm.Cond} (h : w ∈ tables_1_11) (hg : goodWord w = true) : w ∈ ms_gw := List.mem_filter.mpr ⟨List.mem_append_right _ (List.mem_append_right _ (List.mem_append_right _ (List.mem_append_right _ (List.mem_append_right _ (List.mem_append_right _ (List.mem_append_right _ (List.mem_append_right _ (List.mem_append_right _ (List.mem_append_right _ (List.mem_append_right _ (List.mem_append_left _ h))))))))))), hg⟩
theorem mk_sub12 {w : Jvm.Cond} (h : w ∈ tables_1_12) (hg : goodWord w = true) : w ∈ ms_gw := List.mem_filter.mpr ⟨List.mem_append_right _ (List.mem_append_right _ (List.mem_append_right _ (List.mem_append_right _ (List.mem_append_right _ (List.mem_append_right _ (List.mem_append_right _ (List.mem_append_right _ (List.mem_append_right _ (List.mem_append_right _ (List.mem_append_right _ (List.mem_append_right _ (List.mem_append_left _ h)))))))))))), hg⟩
theorem mk_sub13 {w : Jvm.Cond} (h : w ∈ tables_1_13) (hg : goodWord w = true) : w ∈ ms_gw := List.mem_filter.mpr ⟨List.mem_append_right _ (List.mem_append_right _ (List.mem_append_right _ (List.mem_append_right _ (List.mem_append_right _ (List.mem_append_right _ (List.mem_append_right _ (List.mem_append_right _ (List.mem_append_right _ (List.mem_append_right _ (List.mem_append_right _ (List.mem_append_right _ (List.mem_append_right _ (h))))))))))))), hg⟩
theorem mk_pr1 {w : MethodName × Nat} (h : w ∈ lw_privs_1) : Jvm.Cond.selects w.1.cls w.1 w.1 ∈ ms_gw := List.mem_filter.mpr ⟨List.mem_append_left _ (List.mem_map.mpr ⟨w, List.mem_append_left _ h, rfl⟩), rfl⟩
theorem mk_pr2 {w : MethodName × Nat} (h : w ∈ lw_privs_2) : Jvm.Cond.selects w.1.cls w.1 w.1 ∈ ms_gw := List.mem_filter.mpr ⟨List.mem_append_left _ (List.mem_map.mpr ⟨w, List.mem_append_right _ (List.mem_append_left _ h), rfl⟩), rfl⟩
theorem mk_pr3 {w : MethodName × Nat} (h : w ∈ lw_privs_3) : Jvm.Cond.selects w.1.cls w.1 w.1 ∈ ms_gw := List.mem_filter.mpr ⟨List.mem_append_left _ (List.mem_map.mpr ⟨w, List.mem_append_right _ (List.mem_append_right _ (List.mem_append_left _ h)), rfl⟩), rfl⟩
theorem mk_pr4 {w : MethodName × Nat} (h : w ∈ lw_privs_4) : Jvm.Cond.selects w.1.cls w.1 w.1 ∈ ms_gw := List.mem_filter.mpr ⟨List.mem_append_left _ (List.mem_map.mpr ⟨w, List.mem_append_right _ (List.mem_append_right _ (List.mem_append_right _ (List.mem_append_left _ h))), rfl⟩), rfl⟩
theorem mk_pr5 {w : MethodName × Nat} (h : w ∈ lw_privs_5) : Jvm.Cond.selects w.1.cls w.1 w.1 ∈ ms_gw := List.mem_filter.mpr ⟨List.mem_append_left _ (List.mem_map.mpr ⟨w, List.mem_append_right _ (List.mem_append_right _ (List.mem_append_right _ (List.mem_append_right _ (List.mem_append_left _ h)))), rfl⟩), rfl⟩
theorem mk_pr6 {w : MethodName × Nat} (h : w ∈ lw_privs_6) : Jvm.Cond.selects w.1.cls w.1 w.1 ∈ ms_gw := List.mem_filter.mpr ⟨List.mem_append_left _ (List.mem_map.mpr ⟨w, List.mem_append_right _ (List.mem_append_right _ (List.mem_append_right _ (List.mem_append_right _ (List.mem_append_right _ (List.mem_append_left _ h))))), rfl⟩), rfl⟩
theorem mk_pr7 {w : MethodName × Nat} (h : w ∈ lw_privs_7) : Jvm.Cond.selects w.1.cls w.1 w.1 ∈ ms_gw := List.mem_filter.mpr ⟨List.mem_append_left _ (List.mem_map.mpr ⟨w, List.mem_append_right _ (List.mem_append_right _ (List.mem_append_right _ (List.mem_append_right _ (List.mem_append_right _ (List.mem_append_right _ (List.mem_append_left _ h)))))), rfl⟩), rfl⟩
theorem mk_pr8 {w : MethodName × Nat} (h : w ∈ lw_privs_8) : Jvm.Cond.selects w.1.cls w.1 w.1 ∈ ms_gw := List.mem_filter.mpr ⟨List.mem_append_left _ (List.mem_map.mpr ⟨w, List.mem_append_right _ (List.mem_append_right _ (List.mem_append_right _ (List.mem_append_right _ (List.mem_append_right _ (List.mem_append_right _ (List.mem_append_right _ (List.mem_append_left _ h))))))), rfl⟩), rfl⟩
theorem mk_pr9 {w : MethodName × Nat} (h : w ∈ lw_privs_9) : Jvm.Cond.selects w.1.cls w.1 w.1 ∈ ms_gw := List.mem_filter.mpr ⟨List.mem_append_left _ (List.mem_map.mpr ⟨w, List.mem_append_right _ (List.mem_append_right _ (List.mem_append_right _ (List.mem_append_right _ (List.mem_append_right _ (List.mem_append_right _ (List.mem_append_right _ (List.mem_append_right _ (List.mem_append_left _ h)))))))), rfl⟩), rfl⟩
theorem mk_pr10 {w : MethodName × Nat} (h : w ∈ lw_privs_10) : Jvm.Cond.selects w.1.cls w.1 w.1 ∈ ms_gw := List.mem_filter.mpr ⟨List.mem_append_left _ (List.mem_map.mpr ⟨w, List.mem_append_right _ (List.mem_append_right _ (List.mem_append_right _ (List.mem_append_right _ (List.mem_append_right _ (List.mem_append_right _ (List.mem_append_right _ (List.mem_append_right _ (List.mem_append_right _ (List.mem_append_left _ h))))))))), rfl⟩), rfl⟩
theorem mk_pr11 {w : MethodName × Nat} (h : w ∈ lw_privs_11) : Jvm.Cond.selects w.1.cls w.1 w.1 ∈ ms_gw := List.mem_filter.mpr ⟨List.mem_append_left _ (List.mem_map.mpr ⟨w, List.mem_append_right _ (List.mem_append_right _ (List.mem_append_right _ (List.mem_append_right _ (List.mem_append_right _ (List.mem_append_right _ (List.mem_append_right _ (List.mem_append_right _ (List.mem_append_right _ (List.mem_append_right _ (List.mem_append_left _ h)))))))))), rfl⟩), rfl⟩
theorem mk_pr12 {w : MethodName × Nat} (h : w ∈ lw_privs_12) : Jvm.Cond.selects w.1.cls w.1 w.1 ∈ ms_gw := List.mem_filter.mpr ⟨List.mem_append_left _ (List.mem_map.mpr ⟨w, List.mem_append_right _ (List.mem_append_right _ (List.mem_append_right _ (List.mem_append_right _ (List.mem_append_right _ (List.mem_append_right _ (List.mem_append_right _ (List.mem_append_right _ (List.mem_append_right _ (List.mem_append_right _ (List.mem_append_right _ (List.mem_append_left _ h))))))))))), rfl⟩), rfl⟩
theorem mk_pr13 {w : MethodName × Nat} (h : w ∈ lw_privs_13) : Jvm.Cond.selects w.1.cls w.1 w.1 ∈ ms_gw := List.mem_filter.mpr ⟨List.mem_append_left _ (List.mem_map.mpr ⟨w, List.mem_append_right _ (List.mem_append_right _ (List.mem_append_right _ (List.mem_append_right _ (List.mem_append_right _ (List.mem_append_right _ (List.mem_append_right _ (List.mem_append_right _ (List.mem_append_right _ (List.mem_append_right _ (List.mem_append_right _ (List.mem_append_right _ (List.mem_append_left _ h)))))))))))), rfl⟩), rfl⟩
theorem mk_pr14 {w : MethodName × Nat} (h : w ∈ lw_privs_14) : Jvm.Cond.selects w.1.cls w.1 w.1 ∈ ms_gw := List.mem_filter.mpr ⟨List.mem_append_left _ (List.mem_map.mpr ⟨w, List.mem_append_right _ (List.mem_append_right _ (List.mem_append_right _ (List.mem_append_right _ (List.mem_append_right _ (List.mem_append_right _ (List.mem_append_right _ (List.mem_append_right _ (List.mem_append_right _ (List.mem_append_right _ (List.mem_append_right _ (List.mem_append_right _ (List.mem_append_right _ (List.mem_append_left _ h))))))))))))), rfl⟩), rfl⟩
theorem mk_pr15 {w : MethodName × Nat} (h : w ∈ lw_privs_15) : Jvm.Cond.selects w.1.cls w.1 w.1 ∈ ms_gw := List.mem_filter.mpr ⟨List.mem_append_left _ (List.mem_map.mpr ⟨w, List.mem_append_right _ (List.mem_append_right _ (List.mem_append_right _ (List.mem_append_right _ (List.mem_append_right _ (List.mem_append_right _ (List.mem_append_right _ (List.mem_append_right _ (List.mem_append_right _ (List.mem_append_right _ (List.mem_append_right _ (List.mem_append_right _ (List.mem_append_right _ (List.mem_append_right _ (h)))))))))))))), rfl⟩), rfl⟩
theorem mk_tb {w : Jvm.Cond} (h : w ∈ ms_gw) : w ∈ ms_tb := List.mem_append_left _ h
set_option maxRecDepth 100000 in
theorem mk_ca0 : ms_callee mc_M 0 2 := ⟨mk_sub3 (List.mem_of_getElem? (i := 19) rfl) rfl, mk_tb (mk_sub1 (List.mem_of_getElem? (i := 12) rfl) rfl), by decide +kernel, by decide +kernel, by decide +kernel, by decide +kernel, by decide +kernel⟩
set_option maxRecDepth 100000 in
theorem mk_im0 : Jvm.Cond.instanceMethod (mc_M 0).1 ∈ ms_tb := mk_tb (mk_sub3 (List.mem_of_getElem? (i := 18) rfl) rfl)
set_option maxRecDepth 100000 in
theorem mk_ca1 : ms_callee mc_M 1 0 := ⟨mk_sub3 (List.mem_of_getElem? (i := 140) rfl) rfl, mk_tb (mk_sub1 (List.mem_of_getElem? (i := 12) rfl) rfl), by decide +kernel, by decide +kernel, by decide +kernel, by decide +kernel, by decide +kernel⟩
set_option maxRecDepth 100000 in
theorem mk_im1 : Jvm.Cond.instanceMethod (mc_M 1).1 ∈ ms_tb := mk_tb (mk_sub3 (List.mem_of_getElem? (i := 138) rfl) rfl)
set_option maxRecDepth 100000 in
theorem mk_se1 : Jvm.Cond.selects (mc_M 1).1.cls (mc_M 1).1 (mc_M 1).1 ∈ ms_tb := mk_tb (mk_sub3 (List.mem_of_getElem? (i := 139) rfl) rfl)
set_option maxRecDepth 100000 in
theorem mk_ca2 : ms_callee mc_M 2 1 := ⟨mk_sub3 (List.mem_of_getElem? (i := 149) rfl) rfl, mk_tb (mk_sub1 (List.mem_of_getElem? (i := 12) rfl) rfl), by decide +kernel, by decide +kernel, by decide +kernel, by decide +kernel, by decide +kernel⟩
set_option maxRecDepth 100000 in
theorem mk_im2 : Jvm.Cond.instanceMethod (mc_M 2).1 ∈ ms_tb := mk_tb (mk_sub3 (List.mem_of_getElem? (i := 148) rfl) rfl)
set_option maxRecDepth 100000 in
theorem mk_se2 : Jvm.Cond.selects (mc_M 2).1.cls (mc_M 2).1 (mc_M 2).1 ∈ ms_tb := mk_tb (mk_pr1 (w := (⟨"InvariantDesk$Analysis", "limitOf", "(I)I"⟩, 17)) (List.mem_of_getElem? (i := 0) rfl))
set_option maxRecDepth 100000 in
theorem mk_ca3 : ms_callee mc_M 3 1 := ⟨mk_sub4 (List.mem_of_getElem? (i := 15) rfl) rfl, mk_tb (mk_sub1 (List.mem_of_getElem? (i := 12) rfl) rfl), by decide +kernel, by decide +kernel, by decide +kernel, by decide +kernel, by decide +kernel⟩
set_option maxRecDepth 100000 in
theorem mk_im3 : Jvm.Cond.instanceMethod (mc_M 3).1 ∈ ms_tb := mk_tb (mk_sub4 (List.mem_of_getElem? (i := 14) rfl) rfl)
set_option maxRecDepth 100000 in
theorem mk_se3 : Jvm.Cond.selects (mc_M 3).1.cls (mc_M 3).1 (mc_M 3).1 ∈ ms_tb := mk_tb (mk_pr1 (w := (⟨"InvariantDesk$Analysis", "skip", "(I)V"⟩, 17)) (List.mem_of_getElem? (i := 11) rfl))
set_option maxRecDepth 100000 in
theorem mk_ca4 : ms_callee mc_M 4 0 := ⟨mk_sub4 (List.mem_of_getElem? (i := 19) rfl) rfl, mk_tb (mk_sub1 (List.mem_of_getElem? (i := 12) rfl) rfl), by decide +kernel, by decide +kernel, by decide +kernel, by decide +kernel, by decide +kernel⟩
set_option maxRecDepth 100000 in
theorem mk_im4 : Jvm.Cond.instanceMethod (mc_M 4).1 ∈ ms_tb := mk_tb (mk_sub4 (List.mem_of_getElem? (i := 18) rfl) rfl)
set_option maxRecDepth 100000 in
theorem mk_se4 : Jvm.Cond.selects (mc_M 4).1.cls (mc_M 4).1 (mc_M 4).1 ∈ ms_tb := mk_tb (mk_pr1 (w := (⟨"InvariantDesk$Analysis", "look", "()V"⟩, 17)) (List.mem_of_getElem? (i := 12) rfl))
set_option maxRecDepth 100000 in
theorem mk_ca5 : ms_callee mc_M 5 1 := ⟨mk_sub4 (List.mem_of_getElem? (i := 27) rfl) rfl, mk_tb (mk_sub1 (List.mem_of_getElem? (i := 12) rfl) rfl), by decide +kernel, by decide +kernel, by decide +kernel, by decide +kernel, by decide +kernel⟩
set_option maxRecDepth 100000 in
theorem mk_im5 : Jvm.Cond.instanceMethod (mc_M 5).1 ∈ ms_tb := mk_tb (mk_sub4 (List.mem_of_getElem? (i := 26) rfl) rfl)
set_option maxRecDepth 100000 in
theorem mk_se5 : Jvm.Cond.selects (mc_M 5).1.cls (mc_M 5).1 (mc_M 5).1 ∈ ms_tb := mk_tb (mk_pr1 (w := (⟨"InvariantDesk$Analysis", "openBlocks", "(I)V"⟩, 17)) (List.mem_of_getElem? (i := 13) rfl))
set_option maxRecDepth 100000 in
theorem mk_ca6 : ms_callee mc_M 6 0 := ⟨mk_sub3 (List.mem_of_getElem? (i := 153) rfl) rfl, mk_tb (mk_sub1 (List.mem_of_getElem? (i := 12) rfl) rfl), by decide +kernel, by decide +kernel, by decide +kernel, by decide +kernel, by decide +kernel⟩
set_option maxRecDepth 100000 in
theorem mk_im6 : Jvm.Cond.instanceMethod (mc_M 6).1 ∈ ms_tb := mk_tb (mk_sub3 (List.mem_of_getElem? (i := 152) rfl) rfl)
set_option maxRecDepth 100000 in
theorem mk_se6 : Jvm.Cond.selects (mc_M 6).1.cls (mc_M 6).1 (mc_M 6).1 ∈ ms_tb := mk_tb (mk_pr1 (w := (⟨"InvariantDesk$Analysis", "shut", "()V"⟩, 17)) (List.mem_of_getElem? (i := 1) rfl))
set_option maxRecDepth 100000 in
theorem mk_ca7 : ms_callee mc_M 7 1 := ⟨mk_sub3 (List.mem_of_getElem? (i := 173) rfl) rfl, mk_tb (mk_sub1 (List.mem_of_getElem? (i := 12) rfl) rfl), by decide +kernel, by decide +kernel, by decide +kernel, by decide +kernel, by decide +kernel⟩
set_option maxRecDepth 100000 in
theorem mk_im7 : Jvm.Cond.instanceMethod (mc_M 7).1 ∈ ms_tb := mk_tb (mk_sub3 (List.mem_of_getElem? (i := 172) rfl) rfl)
set_option maxRecDepth 100000 in
theorem mk_se7 : Jvm.Cond.selects (mc_M 7).1.cls (mc_M 7).1 (mc_M 7).1 ∈ ms_tb := mk_tb (mk_pr1 (w := (⟨"InvariantDesk$Analysis", "swapKept", "(I)V"⟩, 17)) (List.mem_of_getElem? (i := 3) rfl))
set_option maxRecDepth 100000 in
theorem mk_ca8 : ms_callee mc_M 8 1 := ⟨mk_sub3 (List.mem_of_getElem? (i := 169) rfl) rfl, mk_tb (mk_sub1 (List.mem_of_getElem? (i := 12) rfl) rfl), by decide +kernel, by decide +kernel, by decide +kernel, by decide +kernel, by decide +kernel⟩
set_option maxRecDepth 100000 in
theorem mk_im8 : Jvm.Cond.instanceMethod (mc_M 8).1 ∈ ms_tb := mk_tb (mk_sub3 (List.mem_of_getElem? (i := 168) rfl) rfl)
set_option maxRecDepth 100000 in
theorem mk_se8 : Jvm.Cond.selects (mc_M 8).1.cls (mc_M 8).1 (mc_M 8).1 ∈ ms_tb := mk_tb (mk_pr1 (w := (⟨"InvariantDesk$Analysis", "endRound", "(I)V"⟩, 17)) (List.mem_of_getElem? (i := 2) rfl))
set_option maxRecDepth 100000 in
theorem mk_ca9 : ms_callee mc_M 9 1 := ⟨mk_sub3 (List.mem_of_getElem? (i := 214) rfl) rfl, mk_tb (mk_sub1 (List.mem_of_getElem? (i := 12) rfl) rfl), by decide +kernel, by decide +kernel, by decide +kernel, by decide +kernel, by decide +kernel⟩
set_option maxRecDepth 100000 in
theorem mk_im9 : Jvm.Cond.instanceMethod (mc_M 9).1 ∈ ms_tb := mk_tb (mk_sub3 (List.mem_of_getElem? (i := 213) rfl) rfl)
set_option maxRecDepth 100000 in
theorem mk_se9 : Jvm.Cond.selects (mc_M 9).1.cls (mc_M 9).1 (mc_M 9).1 ∈ ms_tb := mk_tb (mk_pr1 (w := (⟨"InvariantDesk$Analysis", "climb", "(I)V"⟩, 17)) (List.mem_of_getElem? (i := 7) rfl))
set_option maxRecDepth 100000 in
theorem mk_ca10 : ms_callee mc_M 10 1 := ⟨mk_sub3 (List.mem_of_getElem? (i := 201) rfl) rfl, mk_tb (mk_sub1 (List.mem_of_getElem? (i := 12) rfl) rfl), by decide +kernel, by decide +kernel, by decide +kernel, by decide +kernel, by decide +kernel⟩
set_option maxRecDepth 100000 in
theorem mk_im10 : Jvm.Cond.instanceMethod (mc_M 10).1 ∈ ms_tb := mk_tb (mk_sub3 (List.mem_of_getElem? (i := 200) rfl) rfl)
set_option maxRecDepth 100000 in
theorem mk_se10 : Jvm.Cond.selects (mc_M 10).1.cls (mc_M 10).1 (mc_M 10).1 ∈ ms_tb := mk_tb (mk_pr1 (w := (⟨"InvariantDesk$Analysis", "tryLess", "(I)V"⟩, 17)) (List.mem_of_getElem? (i := 5) rfl))
set_option maxRecDepth 100000 in
theorem mk_ca11 : ms_callee mc_M 11 1 := ⟨mk_sub3 (List.mem_of_getElem? (i := 210) rfl) rfl, mk_tb (mk_sub1 (List.mem_of_getElem? (i := 12) rfl) rfl), by decide +kernel, by decide +kernel, by decide +kernel, by decide +kernel, by decide +kernel⟩
set_option maxRecDepth 100000 in
theorem mk_im11 : Jvm.Cond.instanceMethod (mc_M 11).1 ∈ ms_tb := mk_tb (mk_sub3 (List.mem_of_getElem? (i := 209) rfl) rfl)
set_option maxRecDepth 100000 in
theorem mk_se11 : Jvm.Cond.selects (mc_M 11).1.cls (mc_M 11).1 (mc_M 11).1 ∈ ms_tb := mk_tb (mk_pr1 (w := (⟨"InvariantDesk$Analysis", "beginLast", "(I)V"⟩, 17)) (List.mem_of_getElem? (i := 6) rfl))
set_option maxRecDepth 100000 in
theorem mk_ca12 : ms_callee mc_M 12 1 := ⟨mk_sub2 (List.mem_of_getElem? (i := 112) rfl) rfl, mk_tb (mk_sub1 (List.mem_of_getElem? (i := 9) rfl) rfl), by decide +kernel, by decide +kernel, by decide +kernel, by decide +kernel, by decide +kernel⟩
set_option maxRecDepth 100000 in
theorem mk_im12 : Jvm.Cond.instanceMethod (mc_M 12).1 ∈ ms_tb := mk_tb (mk_sub2 (List.mem_of_getElem? (i := 111) rfl) rfl)
set_option maxRecDepth 100000 in
theorem mk_ca13 : ms_callee mc_M 13 2 := ⟨mk_sub4 (List.mem_of_getElem? (i := 154) rfl) rfl, mk_tb (mk_sub1 (List.mem_of_getElem? (i := 9) rfl) rfl), by decide +kernel, by decide +kernel, by decide +kernel, by decide +kernel, by decide +kernel⟩
set_option maxRecDepth 100000 in
theorem mk_im13 : Jvm.Cond.instanceMethod (mc_M 13).1 ∈ ms_tb := mk_tb (mk_sub4 (List.mem_of_getElem? (i := 152) rfl) rfl)
set_option maxRecDepth 100000 in
theorem mk_se13 : Jvm.Cond.selects (mc_M 13).1.cls (mc_M 13).1 (mc_M 13).1 ∈ ms_tb := mk_tb (mk_sub4 (List.mem_of_getElem? (i := 153) rfl) rfl)
set_option maxRecDepth 100000 in
theorem mk_ca14 : ms_callee mc_M 14 1 := ⟨mk_sub4 (List.mem_of_getElem? (i := 158) rfl) rfl, mk_tb (mk_sub1 (List.mem_of_getElem? (i := 9) rfl) rfl), by decide +kernel, by decide +kernel, by decide +kernel, by decide +kernel, by decide +kernel⟩
set_option maxRecDepth 100000 in
theorem mk_im14 : Jvm.Cond.instanceMethod (mc_M 14).1 ∈ ms_tb := mk_tb (mk_sub4 (List.mem_of_getElem? (i := 157) rfl) rfl)
set_option maxRecDepth 100000 in
theorem mk_se14 : Jvm.Cond.selects (mc_M 14).1.cls (mc_M 14).1 (mc_M 14).1 ∈ ms_tb := mk_tb (mk_pr2 (w := (⟨"InvariantDesk$Effect", "bring", "(LInvariantDesk$Statement;)V"⟩, 9)) (List.mem_of_getElem? (i := 14) rfl))
set_option maxRecDepth 100000 in
theorem mk_ca15 : ms_callee mc_M 15 2 := ⟨mk_sub4 (List.mem_of_getElem? (i := 193) rfl) rfl, mk_tb (mk_sub1 (List.mem_of_getElem? (i := 9) rfl) rfl), by decide +kernel, by decide +kernel, by decide +kernel, by decide +kernel, by decide +kernel⟩
set_option maxRecDepth 100000 in
theorem mk_im15 : Jvm.Cond.instanceMethod (mc_M 15).1 ∈ ms_tb := mk_tb (mk_sub4 (List.mem_of_getElem? (i := 192) rfl) rfl)
set_option maxRecDepth 100000 in
theorem mk_se15 : Jvm.Cond.selects (mc_M 15).1.cls (mc_M 15).1 (mc_M 15).1 ∈ ms_tb := mk_tb (mk_pr3 (w := (⟨"InvariantDesk$Effect", "store", "(LInvariantDesk$Statement;I)V"⟩, 9)) (List.mem_of_getElem? (i := 1) rfl))
set_option maxRecDepth 100000 in
theorem mk_ca16 : ms_callee mc_M 16 2 := ⟨mk_sub4 (List.mem_of_getElem? (i := 176) rfl) rfl, mk_tb (mk_sub1 (List.mem_of_getElem? (i := 9) rfl) rfl), by decide +kernel, by decide +kernel, by decide +kernel, by decide +kernel, by decide +kernel⟩
set_option maxRecDepth 100000 in
theorem mk_im16 : Jvm.Cond.instanceMethod (mc_M 16).1 ∈ ms_tb := mk_tb (mk_sub4 (List.mem_of_getElem? (i := 175) rfl) rfl)
set_option maxRecDepth 100000 in
theorem mk_se16 : Jvm.Cond.selects (mc_M 16).1.cls (mc_M 16).1 (mc_M 16).1 ∈ ms_tb := mk_tb (mk_pr2 (w := (⟨"InvariantDesk$Effect", "set", "(II)V"⟩, 9)) (List.mem_of_getElem? (i := 15) rfl))
set_option maxRecDepth 100000 in
theorem mk_ca17 : ms_callee mc_M 17 2 := ⟨mk_sub4 (List.mem_of_getElem? (i := 35) rfl) rfl, mk_tb (mk_sub1 (List.mem_of_getElem? (i := 9) rfl) rfl), by decide +kernel, by decide +kernel, by decide +kernel, by decide +kernel, by decide +kernel⟩
set_option maxRecDepth 100000 in
theorem mk_im17 : Jvm.Cond.instanceMethod (mc_M 17).1 ∈ ms_tb := mk_tb (mk_sub4 (List.mem_of_getElem? (i := 33) rfl) rfl)
set_option maxRecDepth 100000 in
theorem mk_se17 : Jvm.Cond.selects (mc_M 17).1.cls (mc_M 17).1 (mc_M 17).1 ∈ ms_tb := mk_tb (mk_sub4 (List.mem_of_getElem? (i := 34) rfl) rfl)
set_option maxRecDepth 100000 in
theorem mk_ca18 : ms_callee mc_M 18 0 := ⟨mk_sub4 (List.mem_of_getElem? (i := 44) rfl) rfl, mk_tb (mk_sub1 (List.mem_of_getElem? (i := 9) rfl) rfl), by decide +kernel, by decide +kernel, by decide +kernel, by decide +kernel, by decide +kernel⟩
set_option maxRecDepth 100000 in
theorem mk_im18 : Jvm.Cond.instanceMethod (mc_M 18).1 ∈ ms_tb := mk_tb (mk_sub4 (List.mem_of_getElem? (i := 43) rfl) rfl)
set_option maxRecDepth 100000 in
theorem mk_se18 : Jvm.Cond.selects (mc_M 18).1.cls (mc_M 18).1 (mc_M 18).1 ∈ ms_tb := mk_tb (mk_pr1 (w := (⟨"InvariantDesk$Effect", "swapSides", "()V"⟩, 9)) (List.mem_of_getElem? (i := 14) rfl))
set_option maxRecDepth 100000 in
theorem mk_ca19 : ms_callee mc_M 19 0 := ⟨mk_sub4 (List.mem_of_getElem? (i := 48) rfl) rfl, mk_tb (mk_sub1 (List.mem_of_getElem? (i := 9) rfl) rfl), by decide +kernel, by decide +kernel, by decide +kernel, by decide +kernel, by decide +kernel⟩
set_option maxRecDepth 100000 in
theorem mk_im19 : Jvm.Cond.instanceMethod (mc_M 19).1 ∈ ms_tb := mk_tb (mk_sub4 (List.mem_of_getElem? (i := 47) rfl) rfl)
set_option maxRecDepth 100000 in
theorem mk_se19 : Jvm.Cond.selects (mc_M 19).1.cls (mc_M 19).1 (mc_M 19).1 ∈ ms_tb := mk_tb (mk_pr1 (w := (⟨"InvariantDesk$Effect", "putAside", "()V"⟩, 9)) (List.mem_of_getElem? (i := 15) rfl))
set_option maxRecDepth 100000 in
theorem mk_ca20 : ms_callee mc_M 20 1 := ⟨mk_sub4 (List.mem_of_getElem? (i := 56) rfl) rfl, mk_tb (mk_sub1 (List.mem_of_getElem? (i := 9) rfl) rfl), by decide +kernel, by decide +kernel, by decide +kernel, by decide +kernel, by decide +kernel⟩
set_option maxRecDepth 100000 in
theorem mk_im20 : Jvm.Cond.instanceMethod (mc_M 20).1 ∈ ms_tb := mk_tb (mk_sub4 (List.mem_of_getElem? (i := 55) rfl) rfl)
set_option maxRecDepth 100000 in
theorem mk_se20 : Jvm.Cond.selects (mc_M 20).1.cls (mc_M 20).1 (mc_M 20).1 ∈ ms_tb := mk_tb (mk_pr2 (w := (⟨"InvariantDesk$Effect", "joinAside", "(I)V"⟩, 9)) (List.mem_of_getElem? (i := 0) rfl))
set_option maxRecDepth 100000 in
theorem mk_ca21 : ms_callee mc_M 21 1 := ⟨mk_sub4 (List.mem_of_getElem? (i := 61) rfl) rfl, mk_tb (mk_sub1 (List.mem_of_getElem? (i := 9) rfl) rfl), by decide +kernel, by decide +kernel, by decide +kernel, by decide +kernel, by decide +kernel⟩
set_option maxRecDepth 100000 in
theorem mk_im21 : Jvm.Cond.instanceMethod (mc_M 21).1 ∈ ms_tb := mk_tb (mk_sub4 (List.mem_of_getElem? (i := 60) rfl) rfl)
set_option maxRecDepth 100000 in
theorem mk_se21 : Jvm.Cond.selects (mc_M 21).1.cls (mc_M 21).1 (mc_M 21).1 ∈ ms_tb := mk_tb (mk_pr2 (w := (⟨"InvariantDesk$Effect", "reckonBoth", "(I)Z"⟩, 9)) (List.mem_of_getElem? (i := 1) rfl))
set_option maxRecDepth 100000 in
theorem mk_ca22 : ms_callee mc_M 22 1 := ⟨mk_sub4 (List.mem_of_getElem? (i := 149) rfl) rfl, mk_tb (mk_sub1 (List.mem_of_getElem? (i := 9) rfl) rfl), by decide +kernel, by decide +kernel, by decide +kernel, by decide +kernel, by decide +kernel⟩
set_option maxRecDepth 100000 in
theorem mk_im22 : Jvm.Cond.static (mc_M 22).1 ∈ ms_tb := mk_tb (mk_sub4 (List.mem_of_getElem? (i := 148) rfl) rfl)
set_option maxRecDepth 100000 in
theorem mk_ca23 : ms_callee mc_M 23 2 := ⟨mk_sub4 (List.mem_of_getElem? (i := 132) rfl) rfl, mk_tb (mk_sub1 (List.mem_of_getElem? (i := 9) rfl) rfl), by decide +kernel, by decide +kernel, by decide +kernel, by decide +kernel, by decide +kernel⟩
set_option maxRecDepth 100000 in
theorem mk_im23 : Jvm.Cond.instanceMethod (mc_M 23).1 ∈ ms_tb := mk_tb (mk_sub4 (List.mem_of_getElem? (i := 131) rfl) rfl)
set_option maxRecDepth 100000 in
theorem mk_se23 : Jvm.Cond.selects (mc_M 23).1.cls (mc_M 23).1 (mc_M 23).1 ∈ ms_tb := mk_tb (mk_pr2 (w := (⟨"InvariantDesk$Effect", "confine", "(LInvariantDesk$State;I)V"⟩, 9)) (List.mem_of_getElem? (i := 12) rfl))
set_option maxRecDepth 100000 in
theorem mk_ca24 : ms_callee mc_M 24 3 := ⟨mk_sub4 (List.mem_of_getElem? (i := 137) rfl) rfl, mk_tb (mk_sub1 (List.mem_of_getElem? (i := 9) rfl) rfl), by decide +kernel, by decide +kernel, by decide +kernel, by decide +kernel, by decide +kernel⟩
set_option maxRecDepth 100000 in
theorem mk_im24 : Jvm.Cond.instanceMethod (mc_M 24).1 ∈ ms_tb := mk_tb (mk_sub4 (List.mem_of_getElem? (i := 136) rfl) rfl)
set_option maxRecDepth 100000 in
theorem mk_se24 : Jvm.Cond.selects (mc_M 24).1.cls (mc_M 24).1 (mc_M 24).1 ∈ ms_tb := mk_tb (mk_pr2 (w := (⟨"InvariantDesk$Effect", "meet", "(LInvariantDesk$State;IJ)V"⟩, 9)) (List.mem_of_getElem? (i := 13) rfl))
set_option maxRecDepth 100000 in
theorem mk_ca25 : ms_callee mc_M 25 1 := ⟨mk_sub3 (List.mem_of_getElem? (i := 86) rfl) rfl, mk_tb (mk_sub1 (List.mem_of_getElem? (i := 13) rfl) rfl), by decide +kernel, by decide +kernel, by decide +kernel, by decide +kernel, by decide +kernel⟩
set_option maxRecDepth 100000 in
theorem mk_im25 : Jvm.Cond.instanceMethod (mc_M 25).1 ∈ ms_tb := mk_tb (mk_sub3 (List.mem_of_getElem? (i := 85) rfl) rfl)
set_option maxRecDepth 100000 in
theorem mk_ca26 : ms_callee mc_M 26 1 := ⟨mk_sub7 (List.mem_of_getElem? (i := 190) rfl) rfl, mk_tb (mk_sub1 (List.mem_of_getElem? (i := 13) rfl) rfl), by decide +kernel, by decide +kernel, by decide +kernel, by decide +kernel, by decide +kernel⟩
set_option maxRecDepth 100000 in
theorem mk_im26 : Jvm.Cond.instanceMethod (mc_M 26).1 ∈ ms_tb := mk_tb (mk_sub7 (List.mem_of_getElem? (i := 188) rfl) rfl)
set_option maxRecDepth 100000 in
theorem mk_se26 : Jvm.Cond.selects (mc_M 26).1.cls (mc_M 26).1 (mc_M 26).1 ∈ ms_tb := mk_tb (mk_sub7 (List.mem_of_getElem? (i := 189) rfl) rfl)
set_option maxRecDepth 100000 in
theorem mk_ca27 : ms_callee mc_M 27 0 := ⟨mk_sub7 (List.mem_of_getElem? (i := 98) rfl) rfl, mk_tb (mk_sub1 (List.mem_of_getElem? (i := 13) rfl) rfl), by decide +kernel, by decide +kernel, by decide +kernel, by decide +kernel, by decide +kernel⟩
set_option maxRecDepth 100000 in
theorem mk_im27 : Jvm.Cond.instanceMethod (mc_M 27).1 ∈ ms_tb := mk_tb (mk_sub7 (List.mem_of_getElem? (i := 96) rfl) rfl)
set_option maxRecDepth 100000 in
theorem mk_se27 : Jvm.Cond.selects (mc_M 27).1.cls (mc_M 27).1 (mc_M 27).1 ∈ ms_tb := mk_tb (mk_sub7 (List.mem_of_getElem? (i := 97) rfl) rfl)
set_option maxRecDepth 100000 in
theorem mk_ca28 : ms_callee mc_M 28 3 := ⟨mk_sub7 (List.mem_of_getElem? (i := 202) rfl) rfl, mk_tb (mk_sub1 (List.mem_of_getElem? (i := 13) rfl) rfl), by decide +kernel, by decide +kernel, by decide +kernel, by decide +kernel, by decide +kernel⟩
set_option maxRecDepth 100000 in
theorem mk_im28 : Jvm.Cond.instanceMethod (mc_M 28).1 ∈ ms_tb := mk_tb (mk_sub7 (List.mem_of_getElem? (i := 200) rfl) rfl)
set_option maxRecDepth 100000 in
theorem mk_se28 : Jvm.Cond.selects (mc_M 28).1.cls (mc_M 28).1 (mc_M 28).1 ∈ ms_tb := mk_tb (mk_sub7 (List.mem_of_getElem? (i := 201) rfl) rfl)
set_option maxRecDepth 100000 in
theorem mk_ca29 : ms_callee mc_M 29 2 := ⟨mk_sub7 (List.mem_of_getElem? (i := 207) rfl) rfl, mk_tb (mk_sub1 (List.mem_of_getElem? (i := 13) rfl) rfl), by decide +kernel, by decide +kernel, by decide +kernel, by decide +kernel, by decide +kernel⟩
set_option maxRecDepth 100000 in
theorem mk_im29 : Jvm.Cond.instanceMethod (mc_M 29).1 ∈ ms_tb := mk_tb (mk_sub7 (List.mem_of_getElem? (i := 206) rfl) rfl)
set_option maxRecDepth 100000 in
theorem mk_se29 : Jvm.Cond.selects (mc_M 29).1.cls (mc_M 29).1 (mc_M 29).1 ∈ ms_tb := mk_tb (mk_pr6 (w := (⟨"InvariantDesk$Machine", "arrive", "(LInvariantDesk$Analysis;[LInvariantDesk$State;)V"⟩, 13)) (List.mem_of_getElem? (i := 13) rfl))
set_option maxRecDepth 100000 in
theorem mk_ca30 : ms_callee mc_M 30 1 := ⟨mk_sub7 (List.mem_of_getElem? (i := 215) rfl) rfl, mk_tb (mk_sub1 (List.mem_of_getElem? (i := 13) rfl) rfl), by decide +kernel, by decide +kernel, by decide +kernel, by decide +kernel, by decide +kernel⟩
set_option maxRecDepth 100000 in
theorem mk_im30 : Jvm.Cond.instanceMethod (mc_M 30).1 ∈ ms_tb := mk_tb (mk_sub7 (List.mem_of_getElem? (i := 214) rfl) rfl)
set_option maxRecDepth 100000 in
theorem mk_se30 : Jvm.Cond.selects (mc_M 30).1.cls (mc_M 30).1 (mc_M 30).1 ∈ ms_tb := mk_tb (mk_pr6 (w := (⟨"InvariantDesk$Machine", "carryOut", "(LInvariantDesk$Statement;)V"⟩, 13)) (List.mem_of_getElem? (i := 14) rfl))
set_option maxRecDepth 100000 in
theorem mk_ca31 : ms_callee mc_M 31 1 := ⟨mk_sub8 (List.mem_of_getElem? (i := 0) rfl) rfl, mk_tb (mk_sub1 (List.mem_of_getElem? (i := 13) rfl) rfl), by decide +kernel, by decide +kernel, by decide +kernel, by decide +kernel, by decide +kernel⟩
set_option maxRecDepth 100000 in
theorem mk_im31 : Jvm.Cond.instanceMethod (mc_M 31).1 ∈ ms_tb := mk_tb (mk_sub7 (List.mem_of_getElem? (i := 239) rfl) rfl)
set_option maxRecDepth 100000 in
theorem mk_se31 : Jvm.Cond.selects (mc_M 31).1.cls (mc_M 31).1 (mc_M 31).1 ∈ ms_tb := mk_tb (mk_pr7 (w := (⟨"InvariantDesk$Machine", "fail", "(I)V"⟩, 13)) (List.mem_of_getElem? (i := 4) rfl))
set_option maxRecDepth 100000 in
theorem mk_ca32 : ms_callee mc_M 32 2 := ⟨mk_sub8 (List.mem_of_getElem? (i := 14) rfl) rfl, mk_tb (mk_sub1 (List.mem_of_getElem? (i := 13) rfl) rfl), by decide +kernel, by decide +kernel, by decide +kernel, by decide +kernel, by decide +kernel⟩
set_option maxRecDepth 100000 in
theorem mk_im32 : Jvm.Cond.instanceMethod (mc_M 32).1 ∈ ms_tb := mk_tb (mk_sub8 (List.mem_of_getElem? (i := 13) rfl) rfl)
set_option maxRecDepth 100000 in
theorem mk_se32 : Jvm.Cond.selects (mc_M 32).1.cls (mc_M 32).1 (mc_M 32).1 ∈ ms_tb := mk_tb (mk_pr7 (w := (⟨"InvariantDesk$Machine", "put", "(II)V"⟩, 13)) (List.mem_of_getElem? (i := 7) rfl))
set_option maxRecDepth 100000 in
theorem mk_ca33 : ms_callee mc_M 33 1 := ⟨mk_sub7 (List.mem_of_getElem? (i := 219) rfl) rfl, mk_tb (mk_sub1 (List.mem_of_getElem? (i := 13) rfl) rfl), by decide +kernel, by decide +kernel, by decide +kernel, by decide +kernel, by decide +kernel⟩
set_option maxRecDepth 100000 in
theorem mk_im33 : Jvm.Cond.instanceMethod (mc_M 33).1 ∈ ms_tb := mk_tb (mk_sub7 (List.mem_of_getElem? (i := 218) rfl) rfl)
set_option maxRecDepth 100000 in
theorem mk_se33 : Jvm.Cond.selects (mc_M 33).1.cls (mc_M 33).1 (mc_M 33).1 ∈ ms_tb := mk_tb (mk_pr6 (w := (⟨"InvariantDesk$Machine", "declare", "(LInvariantDesk$Statement;)V"⟩, 13)) (List.mem_of_getElem? (i := 15) rfl))
set_option maxRecDepth 100000 in
theorem mk_ca34 : ms_callee mc_M 34 1 := ⟨mk_sub8 (List.mem_of_getElem? (i := 19) rfl) rfl, mk_tb (mk_sub1 (List.mem_of_getElem? (i := 13) rfl) rfl), by decide +kernel, by decide +kernel, by decide +kernel, by decide +kernel, by decide +kernel⟩
set_option maxRecDepth 100000 in
theorem mk_im34 : Jvm.Cond.instanceMethod (mc_M 34).1 ∈ ms_tb := mk_tb (mk_sub8 (List.mem_of_getElem? (i := 18) rfl) rfl)
set_option maxRecDepth 100000 in
theorem mk_se34 : Jvm.Cond.selects (mc_M 34).1.cls (mc_M 34).1 (mc_M 34).1 ∈ ms_tb := mk_tb (mk_pr7 (w := (⟨"InvariantDesk$Machine", "store", "(LInvariantDesk$Statement;)V"⟩, 13)) (List.mem_of_getElem? (i := 8) rfl))
set_option maxRecDepth 100000 in
theorem mk_ca35 : ms_callee mc_M 35 1 := ⟨mk_sub8 (List.mem_of_getElem? (i := 24) rfl) rfl, mk_tb (mk_sub1 (List.mem_of_getElem? (i := 13) rfl) rfl), by decide +kernel, by decide +kernel, by decide +kernel, by decide +kernel, by decide +kernel⟩
set_option maxRecDepth 100000 in
theorem mk_im35 : Jvm.Cond.instanceMethod (mc_M 35).1 ∈ ms_tb := mk_tb (mk_sub8 (List.mem_of_getElem? (i := 23) rfl) rfl)
set_option maxRecDepth 100000 in
theorem mk_se35 : Jvm.Cond.selects (mc_M 35).1.cls (mc_M 35).1 (mc_M 35).1 ∈ ms_tb := mk_tb (mk_pr7 (w := (⟨"InvariantDesk$Machine", "holds", "(LInvariantDesk$Statement;)Z"⟩, 13)) (List.mem_of_getElem? (i := 9) rfl))
set_option maxRecDepth 100000 in
theorem mk_ca36 : ms_callee mc_M 36 3 := ⟨mk_sub8 (List.mem_of_getElem? (i := 28) rfl) rfl, mk_tb (mk_sub1 (List.mem_of_getElem? (i := 13) rfl) rfl), by decide +kernel, by decide +kernel, by decide +kernel, by decide +kernel, by decide +kernel⟩
set_option maxRecDepth 100000 in
theorem mk_im36 : Jvm.Cond.static (mc_M 36).1 ∈ ms_tb := mk_tb (mk_sub8 (List.mem_of_getElem? (i := 27) rfl) rfl)
set_option maxRecDepth 100000 in
theorem mk_ca37 : ms_callee mc_M 37 1 := ⟨mk_sub7 (List.mem_of_getElem? (i := 224) rfl) rfl, mk_tb (mk_sub1 (List.mem_of_getElem? (i := 13) rfl) rfl), by decide +kernel, by decide +kernel, by decide +kernel, by decide +kernel, by decide +kernel⟩
set_option maxRecDepth 100000 in
theorem mk_im37 : Jvm.Cond.instanceMethod (mc_M 37).1 ∈ ms_tb := mk_tb (mk_sub7 (List.mem_of_getElem? (i := 223) rfl) rfl)
set_option maxRecDepth 100000 in
theorem mk_se37 : Jvm.Cond.selects (mc_M 37).1.cls (mc_M 37).1 (mc_M 37).1 ∈ ms_tb := mk_tb (mk_pr7 (w := (⟨"InvariantDesk$Machine", "reckon", "(I)I"⟩, 13)) (List.mem_of_getElem? (i := 0) rfl))
set_option maxRecDepth 100000 in
theorem mk_ca38 : ms_callee mc_M 38 1 := ⟨mk_sub7 (List.mem_of_getElem? (i := 228) rfl) rfl, mk_tb (mk_sub1 (List.mem_of_getElem? (i := 13) rfl) rfl), by decide +kernel, by decide +kernel, by decide +kernel, by decide +kernel, by decide +kernel⟩
set_option maxRecDepth 100000 in
theorem mk_im38 : Jvm.Cond.instanceMethod (mc_M 38).1 ∈ ms_tb := mk_tb (mk_sub7 (List.mem_of_getElem? (i := 227) rfl) rfl)
set_option maxRecDepth 100000 in
theorem mk_se38 : Jvm.Cond.selects (mc_M 38).1.cls (mc_M 38).1 (mc_M 38).1 ∈ ms_tb := mk_tb (mk_pr7 (w := (⟨"InvariantDesk$Machine", "push", "(I)V"⟩, 13)) (List.mem_of_getElem? (i := 1) rfl))
set_option maxRecDepth 100000 in
theorem mk_ca39 : ms_callee mc_M 39 1 := ⟨mk_sub8 (List.mem_of_getElem? (i := 4) rfl) rfl, mk_tb (mk_sub1 (List.mem_of_getElem? (i := 13) rfl) rfl), by decide +kernel, by decide +kernel, by decide +kernel, by decide +kernel, by decide +kernel⟩
set_option maxRecDepth 100000 in
theorem mk_im39 : Jvm.Cond.instanceMethod (mc_M 39).1 ∈ ms_tb := mk_tb (mk_sub8 (List.mem_of_getElem? (i := 3) rfl) rfl)
set_option maxRecDepth 100000 in
theorem mk_se39 : Jvm.Cond.selects (mc_M 39).1.cls (mc_M 39).1 (mc_M 39).1 ∈ ms_tb := mk_tb (mk_pr7 (w := (⟨"InvariantDesk$Machine", "pushInt", "(J)V"⟩, 13)) (List.mem_of_getElem? (i := 5) rfl))
set_option maxRecDepth 100000 in
theorem mk_ca40 : ms_callee mc_M 40 2 := ⟨mk_sub7 (List.mem_of_getElem? (i := 232) rfl) rfl, mk_tb (mk_sub1 (List.mem_of_getElem? (i := 13) rfl) rfl), by decide +kernel, by decide +kernel, by decide +kernel, by decide +kernel, by decide +kernel⟩
set_option maxRecDepth 100000 in
theorem mk_im40 : Jvm.Cond.instanceMethod (mc_M 40).1 ∈ ms_tb := mk_tb (mk_sub7 (List.mem_of_getElem? (i := 231) rfl) rfl)
set_option maxRecDepth 100000 in
theorem mk_se40 : Jvm.Cond.selects (mc_M 40).1.cls (mc_M 40).1 (mc_M 40).1 ∈ ms_tb := mk_tb (mk_pr7 (w := (⟨"InvariantDesk$Machine", "nextInput", "(II)I"⟩, 13)) (List.mem_of_getElem? (i := 2) rfl))
set_option maxRecDepth 100000 in
theorem mk_ca41 : ms_callee mc_M 41 2 := ⟨mk_sub7 (List.mem_of_getElem? (i := 236) rfl) rfl, mk_tb (mk_sub1 (List.mem_of_getElem? (i := 13) rfl) rfl), by decide +kernel, by decide +kernel, by decide +kernel, by decide +kernel, by decide +kernel⟩
set_option maxRecDepth 100000 in
theorem mk_im41 : Jvm.Cond.instanceMethod (mc_M 41).1 ∈ ms_tb := mk_tb (mk_sub7 (List.mem_of_getElem? (i := 235) rfl) rfl)
set_option maxRecDepth 100000 in
theorem mk_se41 : Jvm.Cond.selects (mc_M 41).1.cls (mc_M 41).1 (mc_M 41).1 ∈ ms_tb := mk_tb (mk_pr7 (w := (⟨"InvariantDesk$Machine", "takePlace", "(II)V"⟩, 13)) (List.mem_of_getElem? (i := 3) rfl))
set_option maxRecDepth 100000 in
theorem mk_ca42 : ms_callee mc_M 42 3 := ⟨mk_sub8 (List.mem_of_getElem? (i := 10) rfl) rfl, mk_tb (mk_sub1 (List.mem_of_getElem? (i := 13) rfl) rfl), by decide +kernel, by decide +kernel, by decide +kernel, by decide +kernel, by decide +kernel⟩
set_option maxRecDepth 100000 in
theorem mk_im42 : Jvm.Cond.instanceMethod (mc_M 42).1 ∈ ms_tb := mk_tb (mk_sub8 (List.mem_of_getElem? (i := 9) rfl) rfl)
set_option maxRecDepth 100000 in
theorem mk_se42 : Jvm.Cond.selects (mc_M 42).1.cls (mc_M 42).1 (mc_M 42).1 ∈ ms_tb := mk_tb (mk_pr7 (w := (⟨"InvariantDesk$Machine", "operate", "(IJJ)V"⟩, 13)) (List.mem_of_getElem? (i := 6) rfl))
set_option maxRecDepth 100000 in
theorem mk_ca43 : ms_callee mc_M 43 2 := ⟨mk_sub5 (List.mem_of_getElem? (i := 206) rfl) rfl, mk_tb (mk_sub1 (List.mem_of_getElem? (i := 22) rfl) rfl), by decide +kernel, by decide +kernel, by decide +kernel, by decide +kernel, by decide +kernel⟩
set_option maxRecDepth 100000 in
theorem mk_im43 : Jvm.Cond.instanceMethod (mc_M 43).1 ∈ ms_tb := mk_tb (mk_sub5 (List.mem_of_getElem? (i := 205) rfl) rfl)
set_option maxRecDepth 100000 in
theorem mk_ca44 : ms_callee mc_M 44 0 := ⟨mk_sub6 (List.mem_of_getElem? (i := 52) rfl) rfl, mk_tb (mk_sub1 (List.mem_of_getElem? (i := 22) rfl) rfl), by decide +kernel, by decide +kernel, by decide +kernel, by decide +kernel, by decide +kernel⟩
set_option maxRecDepth 100000 in
theorem mk_im44 : Jvm.Cond.instanceMethod (mc_M 44).1 ∈ ms_tb := mk_tb (mk_sub6 (List.mem_of_getElem? (i := 50) rfl) rfl)
set_option maxRecDepth 100000 in
theorem mk_se44 : Jvm.Cond.selects (mc_M 44).1.cls (mc_M 44).1 (mc_M 44).1 ∈ ms_tb := mk_tb (mk_sub6 (List.mem_of_getElem? (i := 51) rfl) rfl)
set_option maxRecDepth 100000 in
theorem mk_ca45 : ms_callee mc_M 45 1 := ⟨mk_sub6 (List.mem_of_getElem? (i := 56) rfl) rfl, mk_tb (mk_sub1 (List.mem_of_getElem? (i := 22) rfl) rfl), by decide +kernel, by decide +kernel, by decide +kernel, by decide +kernel, by decide +kernel⟩
set_option maxRecDepth 100000 in
theorem mk_im45 : Jvm.Cond.instanceMethod (mc_M 45).1 ∈ ms_tb := mk_tb (mk_sub6 (List.mem_of_getElem? (i := 55) rfl) rfl)
set_option maxRecDepth 100000 in
theorem mk_se45 : Jvm.Cond.selects (mc_M 45).1.cls (mc_M 45).1 (mc_M 45).1 ∈ ms_tb := mk_tb (mk_pr3 (w := (⟨"InvariantDesk$Parser", "ask", "(I)V"⟩, 14)) (List.mem_of_getElem? (i := 11) rfl))
set_option maxRecDepth 100000 in
theorem mk_ca46 : ms_callee mc_M 46 2 := ⟨mk_sub6 (List.mem_of_getElem? (i := 60) rfl) rfl, mk_tb (mk_sub1 (List.mem_of_getElem? (i := 22) rfl) rfl), by decide +kernel, by decide +kernel, by decide +kernel, by decide +kernel, by decide +kernel⟩
set_option maxRecDepth 100000 in
theorem mk_im46 : Jvm.Cond.instanceMethod (mc_M 46).1 ∈ ms_tb := mk_tb (mk_sub6 (List.mem_of_getElem? (i := 59) rfl) rfl)
set_option maxRecDepth 100000 in
theorem mk_se46 : Jvm.Cond.selects (mc_M 46).1.cls (mc_M 46).1 (mc_M 46).1 ∈ ms_tb := mk_tb (mk_pr3 (w := (⟨"InvariantDesk$Parser", "askWith", "(II)V"⟩, 14)) (List.mem_of_getElem? (i := 12) rfl))
set_option maxRecDepth 100000 in
theorem mk_ca47 : ms_callee mc_M 47 0 := ⟨mk_sub6 (List.mem_of_getElem? (i := 69) rfl) rfl, mk_tb (mk_sub1 (List.mem_of_getElem? (i := 22) rfl) rfl), by decide +kernel, by decide +kernel, by decide +kernel, by decide +kernel, by decide +kernel⟩
set_option maxRecDepth 100000 in
theorem mk_im47 : Jvm.Cond.instanceMethod (mc_M 47).1 ∈ ms_tb := mk_tb (mk_sub6 (List.mem_of_getElem? (i := 68) rfl) rfl)
set_option maxRecDepth 100000 in
theorem mk_se47 : Jvm.Cond.selects (mc_M 47).1.cls (mc_M 47).1 (mc_M 47).1 ∈ ms_tb := mk_tb (mk_pr3 (w := (⟨"InvariantDesk$Parser", "kind", "()I"⟩, 14)) (List.mem_of_getElem? (i := 14) rfl))
set_option maxRecDepth 100000 in
theorem mk_ca48 : ms_callee mc_M 48 1 := ⟨mk_sub6 (List.mem_of_getElem? (i := 146) rfl) rfl, mk_tb (mk_sub1 (List.mem_of_getElem? (i := 22) rfl) rfl), by decide +kernel, by decide +kernel, by decide +kernel, by decide +kernel, by decide +kernel⟩
set_option maxRecDepth 100000 in
theorem mk_im48 : Jvm.Cond.instanceMethod (mc_M 48).1 ∈ ms_tb := mk_tb (mk_sub6 (List.mem_of_getElem? (i := 145) rfl) rfl)
set_option maxRecDepth 100000 in
theorem mk_se48 : Jvm.Cond.selects (mc_M 48).1.cls (mc_M 48).1 (mc_M 48).1 ∈ ms_tb := mk_tb (mk_pr4 (w := (⟨"InvariantDesk$Parser", "kindBehind", "(I)I"⟩, 14)) (List.mem_of_getElem? (i := 7) rfl))
set_option maxRecDepth 100000 in
theorem mk_ca49 : ms_callee mc_M 49 0 := ⟨mk_sub6 (List.mem_of_getElem? (i := 77) rfl) rfl, mk_tb (mk_sub1 (List.mem_of_getElem? (i := 22) rfl) rfl), by decide +kernel, by decide +kernel, by decide +kernel, by decide +kernel, by decide +kernel⟩
set_option maxRecDepth 100000 in
theorem mk_im49 : Jvm.Cond.instanceMethod (mc_M 49).1 ∈ ms_tb := mk_tb (mk_sub6 (List.mem_of_getElem? (i := 76) rfl) rfl)
set_option maxRecDepth 100000 in
theorem mk_se49 : Jvm.Cond.selects (mc_M 49).1.cls (mc_M 49).1 (mc_M 49).1 ∈ ms_tb := mk_tb (mk_pr4 (w := (⟨"InvariantDesk$Parser", "here", "()I"⟩, 14)) (List.mem_of_getElem? (i := 0) rfl))
set_option maxRecDepth 100000 in
theorem mk_ca50 : ms_callee mc_M 50 0 := ⟨mk_sub6 (List.mem_of_getElem? (i := 73) rfl) rfl, mk_tb (mk_sub1 (List.mem_of_getElem? (i := 22) rfl) rfl), by decide +kernel, by decide +kernel, by decide +kernel, by decide +kernel, by decide +kernel⟩
set_option maxRecDepth 100000 in
theorem mk_im50 : Jvm.Cond.instanceMethod (mc_M 50).1 ∈ ms_tb := mk_tb (mk_sub6 (List.mem_of_getElem? (i := 72) rfl) rfl)
set_option maxRecDepth 100000 in
theorem mk_se50 : Jvm.Cond.selects (mc_M 50).1.cls (mc_M 50).1 (mc_M 50).1 ∈ ms_tb := mk_tb (mk_pr3 (w := (⟨"InvariantDesk$Parser", "refuse", "()V"⟩, 14)) (List.mem_of_getElem? (i := 15) rfl))
set_option maxRecDepth 100000 in
theorem mk_ca51 : ms_callee mc_M 51 1 := ⟨mk_sub6 (List.mem_of_getElem? (i := 65) rfl) rfl, mk_tb (mk_sub1 (List.mem_of_getElem? (i := 22) rfl) rfl), by decide +kernel, by decide +kernel, by decide +kernel, by decide +kernel, by decide +kernel⟩
set_option maxRecDepth 100000 in
theorem mk_im51 : Jvm.Cond.instanceMethod (mc_M 51).1 ∈ ms_tb := mk_tb (mk_sub6 (List.mem_of_getElem? (i := 64) rfl) rfl)
set_option maxRecDepth 100000 in
theorem mk_se51 : Jvm.Cond.selects (mc_M 51).1.cls (mc_M 51).1 (mc_M 51).1 ∈ ms_tb := mk_tb (mk_pr3 (w := (⟨"InvariantDesk$Parser", "take", "(I)V"⟩, 14)) (List.mem_of_getElem? (i := 13) rfl))
set_option maxRecDepth 100000 in
theorem mk_ca52 : ms_callee mc_M 52 0 := ⟨mk_sub6 (List.mem_of_getElem? (i := 121) rfl) rfl, mk_tb (mk_sub1 (List.mem_of_getElem? (i := 22) rfl) rfl), by decide +kernel, by decide +kernel, by decide +kernel, by decide +kernel, by decide +kernel⟩
set_option maxRecDepth 100000 in
theorem mk_im52 : Jvm.Cond.instanceMethod (mc_M 52).1 ∈ ms_tb := mk_tb (mk_sub6 (List.mem_of_getElem? (i := 120) rfl) rfl)
set_option maxRecDepth 100000 in
theorem mk_se52 : Jvm.Cond.selects (mc_M 52).1.cls (mc_M 52).1 (mc_M 52).1 ∈ ms_tb := mk_tb (mk_pr4 (w := (⟨"InvariantDesk$Parser", "enter", "()Z"⟩, 14)) (List.mem_of_getElem? (i := 3) rfl))
set_option maxRecDepth 100000 in
theorem mk_ca53 : ms_callee mc_M 53 2 := ⟨mk_sub6 (List.mem_of_getElem? (i := 163) rfl) rfl, mk_tb (mk_sub1 (List.mem_of_getElem? (i := 22) rfl) rfl), by decide +kernel, by decide +kernel, by decide +kernel, by decide +kernel, by decide +kernel⟩
set_option maxRecDepth 100000 in
theorem mk_im53 : Jvm.Cond.instanceMethod (mc_M 53).1 ∈ ms_tb := mk_tb (mk_sub6 (List.mem_of_getElem? (i := 162) rfl) rfl)
set_option maxRecDepth 100000 in
theorem mk_se53 : Jvm.Cond.selects (mc_M 53).1.cls (mc_M 53).1 (mc_M 53).1 ∈ ms_tb := mk_tb (mk_pr4 (w := (⟨"InvariantDesk$Parser", "note", "(II)V"⟩, 14)) (List.mem_of_getElem? (i := 10) rfl))
set_option maxRecDepth 100000 in
theorem mk_ca54 : ms_callee mc_M 54 2 := ⟨mk_sub6 (List.mem_of_getElem? (i := 167) rfl) rfl, mk_tb (mk_sub1 (List.mem_of_getElem? (i := 22) rfl) rfl), by decide +kernel, by decide +kernel, by decide +kernel, by decide +kernel, by decide +kernel⟩
set_option maxRecDepth 100000 in
theorem mk_im54 : Jvm.Cond.instanceMethod (mc_M 54).1 ∈ ms_tb := mk_tb (mk_sub6 (List.mem_of_getElem? (i := 166) rfl) rfl)
set_option maxRecDepth 100000 in
theorem mk_se54 : Jvm.Cond.selects (mc_M 54).1.cls (mc_M 54).1 (mc_M 54).1 ∈ ms_tb := mk_tb (mk_pr4 (w := (⟨"InvariantDesk$Parser", "noteFirst", "(II)V"⟩, 14)) (List.mem_of_getElem? (i := 11) rfl))
set_option maxRecDepth 100000 in
theorem mk_ca55 : ms_callee mc_M 55 1 := ⟨mk_sub6 (List.mem_of_getElem? (i := 81) rfl) rfl, mk_tb (mk_sub1 (List.mem_of_getElem? (i := 22) rfl) rfl), by decide +kernel, by decide +kernel, by decide +kernel, by decide +kernel, by decide +kernel⟩
set_option maxRecDepth 100000 in
theorem mk_im55 : Jvm.Cond.instanceMethod (mc_M 55).1 ∈ ms_tb := mk_tb (mk_sub6 (List.mem_of_getElem? (i := 80) rfl) rfl)
set_option maxRecDepth 100000 in
theorem mk_se55 : Jvm.Cond.selects (mc_M 55).1.cls (mc_M 55).1 (mc_M 55).1 ∈ ms_tb := mk_tb (mk_pr4 (w := (⟨"InvariantDesk$Parser", "readFunction", "(I)V"⟩, 14)) (List.mem_of_getElem? (i := 1) rfl))
set_option maxRecDepth 100000 in
theorem mk_ca56 : ms_callee mc_M 56 2 := ⟨mk_sub6 (List.mem_of_getElem? (i := 117) rfl) rfl, mk_tb (mk_sub1 (List.mem_of_getElem? (i := 22) rfl) rfl), by decide +kernel, by decide +kernel, by decide +kernel, by decide +kernel, by decide +kernel⟩
set_option maxRecDepth 100000 in
theorem mk_im56 : Jvm.Cond.instanceMethod (mc_M 56).1 ∈ ms_tb := mk_tb (mk_sub6 (List.mem_of_getElem? (i := 116) rfl) rfl)
set_option maxRecDepth 100000 in
theorem mk_se56 : Jvm.Cond.selects (mc_M 56).1.cls (mc_M 56).1 (mc_M 56).1 ∈ ms_tb := mk_tb (mk_pr4 (w := (⟨"InvariantDesk$Parser", "readBlock", "(II)V"⟩, 14)) (List.mem_of_getElem? (i := 2) rfl))
set_option maxRecDepth 100000 in
theorem mk_ca57 : ms_callee mc_M 57 1 := ⟨mk_sub6 (List.mem_of_getElem? (i := 133) rfl) rfl, mk_tb (mk_sub1 (List.mem_of_getElem? (i := 22) rfl) rfl), by decide +kernel, by decide +kernel, by decide +kernel, by decide +kernel, by decide +kernel⟩
set_option maxRecDepth 100000 in
theorem mk_im57 : Jvm.Cond.instanceMethod (mc_M 57).1 ∈ ms_tb := mk_tb (mk_sub6 (List.mem_of_getElem? (i := 132) rfl) rfl)
set_option maxRecDepth 100000 in
theorem mk_se57 : Jvm.Cond.selects (mc_M 57).1.cls (mc_M 57).1 (mc_M 57).1 ∈ ms_tb := mk_tb (mk_pr4 (w := (⟨"InvariantDesk$Parser", "begin", "(I)V"⟩, 14)) (List.mem_of_getElem? (i := 5) rfl))
set_option maxRecDepth 100000 in
theorem mk_ca58 : ms_callee mc_M 58 0 := ⟨mk_sub6 (List.mem_of_getElem? (i := 129) rfl) rfl, mk_tb (mk_sub1 (List.mem_of_getElem? (i := 22) rfl) rfl), by decide +kernel, by decide +kernel, by decide +kernel, by decide +kernel, by decide +kernel⟩
set_option maxRecDepth 100000 in
theorem mk_im58 : Jvm.Cond.instanceMethod (mc_M 58).1 ∈ ms_tb := mk_tb (mk_sub6 (List.mem_of_getElem? (i := 128) rfl) rfl)
set_option maxRecDepth 100000 in
theorem mk_se58 : Jvm.Cond.selects (mc_M 58).1.cls (mc_M 58).1 (mc_M 58).1 ∈ ms_tb := mk_tb (mk_pr4 (w := (⟨"InvariantDesk$Parser", "beginStatement", "()V"⟩, 14)) (List.mem_of_getElem? (i := 4) rfl))
set_option maxRecDepth 100000 in
theorem mk_ca59 : ms_callee mc_M 59 2 := ⟨mk_sub6 (List.mem_of_getElem? (i := 192) rfl) rfl, mk_tb (mk_sub1 (List.mem_of_getElem? (i := 22) rfl) rfl), by decide +kernel, by decide +kernel, by decide +kernel, by decide +kernel, by decide +kernel⟩
set_option maxRecDepth 100000 in
theorem mk_im59 : Jvm.Cond.instanceMethod (mc_M 59).1 ∈ ms_tb := mk_tb (mk_sub6 (List.mem_of_getElem? (i := 191) rfl) rfl)
set_option maxRecDepth 100000 in
theorem mk_se59 : Jvm.Cond.selects (mc_M 59).1.cls (mc_M 59).1 (mc_M 59).1 ∈ ms_tb := mk_tb (mk_pr4 (w := (⟨"InvariantDesk$Parser", "beginBlocks", "(II)V"⟩, 14)) (List.mem_of_getElem? (i := 14) rfl))
set_option maxRecDepth 100000 in
theorem mk_ca60 : ms_callee mc_M 60 0 := ⟨mk_sub6 (List.mem_of_getElem? (i := 196) rfl) rfl, mk_tb (mk_sub1 (List.mem_of_getElem? (i := 22) rfl) rfl), by decide +kernel, by decide +kernel, by decide +kernel, by decide +kernel, by decide +kernel⟩
set_option maxRecDepth 100000 in
theorem mk_im60 : Jvm.Cond.instanceMethod (mc_M 60).1 ∈ ms_tb := mk_tb (mk_sub6 (List.mem_of_getElem? (i := 195) rfl) rfl)
set_option maxRecDepth 100000 in
theorem mk_se60 : Jvm.Cond.selects (mc_M 60).1.cls (mc_M 60).1 (mc_M 60).1 ∈ ms_tb := mk_tb (mk_pr4 (w := (⟨"InvariantDesk$Parser", "beginCond", "()V"⟩, 14)) (List.mem_of_getElem? (i := 15) rfl))
set_option maxRecDepth 100000 in
theorem mk_ca61 : ms_callee mc_M 61 0 := ⟨mk_sub6 (List.mem_of_getElem? (i := 142) rfl) rfl, mk_tb (mk_sub1 (List.mem_of_getElem? (i := 22) rfl) rfl), by decide +kernel, by decide +kernel, by decide +kernel, by decide +kernel, by decide +kernel⟩
set_option maxRecDepth 100000 in
theorem mk_im61 : Jvm.Cond.instanceMethod (mc_M 61).1 ∈ ms_tb := mk_tb (mk_sub6 (List.mem_of_getElem? (i := 141) rfl) rfl)
set_option maxRecDepth 100000 in
theorem mk_se61 : Jvm.Cond.selects (mc_M 61).1.cls (mc_M 61).1 (mc_M 61).1 ∈ ms_tb := mk_tb (mk_pr4 (w := (⟨"InvariantDesk$Parser", "beginNamed", "()V"⟩, 14)) (List.mem_of_getElem? (i := 6) rfl))
set_option maxRecDepth 100000 in
theorem mk_ca62 : ms_callee mc_M 62 0 := ⟨mk_sub6 (List.mem_of_getElem? (i := 150) rfl) rfl, mk_tb (mk_sub1 (List.mem_of_getElem? (i := 22) rfl) rfl), by decide +kernel, by decide +kernel, by decide +kernel, by decide +kernel, by decide +kernel⟩
set_option maxRecDepth 100000 in
theorem mk_im62 : Jvm.Cond.instanceMethod (mc_M 62).1 ∈ ms_tb := mk_tb (mk_sub6 (List.mem_of_getElem? (i := 149) rfl) rfl)
set_option maxRecDepth 100000 in
theorem mk_se62 : Jvm.Cond.selects (mc_M 62).1.cls (mc_M 62).1 (mc_M 62).1 ∈ ms_tb := mk_tb (mk_pr4 (w := (⟨"InvariantDesk$Parser", "beginCall", "()V"⟩, 14)) (List.mem_of_getElem? (i := 8) rfl))
set_option maxRecDepth 100000 in
theorem mk_ca63 : ms_callee mc_M 63 0 := ⟨mk_sub6 (List.mem_of_getElem? (i := 154) rfl) rfl, mk_tb (mk_sub1 (List.mem_of_getElem? (i := 22) rfl) rfl), by decide +kernel, by decide +kernel, by decide +kernel, by decide +kernel, by decide +kernel⟩
set_option maxRecDepth 100000 in
theorem mk_im63 : Jvm.Cond.instanceMethod (mc_M 63).1 ∈ ms_tb := mk_tb (mk_sub6 (List.mem_of_getElem? (i := 153) rfl) rfl)
set_option maxRecDepth 100000 in
theorem mk_se63 : Jvm.Cond.selects (mc_M 63).1.cls (mc_M 63).1 (mc_M 63).1 ∈ ms_tb := mk_tb (mk_pr4 (w := (⟨"InvariantDesk$Parser", "functionMeant", "()I"⟩, 14)) (List.mem_of_getElem? (i := 9) rfl))
set_option maxRecDepth 100000 in
theorem mk_ca64 : ms_callee mc_M 64 0 := ⟨mk_sub6 (List.mem_of_getElem? (i := 171) rfl) rfl, mk_tb (mk_sub1 (List.mem_of_getElem? (i := 22) rfl) rfl), by decide +kernel, by decide +kernel, by decide +kernel, by decide +kernel, by decide +kernel⟩
set_option maxRecDepth 100000 in
theorem mk_im64 : Jvm.Cond.instanceMethod (mc_M 64).1 ∈ ms_tb := mk_tb (mk_sub6 (List.mem_of_getElem? (i := 170) rfl) rfl)
set_option maxRecDepth 100000 in
theorem mk_se64 : Jvm.Cond.selects (mc_M 64).1.cls (mc_M 64).1 (mc_M 64).1 ∈ ms_tb := mk_tb (mk_pr4 (w := (⟨"InvariantDesk$Parser", "numberMeant", "()I"⟩, 14)) (List.mem_of_getElem? (i := 12) rfl))
set_option maxRecDepth 100000 in
theorem mk_ca65 : ms_callee mc_M 65 0 := ⟨mk_sub6 (List.mem_of_getElem? (i := 184) rfl) rfl, mk_tb (mk_sub1 (List.mem_of_getElem? (i := 22) rfl) rfl), by decide +kernel, by decide +kernel, by decide +kernel, by decide +kernel, by decide +kernel⟩
set_option maxRecDepth 100000 in
theorem mk_im65 : Jvm.Cond.instanceMethod (mc_M 65).1 ∈ ms_tb := mk_tb (mk_sub6 (List.mem_of_getElem? (i := 183) rfl) rfl)
set_option maxRecDepth 100000 in
theorem mk_se65 : Jvm.Cond.selects (mc_M 65).1.cls (mc_M 65).1 (mc_M 65).1 ∈ ms_tb := mk_tb (mk_pr4 (w := (⟨"InvariantDesk$Parser", "arrayMeant", "()I"⟩, 14)) (List.mem_of_getElem? (i := 13) rfl))
set_option maxRecDepth 100000 in
theorem mk_ca66 : ms_callee mc_M 66 1 := ⟨mk_sub6 (List.mem_of_getElem? (i := 200) rfl) rfl, mk_tb (mk_sub1 (List.mem_of_getElem? (i := 22) rfl) rfl), by decide +kernel, by decide +kernel, by decide +kernel, by decide +kernel, by decide +kernel⟩
set_option maxRecDepth 100000 in
theorem mk_im66 : Jvm.Cond.instanceMethod (mc_M 66).1 ∈ ms_tb := mk_tb (mk_sub6 (List.mem_of_getElem? (i := 199) rfl) rfl)
set_option maxRecDepth 100000 in
theorem mk_se66 : Jvm.Cond.selects (mc_M 66).1.cls (mc_M 66).1 (mc_M 66).1 ∈ ms_tb := mk_tb (mk_pr5 (w := (⟨"InvariantDesk$Parser", "readStatement", "(I)V"⟩, 14)) (List.mem_of_getElem? (i := 0) rfl))
set_option maxRecDepth 100000 in
theorem mk_ca67 : ms_callee mc_M 67 0 := ⟨mk_sub6 (List.mem_of_getElem? (i := 204) rfl) rfl, mk_tb (mk_sub1 (List.mem_of_getElem? (i := 22) rfl) rfl), by decide +kernel, by decide +kernel, by decide +kernel, by decide +kernel, by decide +kernel⟩
set_option maxRecDepth 100000 in
theorem mk_im67 : Jvm.Cond.instanceMethod (mc_M 67).1 ∈ ms_tb := mk_tb (mk_sub6 (List.mem_of_getElem? (i := 203) rfl) rfl)
set_option maxRecDepth 100000 in
theorem mk_se67 : Jvm.Cond.selects (mc_M 67).1.cls (mc_M 67).1 (mc_M 67).1 ∈ ms_tb := mk_tb (mk_pr5 (w := (⟨"InvariantDesk$Parser", "readVarRest", "()V"⟩, 14)) (List.mem_of_getElem? (i := 1) rfl))
set_option maxRecDepth 100000 in
theorem mk_ca68 : ms_callee mc_M 68 0 := ⟨mk_sub6 (List.mem_of_getElem? (i := 210) rfl) rfl, mk_tb (mk_sub1 (List.mem_of_getElem? (i := 22) rfl) rfl), by decide +kernel, by decide +kernel, by decide +kernel, by decide +kernel, by decide +kernel⟩
set_option maxRecDepth 100000 in
theorem mk_im68 : Jvm.Cond.instanceMethod (mc_M 68).1 ∈ ms_tb := mk_tb (mk_sub6 (List.mem_of_getElem? (i := 209) rfl) rfl)
set_option maxRecDepth 100000 in
theorem mk_se68 : Jvm.Cond.selects (mc_M 68).1.cls (mc_M 68).1 (mc_M 68).1 ∈ ms_tb := mk_tb (mk_pr5 (w := (⟨"InvariantDesk$Parser", "finishCall", "()V"⟩, 14)) (List.mem_of_getElem? (i := 2) rfl))
set_option maxRecDepth 100000 in
theorem mk_ca69 : ms_callee mc_M 69 1 := ⟨mk_sub6 (List.mem_of_getElem? (i := 214) rfl) rfl, mk_tb (mk_sub1 (List.mem_of_getElem? (i := 22) rfl) rfl), by decide +kernel, by decide +kernel, by decide +kernel, by decide +kernel, by decide +kernel⟩
set_option maxRecDepth 100000 in
theorem mk_im69 : Jvm.Cond.instanceMethod (mc_M 69).1 ∈ ms_tb := mk_tb (mk_sub6 (List.mem_of_getElem? (i := 213) rfl) rfl)
set_option maxRecDepth 100000 in
theorem mk_se69 : Jvm.Cond.selects (mc_M 69).1.cls (mc_M 69).1 (mc_M 69).1 ∈ ms_tb := mk_tb (mk_pr5 (w := (⟨"InvariantDesk$Parser", "finishStatement", "(I)V"⟩, 14)) (List.mem_of_getElem? (i := 3) rfl))
set_option maxRecDepth 100000 in
theorem mk_ca70 : ms_callee mc_M 70 2 := ⟨mk_sub7 (List.mem_of_getElem? (i := 8) rfl) rfl, mk_tb (mk_sub1 (List.mem_of_getElem? (i := 22) rfl) rfl), by decide +kernel, by decide +kernel, by decide +kernel, by decide +kernel, by decide +kernel⟩
set_option maxRecDepth 100000 in
theorem mk_im70 : Jvm.Cond.instanceMethod (mc_M 70).1 ∈ ms_tb := mk_tb (mk_sub7 (List.mem_of_getElem? (i := 7) rfl) rfl)
set_option maxRecDepth 100000 in
theorem mk_se70 : Jvm.Cond.selects (mc_M 70).1.cls (mc_M 70).1 (mc_M 70).1 ∈ ms_tb := mk_tb (mk_pr5 (w := (⟨"InvariantDesk$Parser", "readSum", "(II)V"⟩, 14)) (List.mem_of_getElem? (i := 8) rfl))
set_option maxRecDepth 100000 in
theorem mk_ca71 : ms_callee mc_M 71 1 := ⟨mk_sub6 (List.mem_of_getElem? (i := 222) rfl) rfl, mk_tb (mk_sub1 (List.mem_of_getElem? (i := 22) rfl) rfl), by decide +kernel, by decide +kernel, by decide +kernel, by decide +kernel, by decide +kernel⟩
set_option maxRecDepth 100000 in
theorem mk_im71 : Jvm.Cond.instanceMethod (mc_M 71).1 ∈ ms_tb := mk_tb (mk_sub6 (List.mem_of_getElem? (i := 221) rfl) rfl)
set_option maxRecDepth 100000 in
theorem mk_se71 : Jvm.Cond.selects (mc_M 71).1.cls (mc_M 71).1 (mc_M 71).1 ∈ ms_tb := mk_tb (mk_pr5 (w := (⟨"InvariantDesk$Parser", "readFactor", "(I)V"⟩, 14)) (List.mem_of_getElem? (i := 4) rfl))
set_option maxRecDepth 100000 in
theorem mk_ca72 : ms_callee mc_M 72 1 := ⟨mk_sub6 (List.mem_of_getElem? (i := 234) rfl) rfl, mk_tb (mk_sub1 (List.mem_of_getElem? (i := 22) rfl) rfl), by decide +kernel, by decide +kernel, by decide +kernel, by decide +kernel, by decide +kernel⟩
set_option maxRecDepth 100000 in
theorem mk_im72 : Jvm.Cond.instanceMethod (mc_M 72).1 ∈ ms_tb := mk_tb (mk_sub6 (List.mem_of_getElem? (i := 233) rfl) rfl)
set_option maxRecDepth 100000 in
theorem mk_se72 : Jvm.Cond.selects (mc_M 72).1.cls (mc_M 72).1 (mc_M 72).1 ∈ ms_tb := mk_tb (mk_pr5 (w := (⟨"InvariantDesk$Parser", "readNamed", "(I)V"⟩, 14)) (List.mem_of_getElem? (i := 5) rfl))
set_option maxRecDepth 100000 in
theorem mk_ca73 : ms_callee mc_M 73 1 := ⟨mk_sub6 (List.mem_of_getElem? (i := 238) rfl) rfl, mk_tb (mk_sub1 (List.mem_of_getElem? (i := 22) rfl) rfl), by decide +kernel, by decide +kernel, by decide +kernel, by decide +kernel, by decide +kernel⟩
set_option maxRecDepth 100000 in
theorem mk_im73 : Jvm.Cond.instanceMethod (mc_M 73).1 ∈ ms_tb := mk_tb (mk_sub6 (List.mem_of_getElem? (i := 237) rfl) rfl)
set_option maxRecDepth 100000 in
theorem mk_se73 : Jvm.Cond.selects (mc_M 73).1.cls (mc_M 73).1 (mc_M 73).1 ∈ ms_tb := mk_tb (mk_pr5 (w := (⟨"InvariantDesk$Parser", "readAny", "(I)V"⟩, 14)) (List.mem_of_getElem? (i := 6) rfl))
set_option maxRecDepth 100000 in
theorem mk_ca74 : ms_callee mc_M 74 0 := ⟨mk_sub7 (List.mem_of_getElem? (i := 4) rfl) rfl, mk_tb (mk_sub1 (List.mem_of_getElem? (i := 22) rfl) rfl), by decide +kernel, by decide +kernel, by decide +kernel, by decide +kernel, by decide +kernel⟩
set_option maxRecDepth 100000 in
theorem mk_im74 : Jvm.Cond.instanceMethod (mc_M 74).1 ∈ ms_tb := mk_tb (mk_sub7 (List.mem_of_getElem? (i := 3) rfl) rfl)
set_option maxRecDepth 100000 in
theorem mk_se74 : Jvm.Cond.selects (mc_M 74).1.cls (mc_M 74).1 (mc_M 74).1 ∈ ms_tb := mk_tb (mk_pr5 (w := (⟨"InvariantDesk$Parser", "readLimit", "()J"⟩, 14)) (List.mem_of_getElem? (i := 7) rfl))
set_option maxRecDepth 100000 in
theorem mk_ca75 : ms_callee mc_M 75 2 := ⟨mk_sub7 (List.mem_of_getElem? (i := 21) rfl) rfl, mk_tb (mk_sub1 (List.mem_of_getElem? (i := 22) rfl) rfl), by decide +kernel, by decide +kernel, by decide +kernel, by decide +kernel, by decide +kernel⟩
set_option maxRecDepth 100000 in
theorem mk_im75 : Jvm.Cond.instanceMethod (mc_M 75).1 ∈ ms_tb := mk_tb (mk_sub7 (List.mem_of_getElem? (i := 20) rfl) rfl)
set_option maxRecDepth 100000 in
theorem mk_se75 : Jvm.Cond.selects (mc_M 75).1.cls (mc_M 75).1 (mc_M 75).1 ∈ ms_tb := mk_tb (mk_pr5 (w := (⟨"InvariantDesk$Parser", "readCond", "(II)V"⟩, 14)) (List.mem_of_getElem? (i := 9) rfl))
set_option maxRecDepth 100000 in
theorem mk_ca76 : ms_callee mc_M 76 0 := ⟨mk_sub7 (List.mem_of_getElem? (i := 29) rfl) rfl, mk_tb (mk_sub1 (List.mem_of_getElem? (i := 22) rfl) rfl), by decide +kernel, by decide +kernel, by decide +kernel, by decide +kernel, by decide +kernel⟩
set_option maxRecDepth 100000 in
theorem mk_im76 : Jvm.Cond.instanceMethod (mc_M 76).1 ∈ ms_tb := mk_tb (mk_sub7 (List.mem_of_getElem? (i := 28) rfl) rfl)
set_option maxRecDepth 100000 in
theorem mk_se76 : Jvm.Cond.selects (mc_M 76).1.cls (mc_M 76).1 (mc_M 76).1 ∈ ms_tb := mk_tb (mk_pr5 (w := (⟨"InvariantDesk$Parser", "readTest", "()V"⟩, 14)) (List.mem_of_getElem? (i := 10) rfl))
set_option maxRecDepth 100000 in
theorem mk_ca77 : ms_callee mc_M 77 0 := ⟨mk_sub7 (List.mem_of_getElem? (i := 33) rfl) rfl, mk_tb (mk_sub1 (List.mem_of_getElem? (i := 22) rfl) rfl), by decide +kernel, by decide +kernel, by decide +kernel, by decide +kernel, by decide +kernel⟩
set_option maxRecDepth 100000 in
theorem mk_im77 : Jvm.Cond.instanceMethod (mc_M 77).1 ∈ ms_tb := mk_tb (mk_sub7 (List.mem_of_getElem? (i := 32) rfl) rfl)
set_option maxRecDepth 100000 in
theorem mk_se77 : Jvm.Cond.selects (mc_M 77).1.cls (mc_M 77).1 (mc_M 77).1 ∈ ms_tb := mk_tb (mk_pr5 (w := (⟨"InvariantDesk$Parser", "readRelation", "()V"⟩, 14)) (List.mem_of_getElem? (i := 11) rfl))
set_option maxRecDepth 100000 in
theorem mk_ca78 : ms_callee mc_M 78 0 := ⟨mk_sub1 (List.mem_of_getElem? (i := 36) rfl) rfl, mk_tb (mk_sub1 (List.mem_of_getElem? (i := 2) rfl) rfl), by decide +kernel, by decide +kernel, by decide +kernel, by decide +kernel, by decide +kernel⟩
set_option maxRecDepth 100000 in
theorem mk_im78 : Jvm.Cond.instanceMethod (mc_M 78).1 ∈ ms_tb := mk_tb (mk_sub1 (List.mem_of_getElem? (i := 35) rfl) rfl)
set_option maxRecDepth 100000 in
theorem mk_ca79 : ms_callee mc_M 79 0 := ⟨mk_sub1 (List.mem_of_getElem? (i := 166) rfl) rfl, mk_tb (mk_sub1 (List.mem_of_getElem? (i := 2) rfl) rfl), by decide +kernel, by decide +kernel, by decide +kernel, by decide +kernel, by decide +kernel⟩
set_option maxRecDepth 100000 in
theorem mk_im79 : Jvm.Cond.instanceMethod (mc_M 79).1 ∈ ms_tb := mk_tb (mk_sub1 (List.mem_of_getElem? (i := 164) rfl) rfl)
set_option maxRecDepth 100000 in
theorem mk_se79 : Jvm.Cond.selects (mc_M 79).1.cls (mc_M 79).1 (mc_M 79).1 ∈ ms_tb := mk_tb (mk_sub1 (List.mem_of_getElem? (i := 165) rfl) rfl)
set_option maxRecDepth 100000 in
theorem mk_ca80 : ms_callee mc_M 80 1 := ⟨mk_sub3 (List.mem_of_getElem? (i := 157) rfl) rfl, mk_tb (mk_sub1 (List.mem_of_getElem? (i := 2) rfl) rfl), by decide +kernel, by decide +kernel, by decide +kernel, by decide +kernel, by decide +kernel⟩
set_option maxRecDepth 100000 in
theorem mk_im80 : Jvm.Cond.instanceMethod (mc_M 80).1 ∈ ms_tb := mk_tb (mk_sub3 (List.mem_of_getElem? (i := 155) rfl) rfl)
set_option maxRecDepth 100000 in
theorem mk_se80 : Jvm.Cond.selects (mc_M 80).1.cls (mc_M 80).1 (mc_M 80).1 ∈ ms_tb := mk_tb (mk_sub3 (List.mem_of_getElem? (i := 156) rfl) rfl)
set_option maxRecDepth 100000 in
theorem mk_ca81 : ms_callee mc_M 81 1 := ⟨mk_sub3 (List.mem_of_getElem? (i := 161) rfl) rfl, mk_tb (mk_sub1 (List.mem_of_getElem? (i := 2) rfl) rfl), by decide +kernel, by decide +kernel, by decide +kernel, by decide +kernel, by decide +kernel⟩
set_option maxRecDepth 100000 in
theorem mk_im81 : Jvm.Cond.instanceMethod (mc_M 81).1 ∈ ms_tb := mk_tb (mk_sub3 (List.mem_of_getElem? (i := 159) rfl) rfl)
set_option maxRecDepth 100000 in
theorem mk_se81 : Jvm.Cond.selects (mc_M 81).1.cls (mc_M 81).1 (mc_M 81).1 ∈ ms_tb := mk_tb (mk_sub3 (List.mem_of_getElem? (i := 160) rfl) rfl)
set_option maxRecDepth 100000 in
theorem mk_ca82 : ms_callee mc_M 82 2 := ⟨mk_sub8 (List.mem_of_getElem? (i := 74) rfl) rfl, mk_tb (mk_sub1 (List.mem_of_getElem? (i := 2) rfl) rfl), by decide +kernel, by decide +kernel, by decide +kernel, by decide +kernel, by decide +kernel⟩
set_option maxRecDepth 100000 in
theorem mk_im82 : Jvm.Cond.instanceMethod (mc_M 82).1 ∈ ms_tb := mk_tb (mk_sub8 (List.mem_of_getElem? (i := 72) rfl) rfl)
set_option maxRecDepth 100000 in
theorem mk_se82 : Jvm.Cond.selects (mc_M 82).1.cls (mc_M 82).1 (mc_M 82).1 ∈ ms_tb := mk_tb (mk_sub8 (List.mem_of_getElem? (i := 73) rfl) rfl)
set_option maxRecDepth 100000 in
theorem mk_ca83 : ms_callee mc_M 83 2 := ⟨mk_sub8 (List.mem_of_getElem? (i := 111) rfl) rfl, mk_tb (mk_sub1 (List.mem_of_getElem? (i := 2) rfl) rfl), by decide +kernel, by decide +kernel, by decide +kernel, by decide +kernel, by decide +kernel⟩
set_option maxRecDepth 100000 in
theorem mk_im83 : Jvm.Cond.instanceMethod (mc_M 83).1 ∈ ms_tb := mk_tb (mk_sub8 (List.mem_of_getElem? (i := 109) rfl) rfl)
set_option maxRecDepth 100000 in
theorem mk_se83 : Jvm.Cond.selects (mc_M 83).1.cls (mc_M 83).1 (mc_M 83).1 ∈ ms_tb := mk_tb (mk_sub8 (List.mem_of_getElem? (i := 110) rfl) rfl)
set_option maxRecDepth 100000 in
theorem mk_ca84 : ms_callee mc_M 84 1 := ⟨mk_sub4 (List.mem_of_getElem? (i := 203) rfl) rfl, mk_tb (mk_sub1 (List.mem_of_getElem? (i := 2) rfl) rfl), by decide +kernel, by decide +kernel, by decide +kernel, by decide +kernel, by decide +kernel⟩
set_option maxRecDepth 100000 in
theorem mk_im84 : Jvm.Cond.instanceMethod (mc_M 84).1 ∈ ms_tb := mk_tb (mk_sub4 (List.mem_of_getElem? (i := 201) rfl) rfl)
set_option maxRecDepth 100000 in
theorem mk_se84 : Jvm.Cond.selects (mc_M 84).1.cls (mc_M 84).1 (mc_M 84).1 ∈ ms_tb := mk_tb (mk_sub4 (List.mem_of_getElem? (i := 202) rfl) rfl)
set_option maxRecDepth 100000 in
theorem mk_ca85 : ms_callee mc_M 85 2 := ⟨mk_sub7 (List.mem_of_getElem? (i := 48) rfl) rfl, mk_tb (mk_sub1 (List.mem_of_getElem? (i := 2) rfl) rfl), by decide +kernel, by decide +kernel, by decide +kernel, by decide +kernel, by decide +kernel⟩
set_option maxRecDepth 100000 in
theorem mk_im85 : Jvm.Cond.instanceMethod (mc_M 85).1 ∈ ms_tb := mk_tb (mk_sub7 (List.mem_of_getElem? (i := 46) rfl) rfl)
set_option maxRecDepth 100000 in
theorem mk_se85 : Jvm.Cond.selects (mc_M 85).1.cls (mc_M 85).1 (mc_M 85).1 ∈ ms_tb := mk_tb (mk_sub7 (List.mem_of_getElem? (i := 47) rfl) rfl)
set_option maxRecDepth 100000 in
theorem mk_ca86 : ms_callee mc_M 86 2 := ⟨mk_sub7 (List.mem_of_getElem? (i := 53) rfl) rfl, mk_tb (mk_sub1 (List.mem_of_getElem? (i := 2) rfl) rfl), by decide +kernel, by decide +kernel, by decide +kernel, by decide +kernel, by decide +kernel⟩
set_option maxRecDepth 100000 in
theorem mk_im86 : Jvm.Cond.instanceMethod (mc_M 86).1 ∈ ms_tb := mk_tb (mk_sub7 (List.mem_of_getElem? (i := 52) rfl) rfl)
set_option maxRecDepth 100000 in
theorem mk_se86 : Jvm.Cond.selects (mc_M 86).1.cls (mc_M 86).1 (mc_M 86).1 ∈ ms_tb := mk_tb (mk_pr5 (w := (⟨"InvariantDesk$Program", "note", "(II)V"⟩, 20)) (List.mem_of_getElem? (i := 12) rfl))
set_option maxRecDepth 100000 in
theorem mk_ca87 : ms_callee mc_M 87 1 := ⟨mk_sub7 (List.mem_of_getElem? (i := 58) rfl) rfl, mk_tb (mk_sub1 (List.mem_of_getElem? (i := 2) rfl) rfl), by decide +kernel, by decide +kernel, by decide +kernel, by decide +kernel, by decide +kernel⟩
set_option maxRecDepth 100000 in
theorem mk_im87 : Jvm.Cond.instanceMethod (mc_M 87).1 ∈ ms_tb := mk_tb (mk_sub7 (List.mem_of_getElem? (i := 57) rfl) rfl)
set_option maxRecDepth 100000 in
theorem mk_se87 : Jvm.Cond.selects (mc_M 87).1.cls (mc_M 87).1 (mc_M 87).1 ∈ ms_tb := mk_tb (mk_pr5 (w := (⟨"InvariantDesk$Program", "limitOf", "(I)I"⟩, 20)) (List.mem_of_getElem? (i := 13) rfl))
set_option maxRecDepth 100000 in
theorem mk_ca88 : ms_callee mc_M 88 1 := ⟨mk_sub7 (List.mem_of_getElem? (i := 78) rfl) rfl, mk_tb (mk_sub1 (List.mem_of_getElem? (i := 2) rfl) rfl), by decide +kernel, by decide +kernel, by decide +kernel, by decide +kernel, by decide +kernel⟩
set_option maxRecDepth 100000 in
theorem mk_im88 : Jvm.Cond.instanceMethod (mc_M 88).1 ∈ ms_tb := mk_tb (mk_sub7 (List.mem_of_getElem? (i := 77) rfl) rfl)
set_option maxRecDepth 100000 in
theorem mk_se88 : Jvm.Cond.selects (mc_M 88).1.cls (mc_M 88).1 (mc_M 88).1 ∈ ms_tb := mk_tb (mk_pr6 (w := (⟨"InvariantDesk$Program", "shutBlock", "(I)I"⟩, 20)) (List.mem_of_getElem? (i := 1) rfl))
set_option maxRecDepth 100000 in
theorem mk_ca89 : ms_callee mc_M 89 1 := ⟨mk_sub7 (List.mem_of_getElem? (i := 62) rfl) rfl, mk_tb (mk_sub1 (List.mem_of_getElem? (i := 2) rfl) rfl), by decide +kernel, by decide +kernel, by decide +kernel, by decide +kernel, by decide +kernel⟩
set_option maxRecDepth 100000 in
theorem mk_im89 : Jvm.Cond.instanceMethod (mc_M 89).1 ∈ ms_tb := mk_tb (mk_sub7 (List.mem_of_getElem? (i := 61) rfl) rfl)
set_option maxRecDepth 100000 in
theorem mk_se89 : Jvm.Cond.selects (mc_M 89).1.cls (mc_M 89).1 (mc_M 89).1 ∈ ms_tb := mk_tb (mk_pr5 (w := (⟨"InvariantDesk$Program", "layStatement", "(LInvariantDesk$Statement;)I"⟩, 20)) (List.mem_of_getElem? (i := 14) rfl))
set_option maxRecDepth 100000 in
theorem mk_ca90 : ms_callee mc_M 90 1 := ⟨mk_sub7 (List.mem_of_getElem? (i := 66) rfl) rfl, mk_tb (mk_sub1 (List.mem_of_getElem? (i := 2) rfl) rfl), by decide +kernel, by decide +kernel, by decide +kernel, by decide +kernel, by decide +kernel⟩
set_option maxRecDepth 100000 in
theorem mk_im90 : Jvm.Cond.instanceMethod (mc_M 90).1 ∈ ms_tb := mk_tb (mk_sub7 (List.mem_of_getElem? (i := 65) rfl) rfl)
set_option maxRecDepth 100000 in
theorem mk_se90 : Jvm.Cond.selects (mc_M 90).1.cls (mc_M 90).1 (mc_M 90).1 ∈ ms_tb := mk_tb (mk_pr5 (w := (⟨"InvariantDesk$Program", "findWrong", "(LInvariantDesk$Statement;)V"⟩, 20)) (List.mem_of_getElem? (i := 15) rfl))
set_option maxRecDepth 100000 in
theorem mk_ca91 : ms_callee mc_M 91 1 := ⟨mk_sub7 (List.mem_of_getElem? (i := 72) rfl) rfl, mk_tb (mk_sub1 (List.mem_of_getElem? (i := 2) rfl) rfl), by decide +kernel, by decide +kernel, by decide +kernel, by decide +kernel, by decide +kernel⟩
set_option maxRecDepth 100000 in
theorem mk_im91 : Jvm.Cond.instanceMethod (mc_M 91).1 ∈ ms_tb := mk_tb (mk_sub7 (List.mem_of_getElem? (i := 71) rfl) rfl)
set_option maxRecDepth 100000 in
theorem mk_se91 : Jvm.Cond.selects (mc_M 91).1.cls (mc_M 91).1 (mc_M 91).1 ∈ ms_tb := mk_tb (mk_pr6 (w := (⟨"InvariantDesk$Program", "layNames", "(I)V"⟩, 20)) (List.mem_of_getElem? (i := 0) rfl))
set_option maxRecDepth 100000 in
theorem mk_ca92 : ms_callee mc_M 92 0 := ⟨mk_sub7 (List.mem_of_getElem? (i := 82) rfl) rfl, mk_tb (mk_sub1 (List.mem_of_getElem? (i := 2) rfl) rfl), by decide +kernel, by decide +kernel, by decide +kernel, by decide +kernel, by decide +kernel⟩
set_option maxRecDepth 100000 in
theorem mk_im92 : Jvm.Cond.instanceMethod (mc_M 92).1 ∈ ms_tb := mk_tb (mk_sub7 (List.mem_of_getElem? (i := 81) rfl) rfl)
set_option maxRecDepth 100000 in
theorem mk_se92 : Jvm.Cond.selects (mc_M 92).1.cls (mc_M 92).1 (mc_M 92).1 ∈ ms_tb := mk_tb (mk_pr6 (w := (⟨"InvariantDesk$Program", "layEnd", "()V"⟩, 20)) (List.mem_of_getElem? (i := 2) rfl))
set_option maxRecDepth 100000 in
theorem mk_ca93 : ms_callee mc_M 93 0 := ⟨mk_sub7 (List.mem_of_getElem? (i := 86) rfl) rfl, mk_tb (mk_sub1 (List.mem_of_getElem? (i := 2) rfl) rfl), by decide +kernel, by decide +kernel, by decide +kernel, by decide +kernel, by decide +kernel⟩
set_option maxRecDepth 100000 in
theorem mk_im93 : Jvm.Cond.instanceMethod (mc_M 93).1 ∈ ms_tb := mk_tb (mk_sub7 (List.mem_of_getElem? (i := 85) rfl) rfl)
set_option maxRecDepth 100000 in
theorem mk_se93 : Jvm.Cond.selects (mc_M 93).1.cls (mc_M 93).1 (mc_M 93).1 ∈ ms_tb := mk_tb (mk_pr6 (w := (⟨"InvariantDesk$Program", "link", "()V"⟩, 20)) (List.mem_of_getElem? (i := 3) rfl))
set_option maxRecDepth 100000 in
theorem mk_ca94 : ms_callee mc_M 94 1 := ⟨mk_sub7 (List.mem_of_getElem? (i := 90) rfl) rfl, mk_tb (mk_sub1 (List.mem_of_getElem? (i := 2) rfl) rfl), by decide +kernel, by decide +kernel, by decide +kernel, by decide +kernel, by decide +kernel⟩
set_option maxRecDepth 100000 in
theorem mk_im94 : Jvm.Cond.instanceMethod (mc_M 94).1 ∈ ms_tb := mk_tb (mk_sub7 (List.mem_of_getElem? (i := 89) rfl) rfl)
set_option maxRecDepth 100000 in
theorem mk_se94 : Jvm.Cond.selects (mc_M 94).1.cls (mc_M 94).1 (mc_M 94).1 ∈ ms_tb := mk_tb (mk_pr6 (w := (⟨"InvariantDesk$Program", "blockEnd", "(I)I"⟩, 20)) (List.mem_of_getElem? (i := 4) rfl))
set_option maxRecDepth 100000 in
theorem mk_ca95 : ms_callee mc_M 95 1 := ⟨mk_sub7 (List.mem_of_getElem? (i := 94) rfl) rfl, mk_tb (mk_sub1 (List.mem_of_getElem? (i := 2) rfl) rfl), by decide +kernel, by decide +kernel, by decide +kernel, by decide +kernel, by decide +kernel⟩
set_option maxRecDepth 100000 in
theorem mk_im95 : Jvm.Cond.instanceMethod (mc_M 95).1 ∈ ms_tb := mk_tb (mk_sub7 (List.mem_of_getElem? (i := 93) rfl) rfl)
set_option maxRecDepth 100000 in
theorem mk_se95 : Jvm.Cond.selects (mc_M 95).1.cls (mc_M 95).1 (mc_M 95).1 ∈ ms_tb := mk_tb (mk_pr6 (w := (⟨"InvariantDesk$Program", "behindBlock", "(I)I"⟩, 20)) (List.mem_of_getElem? (i := 5) rfl))
set_option maxRecDepth 100000 in
theorem mk_ca96 : ms_callee mc_M 96 0 := ⟨mk_sub2 (List.mem_of_getElem? (i := 118) rfl) rfl, mk_tb (mk_sub1 (List.mem_of_getElem? (i := 10) rfl) rfl), by decide +kernel, by decide +kernel, by decide +kernel, by decide +kernel, by decide +kernel⟩
set_option maxRecDepth 100000 in
theorem mk_im96 : Jvm.Cond.instanceMethod (mc_M 96).1 ∈ ms_tb := mk_tb (mk_sub2 (List.mem_of_getElem? (i := 117) rfl) rfl)
set_option maxRecDepth 100000 in
theorem mk_ca97 : ms_callee mc_M 97 3 := ⟨mk_sub4 (List.mem_of_getElem? (i := 40) rfl) rfl, mk_tb (mk_sub1 (List.mem_of_getElem? (i := 10) rfl) rfl), by decide +kernel, by decide +kernel, by decide +kernel, by decide +kernel, by decide +kernel⟩
set_option maxRecDepth 100000 in
theorem mk_im97 : Jvm.Cond.instanceMethod (mc_M 97).1 ∈ ms_tb := mk_tb (mk_sub4 (List.mem_of_getElem? (i := 38) rfl) rfl)
set_option maxRecDepth 100000 in
theorem mk_se97 : Jvm.Cond.selects (mc_M 97).1.cls (mc_M 97).1 (mc_M 97).1 ∈ ms_tb := mk_tb (mk_sub4 (List.mem_of_getElem? (i := 39) rfl) rfl)
set_option maxRecDepth 100000 in
theorem mk_ca98 : ms_callee mc_M 98 1 := ⟨mk_sub4 (List.mem_of_getElem? (i := 52) rfl) rfl, mk_tb (mk_sub1 (List.mem_of_getElem? (i := 10) rfl) rfl), by decide +kernel, by decide +kernel, by decide +kernel, by decide +kernel, by decide +kernel⟩
set_option maxRecDepth 100000 in
theorem mk_im98 : Jvm.Cond.instanceMethod (mc_M 98).1 ∈ ms_tb := mk_tb (mk_sub4 (List.mem_of_getElem? (i := 50) rfl) rfl)
set_option maxRecDepth 100000 in
theorem mk_se98 : Jvm.Cond.selects (mc_M 98).1.cls (mc_M 98).1 (mc_M 98).1 ∈ ms_tb := mk_tb (mk_sub4 (List.mem_of_getElem? (i := 51) rfl) rfl)
set_option maxRecDepth 100000 in
theorem mk_ca99 : ms_callee mc_M 99 1 := ⟨mk_sub4 (List.mem_of_getElem? (i := 65) rfl) rfl, mk_tb (mk_sub1 (List.mem_of_getElem? (i := 10) rfl) rfl), by decide +kernel, by decide +kernel, by decide +kernel, by decide +kernel, by decide +kernel⟩
set_option maxRecDepth 100000 in
theorem mk_im99 : Jvm.Cond.instanceMethod (mc_M 99).1 ∈ ms_tb := mk_tb (mk_sub4 (List.mem_of_getElem? (i := 63) rfl) rfl)
set_option maxRecDepth 100000 in
theorem mk_se99 : Jvm.Cond.selects (mc_M 99).1.cls (mc_M 99).1 (mc_M 99).1 ∈ ms_tb := mk_tb (mk_sub4 (List.mem_of_getElem? (i := 64) rfl) rfl)
set_option maxRecDepth 100000 in
theorem mk_ca101 : ms_callee mc_M 101 3 := ⟨mk_sub4 (List.mem_of_getElem? (i := 107) rfl) rfl, mk_tb (mk_sub1 (List.mem_of_getElem? (i := 10) rfl) rfl), by decide +kernel, by decide +kernel, by decide +kernel, by decide +kernel, by decide +kernel⟩
set_option maxRecDepth 100000 in
theorem mk_im101 : Jvm.Cond.instanceMethod (mc_M 101).1 ∈ ms_tb := mk_tb (mk_sub4 (List.mem_of_getElem? (i := 106) rfl) rfl)
set_option maxRecDepth 100000 in
theorem mk_se101 : Jvm.Cond.selects (mc_M 101).1.cls (mc_M 101).1 (mc_M 101).1 ∈ ms_tb := mk_tb (mk_pr2 (w := (⟨"InvariantDesk$Ranges", "push", "(JJI)V"⟩, 19)) (List.mem_of_getElem? (i := 9) rfl))
set_option maxRecDepth 100000 in
theorem mk_ca102 : ms_callee mc_M 102 3 := ⟨mk_sub4 (List.mem_of_getElem? (i := 103) rfl) rfl, mk_tb (mk_sub1 (List.mem_of_getElem? (i := 10) rfl) rfl), by decide +kernel, by decide +kernel, by decide +kernel, by decide +kernel, by decide +kernel⟩
set_option maxRecDepth 100000 in
theorem mk_im102 : Jvm.Cond.instanceMethod (mc_M 102).1 ∈ ms_tb := mk_tb (mk_sub4 (List.mem_of_getElem? (i := 102) rfl) rfl)
set_option maxRecDepth 100000 in
theorem mk_se102 : Jvm.Cond.selects (mc_M 102).1.cls (mc_M 102).1 (mc_M 102).1 ∈ ms_tb := mk_tb (mk_pr2 (w := (⟨"InvariantDesk$Ranges", "find", "(III)Z"⟩, 19)) (List.mem_of_getElem? (i := 8) rfl))
set_option maxRecDepth 100000 in
theorem mk_ca103 : ms_callee mc_M 103 1 := ⟨mk_sub4 (List.mem_of_getElem? (i := 111) rfl) rfl, mk_tb (mk_sub1 (List.mem_of_getElem? (i := 10) rfl) rfl), by decide +kernel, by decide +kernel, by decide +kernel, by decide +kernel, by decide +kernel⟩
set_option maxRecDepth 100000 in
theorem mk_im103 : Jvm.Cond.instanceMethod (mc_M 103).1 ∈ ms_tb := mk_tb (mk_sub4 (List.mem_of_getElem? (i := 110) rfl) rfl)
set_option maxRecDepth 100000 in
theorem mk_se103 : Jvm.Cond.selects (mc_M 103).1.cls (mc_M 103).1 (mc_M 103).1 ∈ ms_tb := mk_tb (mk_pr2 (w := (⟨"InvariantDesk$Ranges", "hasPlace", "(I)Z"⟩, 19)) (List.mem_of_getElem? (i := 10) rfl))
set_option maxRecDepth 100000 in
theorem mk_ca104 : ms_callee mc_M 104 1 := ⟨mk_sub4 (List.mem_of_getElem? (i := 197) rfl) rfl, mk_tb (mk_sub1 (List.mem_of_getElem? (i := 10) rfl) rfl), by decide +kernel, by decide +kernel, by decide +kernel, by decide +kernel, by decide +kernel⟩
set_option maxRecDepth 100000 in
theorem mk_im104 : Jvm.Cond.instanceMethod (mc_M 104).1 ∈ ms_tb := mk_tb (mk_sub4 (List.mem_of_getElem? (i := 195) rfl) rfl)
set_option maxRecDepth 100000 in
theorem mk_se104 : Jvm.Cond.selects (mc_M 104).1.cls (mc_M 104).1 (mc_M 104).1 ∈ ms_tb := mk_tb (mk_sub4 (List.mem_of_getElem? (i := 196) rfl) rfl)
set_option maxRecDepth 100000 in
theorem mk_ca105 : ms_callee mc_M 105 0 := ⟨mk_sub4 (List.mem_of_getElem? (i := 69) rfl) rfl, mk_tb (mk_sub1 (List.mem_of_getElem? (i := 10) rfl) rfl), by decide +kernel, by decide +kernel, by decide +kernel, by decide +kernel, by decide +kernel⟩
set_option maxRecDepth 100000 in
theorem mk_im105 : Jvm.Cond.instanceMethod (mc_M 105).1 ∈ ms_tb := mk_tb (mk_sub4 (List.mem_of_getElem? (i := 68) rfl) rfl)
set_option maxRecDepth 100000 in
theorem mk_se105 : Jvm.Cond.selects (mc_M 105).1.cls (mc_M 105).1 (mc_M 105).1 ∈ ms_tb := mk_tb (mk_pr2 (w := (⟨"InvariantDesk$Ranges", "negate", "()V"⟩, 19)) (List.mem_of_getElem? (i := 2) rfl))
set_option maxRecDepth 100000 in
theorem mk_ca106 : ms_callee mc_M 106 1 := ⟨mk_sub4 (List.mem_of_getElem? (i := 73) rfl) rfl, mk_tb (mk_sub1 (List.mem_of_getElem? (i := 10) rfl) rfl), by decide +kernel, by decide +kernel, by decide +kernel, by decide +kernel, by decide +kernel⟩
set_option maxRecDepth 100000 in
theorem mk_im106 : Jvm.Cond.instanceMethod (mc_M 106).1 ∈ ms_tb := mk_tb (mk_sub4 (List.mem_of_getElem? (i := 72) rfl) rfl)
set_option maxRecDepth 100000 in
theorem mk_se106 : Jvm.Cond.selects (mc_M 106).1.cls (mc_M 106).1 (mc_M 106).1 ∈ ms_tb := mk_tb (mk_pr2 (w := (⟨"InvariantDesk$Ranges", "add", "(I)V"⟩, 19)) (List.mem_of_getElem? (i := 3) rfl))
set_option maxRecDepth 100000 in
theorem mk_ca107 : ms_callee mc_M 107 0 := ⟨mk_sub4 (List.mem_of_getElem? (i := 81) rfl) rfl, mk_tb (mk_sub1 (List.mem_of_getElem? (i := 10) rfl) rfl), by decide +kernel, by decide +kernel, by decide +kernel, by decide +kernel, by decide +kernel⟩
set_option maxRecDepth 100000 in
theorem mk_im107 : Jvm.Cond.instanceMethod (mc_M 107).1 ∈ ms_tb := mk_tb (mk_sub4 (List.mem_of_getElem? (i := 80) rfl) rfl)
set_option maxRecDepth 100000 in
theorem mk_se107 : Jvm.Cond.selects (mc_M 107).1.cls (mc_M 107).1 (mc_M 107).1 ∈ ms_tb := mk_tb (mk_pr2 (w := (⟨"InvariantDesk$Ranges", "multiply", "()V"⟩, 19)) (List.mem_of_getElem? (i := 4) rfl))
set_option maxRecDepth 100000 in
theorem mk_ca108 : ms_callee mc_M 108 0 := ⟨mk_sub4 (List.mem_of_getElem? (i := 91) rfl) rfl, mk_tb (mk_sub1 (List.mem_of_getElem? (i := 10) rfl) rfl), by decide +kernel, by decide +kernel, by decide +kernel, by decide +kernel, by decide +kernel⟩
set_option maxRecDepth 100000 in
theorem mk_im108 : Jvm.Cond.instanceMethod (mc_M 108).1 ∈ ms_tb := mk_tb (mk_sub4 (List.mem_of_getElem? (i := 90) rfl) rfl)
set_option maxRecDepth 100000 in
theorem mk_se108 : Jvm.Cond.selects (mc_M 108).1.cls (mc_M 108).1 (mc_M 108).1 ∈ ms_tb := mk_tb (mk_pr2 (w := (⟨"InvariantDesk$Ranges", "hasDivisor", "()Z"⟩, 19)) (List.mem_of_getElem? (i := 6) rfl))
set_option maxRecDepth 100000 in
theorem mk_ca109 : ms_callee mc_M 109 0 := ⟨mk_sub4 (List.mem_of_getElem? (i := 87) rfl) rfl, mk_tb (mk_sub1 (List.mem_of_getElem? (i := 10) rfl) rfl), by decide +kernel, by decide +kernel, by decide +kernel, by decide +kernel, by decide +kernel⟩
set_option maxRecDepth 100000 in
theorem mk_im109 : Jvm.Cond.instanceMethod (mc_M 109).1 ∈ ms_tb := mk_tb (mk_sub4 (List.mem_of_getElem? (i := 86) rfl) rfl)
set_option maxRecDepth 100000 in
theorem mk_se109 : Jvm.Cond.selects (mc_M 109).1.cls (mc_M 109).1 (mc_M 109).1 ∈ ms_tb := mk_tb (mk_pr2 (w := (⟨"InvariantDesk$Ranges", "divide", "()Z"⟩, 19)) (List.mem_of_getElem? (i := 5) rfl))
set_option maxRecDepth 100000 in
theorem mk_ca110 : ms_callee mc_M 110 4 := ⟨mk_sub4 (List.mem_of_getElem? (i := 95) rfl) rfl, mk_tb (mk_sub1 (List.mem_of_getElem? (i := 10) rfl) rfl), by decide +kernel, by decide +kernel, by decide +kernel, by decide +kernel, by decide +kernel⟩
set_option maxRecDepth 100000 in
theorem mk_im110 : Jvm.Cond.static (mc_M 110).1 ∈ ms_tb := mk_tb (mk_sub4 (List.mem_of_getElem? (i := 94) rfl) rfl)
set_option maxRecDepth 100000 in
theorem mk_ca111 : ms_callee mc_M 111 0 := ⟨mk_sub4 (List.mem_of_getElem? (i := 99) rfl) rfl, mk_tb (mk_sub1 (List.mem_of_getElem? (i := 10) rfl) rfl), by decide +kernel, by decide +kernel, by decide +kernel, by decide +kernel, by decide +kernel⟩
set_option maxRecDepth 100000 in
theorem mk_im111 : Jvm.Cond.instanceMethod (mc_M 111).1 ∈ ms_tb := mk_tb (mk_sub4 (List.mem_of_getElem? (i := 98) rfl) rfl)
set_option maxRecDepth 100000 in
theorem mk_se111 : Jvm.Cond.selects (mc_M 111).1.cls (mc_M 111).1 (mc_M 111).1 ∈ ms_tb := mk_tb (mk_pr2 (w := (⟨"InvariantDesk$Ranges", "takeRest", "()Z"⟩, 19)) (List.mem_of_getElem? (i := 7) rfl))
set_option maxRecDepth 100000 in
theorem mk_ca112 : ms_callee mc_M 112 0 := ⟨mk_sub4 (List.mem_of_getElem? (i := 115) rfl) rfl, mk_tb (mk_sub1 (List.mem_of_getElem? (i := 10) rfl) rfl), by decide +kernel, by decide +kernel, by decide +kernel, by decide +kernel, by decide +kernel⟩
set_option maxRecDepth 100000 in
theorem mk_im112 : Jvm.Cond.instanceMethod (mc_M 112).1 ∈ ms_tb := mk_tb (mk_sub4 (List.mem_of_getElem? (i := 114) rfl) rfl)
set_option maxRecDepth 100000 in
theorem mk_se112 : Jvm.Cond.selects (mc_M 112).1.cls (mc_M 112).1 (mc_M 112).1 ∈ ms_tb := mk_tb (mk_pr2 (w := (⟨"InvariantDesk$Ranges", "keepInts", "()Z"⟩, 19)) (List.mem_of_getElem? (i := 11) rfl))
set_option maxRecDepth 100000 in
theorem mk_ca113 : ms_callee mc_M 113 2 := ⟨mk_sub4 (List.mem_of_getElem? (i := 121) rfl) rfl, mk_tb (mk_sub1 (List.mem_of_getElem? (i := 10) rfl) rfl), by decide +kernel, by decide +kernel, by decide +kernel, by decide +kernel, by decide +kernel⟩
set_option maxRecDepth 100000 in
theorem mk_im113 : Jvm.Cond.instanceMethod (mc_M 113).1 ∈ ms_tb := mk_tb (mk_sub4 (List.mem_of_getElem? (i := 119) rfl) rfl)
set_option maxRecDepth 100000 in
theorem mk_se113 : Jvm.Cond.selects (mc_M 113).1.cls (mc_M 113).1 (mc_M 113).1 ∈ ms_tb := mk_tb (mk_sub4 (List.mem_of_getElem? (i := 120) rfl) rfl)
set_option maxRecDepth 100000 in
theorem mk_ca114 : ms_callee mc_M 114 1 := ⟨mk_sub4 (List.mem_of_getElem? (i := 128) rfl) rfl, mk_tb (mk_sub1 (List.mem_of_getElem? (i := 10) rfl) rfl), by decide +kernel, by decide +kernel, by decide +kernel, by decide +kernel, by decide +kernel⟩
set_option maxRecDepth 100000 in
theorem mk_im114 : Jvm.Cond.instanceMethod (mc_M 114).1 ∈ ms_tb := mk_tb (mk_sub4 (List.mem_of_getElem? (i := 126) rfl) rfl)
set_option maxRecDepth 100000 in
theorem mk_se114 : Jvm.Cond.selects (mc_M 114).1.cls (mc_M 114).1 (mc_M 114).1 ∈ ms_tb := mk_tb (mk_sub4 (List.mem_of_getElem? (i := 127) rfl) rfl)
set_option maxRecDepth 100000 in
theorem mk_ca115 : ms_callee mc_M 115 2 := ⟨mk_sub4 (List.mem_of_getElem? (i := 141) rfl) rfl, mk_tb (mk_sub1 (List.mem_of_getElem? (i := 10) rfl) rfl), by decide +kernel, by decide +kernel, by decide +kernel, by decide +kernel, by decide +kernel⟩
set_option maxRecDepth 100000 in
theorem mk_im115 : Jvm.Cond.instanceMethod (mc_M 115).1 ∈ ms_tb := mk_tb (mk_sub4 (List.mem_of_getElem? (i := 139) rfl) rfl)
set_option maxRecDepth 100000 in
theorem mk_se115 : Jvm.Cond.selects (mc_M 115).1.cls (mc_M 115).1 (mc_M 115).1 ∈ ms_tb := mk_tb (mk_sub4 (List.mem_of_getElem? (i := 140) rfl) rfl)
set_option maxRecDepth 100000 in
theorem mk_ca116 : ms_callee mc_M 116 1 := ⟨mk_sub5 (List.mem_of_getElem? (i := 212) rfl) rfl, mk_tb (mk_sub1 (List.mem_of_getElem? (i := 23) rfl) rfl), by decide +kernel, by decide +kernel, by decide +kernel, by decide +kernel, by decide +kernel⟩
set_option maxRecDepth 100000 in
theorem mk_im116 : Jvm.Cond.instanceMethod (mc_M 116).1 ∈ ms_tb := mk_tb (mk_sub5 (List.mem_of_getElem? (i := 211) rfl) rfl)
set_option maxRecDepth 100000 in
theorem mk_ca117 : ms_callee mc_M 117 0 := ⟨mk_sub6 (List.mem_of_getElem? (i := 89) rfl) rfl, mk_tb (mk_sub1 (List.mem_of_getElem? (i := 23) rfl) rfl), by decide +kernel, by decide +kernel, by decide +kernel, by decide +kernel, by decide +kernel⟩
set_option maxRecDepth 100000 in
theorem mk_im117 : Jvm.Cond.instanceMethod (mc_M 117).1 ∈ ms_tb := mk_tb (mk_sub6 (List.mem_of_getElem? (i := 87) rfl) rfl)
set_option maxRecDepth 100000 in
theorem mk_se117 : Jvm.Cond.selects (mc_M 117).1.cls (mc_M 117).1 (mc_M 117).1 ∈ ms_tb := mk_tb (mk_sub6 (List.mem_of_getElem? (i := 88) rfl) rfl)
set_option maxRecDepth 100000 in
theorem mk_ca118 : ms_callee mc_M 118 0 := ⟨mk_sub6 (List.mem_of_getElem? (i := 125) rfl) rfl, mk_tb (mk_sub1 (List.mem_of_getElem? (i := 23) rfl) rfl), by decide +kernel, by decide +kernel, by decide +kernel, by decide +kernel, by decide +kernel⟩
set_option maxRecDepth 100000 in
theorem mk_im118 : Jvm.Cond.instanceMethod (mc_M 118).1 ∈ ms_tb := mk_tb (mk_sub6 (List.mem_of_getElem? (i := 123) rfl) rfl)
set_option maxRecDepth 100000 in
theorem mk_se118 : Jvm.Cond.selects (mc_M 118).1.cls (mc_M 118).1 (mc_M 118).1 ∈ ms_tb := mk_tb (mk_sub6 (List.mem_of_getElem? (i := 124) rfl) rfl)
set_option maxRecDepth 100000 in
theorem mk_ca119 : ms_callee mc_M 119 1 := ⟨mk_sub6 (List.mem_of_getElem? (i := 97) rfl) rfl, mk_tb (mk_sub1 (List.mem_of_getElem? (i := 23) rfl) rfl), by decide +kernel, by decide +kernel, by decide +kernel, by decide +kernel, by decide +kernel⟩
set_option maxRecDepth 100000 in
theorem mk_im119 : Jvm.Cond.instanceMethod (mc_M 119).1 ∈ ms_tb := mk_tb (mk_sub6 (List.mem_of_getElem? (i := 95) rfl) rfl)
set_option maxRecDepth 100000 in
theorem mk_se119 : Jvm.Cond.selects (mc_M 119).1.cls (mc_M 119).1 (mc_M 119).1 ∈ ms_tb := mk_tb (mk_sub6 (List.mem_of_getElem? (i := 96) rfl) rfl)
set_option maxRecDepth 100000 in
theorem mk_ca120 : ms_callee mc_M 120 1 := ⟨mk_sub6 (List.mem_of_getElem? (i := 93) rfl) rfl, mk_tb (mk_sub1 (List.mem_of_getElem? (i := 23) rfl) rfl), by decide +kernel, by decide +kernel, by decide +kernel, by decide +kernel, by decide +kernel⟩
set_option maxRecDepth 100000 in
theorem mk_im120 : Jvm.Cond.instanceMethod (mc_M 120).1 ∈ ms_tb := mk_tb (mk_sub6 (List.mem_of_getElem? (i := 91) rfl) rfl)
set_option maxRecDepth 100000 in
theorem mk_se120 : Jvm.Cond.selects (mc_M 120).1.cls (mc_M 120).1 (mc_M 120).1 ∈ ms_tb := mk_tb (mk_sub6 (List.mem_of_getElem? (i := 92) rfl) rfl)
set_option maxRecDepth 100000 in
theorem mk_ca121 : ms_callee mc_M 121 2 := ⟨mk_sub6 (List.mem_of_getElem? (i := 109) rfl) rfl, mk_tb (mk_sub1 (List.mem_of_getElem? (i := 23) rfl) rfl), by decide +kernel, by decide +kernel, by decide +kernel, by decide +kernel, by decide +kernel⟩
set_option maxRecDepth 100000 in
theorem mk_im121 : Jvm.Cond.instanceMethod (mc_M 121).1 ∈ ms_tb := mk_tb (mk_sub6 (List.mem_of_getElem? (i := 107) rfl) rfl)
set_option maxRecDepth 100000 in
theorem mk_se121 : Jvm.Cond.selects (mc_M 121).1.cls (mc_M 121).1 (mc_M 121).1 ∈ ms_tb := mk_tb (mk_sub6 (List.mem_of_getElem? (i := 108) rfl) rfl)
set_option maxRecDepth 100000 in
theorem mk_ca122 : ms_callee mc_M 122 1 := ⟨mk_sub6 (List.mem_of_getElem? (i := 176) rfl) rfl, mk_tb (mk_sub1 (List.mem_of_getElem? (i := 23) rfl) rfl), by decide +kernel, by decide +kernel, by decide +kernel, by decide +kernel, by decide +kernel⟩
set_option maxRecDepth 100000 in
theorem mk_im122 : Jvm.Cond.instanceMethod (mc_M 122).1 ∈ ms_tb := mk_tb (mk_sub6 (List.mem_of_getElem? (i := 174) rfl) rfl)
set_option maxRecDepth 100000 in
theorem mk_se122 : Jvm.Cond.selects (mc_M 122).1.cls (mc_M 122).1 (mc_M 122).1 ∈ ms_tb := mk_tb (mk_sub6 (List.mem_of_getElem? (i := 175) rfl) rfl)
set_option maxRecDepth 100000 in
theorem mk_ca123 : ms_callee mc_M 123 1 := ⟨mk_sub6 (List.mem_of_getElem? (i := 180) rfl) rfl, mk_tb (mk_sub1 (List.mem_of_getElem? (i := 23) rfl) rfl), by decide +kernel, by decide +kernel, by decide +kernel, by decide +kernel, by decide +kernel⟩
set_option maxRecDepth 100000 in
theorem mk_im123 : Jvm.Cond.instanceMethod (mc_M 123).1 ∈ ms_tb := mk_tb (mk_sub6 (List.mem_of_getElem? (i := 178) rfl) rfl)
set_option maxRecDepth 100000 in
theorem mk_se123 : Jvm.Cond.selects (mc_M 123).1.cls (mc_M 123).1 (mc_M 123).1 ∈ ms_tb := mk_tb (mk_sub6 (List.mem_of_getElem? (i := 179) rfl) rfl)
set_option maxRecDepth 100000 in
theorem mk_ca124 : ms_callee mc_M 124 1 := ⟨mk_sub6 (List.mem_of_getElem? (i := 188) rfl) rfl, mk_tb (mk_sub1 (List.mem_of_getElem? (i := 23) rfl) rfl), by decide +kernel, by decide +kernel, by decide +kernel, by decide +kernel, by decide +kernel⟩
set_option maxRecDepth 100000 in
theorem mk_im124 : Jvm.Cond.instanceMethod (mc_M 124).1 ∈ ms_tb := mk_tb (mk_sub6 (List.mem_of_getElem? (i := 186) rfl) rfl)
set_option maxRecDepth 100000 in
theorem mk_se124 : Jvm.Cond.selects (mc_M 124).1.cls (mc_M 124).1 (mc_M 124).1 ∈ ms_tb := mk_tb (mk_sub6 (List.mem_of_getElem? (i := 187) rfl) rfl)
set_option maxRecDepth 100000 in
theorem mk_ca125 : ms_callee mc_M 125 1 := ⟨mk_sub1 (List.mem_of_getElem? (i := 88) rfl) rfl, mk_tb (mk_sub1 (List.mem_of_getElem? (i := 7) rfl) rfl), by decide +kernel, by decide +kernel, by decide +kernel, by decide +kernel, by decide +kernel⟩
set_option maxRecDepth 100000 in
theorem mk_im125 : Jvm.Cond.instanceMethod (mc_M 125).1 ∈ ms_tb := mk_tb (mk_sub1 (List.mem_of_getElem? (i := 87) rfl) rfl)
set_option maxRecDepth 100000 in
theorem mk_ca126 : ms_callee mc_M 126 3 := ⟨mk_sub6 (List.mem_of_getElem? (i := 226) rfl) rfl, mk_tb (mk_sub1 (List.mem_of_getElem? (i := 7) rfl) rfl), by decide +kernel, by decide +kernel, by decide +kernel, by decide +kernel, by decide +kernel⟩
set_option maxRecDepth 100000 in
theorem mk_im126 : Jvm.Cond.instanceMethod (mc_M 126).1 ∈ ms_tb := mk_tb (mk_sub6 (List.mem_of_getElem? (i := 224) rfl) rfl)
set_option maxRecDepth 100000 in
theorem mk_se126 : Jvm.Cond.selects (mc_M 126).1.cls (mc_M 126).1 (mc_M 126).1 ∈ ms_tb := mk_tb (mk_sub6 (List.mem_of_getElem? (i := 225) rfl) rfl)
set_option maxRecDepth 100000 in
theorem mk_ca127 : ms_callee mc_M 127 2 := ⟨mk_sub6 (List.mem_of_getElem? (i := 230) rfl) rfl, mk_tb (mk_sub1 (List.mem_of_getElem? (i := 7) rfl) rfl), by decide +kernel, by decide +kernel, by decide +kernel, by decide +kernel, by decide +kernel⟩
set_option maxRecDepth 100000 in
theorem mk_im127 : Jvm.Cond.instanceMethod (mc_M 127).1 ∈ ms_tb := mk_tb (mk_sub6 (List.mem_of_getElem? (i := 228) rfl) rfl)
set_option maxRecDepth 100000 in
theorem mk_se127 : Jvm.Cond.selects (mc_M 127).1.cls (mc_M 127).1 (mc_M 127).1 ∈ ms_tb := mk_tb (mk_sub6 (List.mem_of_getElem? (i := 229) rfl) rfl)
set_option maxRecDepth 100000 in
theorem mk_ca128 : ms_callee mc_M 128 2 := ⟨mk_sub7 (List.mem_of_getElem? (i := 16) rfl) rfl, mk_tb (mk_sub1 (List.mem_of_getElem? (i := 7) rfl) rfl), by decide +kernel, by decide +kernel, by decide +kernel, by decide +kernel, by decide +kernel⟩
set_option maxRecDepth 100000 in
theorem mk_im128 : Jvm.Cond.instanceMethod (mc_M 128).1 ∈ ms_tb := mk_tb (mk_sub7 (List.mem_of_getElem? (i := 14) rfl) rfl)
set_option maxRecDepth 100000 in
theorem mk_se128 : Jvm.Cond.selects (mc_M 128).1.cls (mc_M 128).1 (mc_M 128).1 ∈ ms_tb := mk_tb (mk_sub7 (List.mem_of_getElem? (i := 15) rfl) rfl)
set_option maxRecDepth 100000 in
theorem mk_ca129 : ms_callee mc_M 129 0 := ⟨mk_sub7 (List.mem_of_getElem? (i := 12) rfl) rfl, mk_tb (mk_sub1 (List.mem_of_getElem? (i := 7) rfl) rfl), by decide +kernel, by decide +kernel, by decide +kernel, by decide +kernel, by decide +kernel⟩
set_option maxRecDepth 100000 in
theorem mk_im129 : Jvm.Cond.instanceMethod (mc_M 129).1 ∈ ms_tb := mk_tb (mk_sub7 (List.mem_of_getElem? (i := 10) rfl) rfl)
set_option maxRecDepth 100000 in
theorem mk_se129 : Jvm.Cond.selects (mc_M 129).1.cls (mc_M 129).1 (mc_M 129).1 ∈ ms_tb := mk_tb (mk_sub7 (List.mem_of_getElem? (i := 11) rfl) rfl)
set_option maxRecDepth 100000 in
theorem mk_ca130 : ms_callee mc_M 130 2 := ⟨mk_sub7 (List.mem_of_getElem? (i := 25) rfl) rfl, mk_tb (mk_sub1 (List.mem_of_getElem? (i := 7) rfl) rfl), by decide +kernel, by decide +kernel, by decide +kernel, by decide +kernel, by decide +kernel⟩
set_option maxRecDepth 100000 in
theorem mk_im130 : Jvm.Cond.instanceMethod (mc_M 130).1 ∈ ms_tb := mk_tb (mk_sub7 (List.mem_of_getElem? (i := 23) rfl) rfl)
set_option maxRecDepth 100000 in
theorem mk_se130 : Jvm.Cond.selects (mc_M 130).1.cls (mc_M 130).1 (mc_M 130).1 ∈ ms_tb := mk_tb (mk_sub7 (List.mem_of_getElem? (i := 24) rfl) rfl)
set_option maxRecDepth 100000 in
theorem mk_ca131 : ms_callee mc_M 131 1 := ⟨mk_sub7 (List.mem_of_getElem? (i := 37) rfl) rfl, mk_tb (mk_sub1 (List.mem_of_getElem? (i := 7) rfl) rfl), by decide +kernel, by decide +kernel, by decide +kernel, by decide +kernel, by decide +kernel⟩
set_option maxRecDepth 100000 in
theorem mk_im131 : Jvm.Cond.instanceMethod (mc_M 131).1 ∈ ms_tb := mk_tb (mk_sub7 (List.mem_of_getElem? (i := 35) rfl) rfl)
set_option maxRecDepth 100000 in
theorem mk_se131 : Jvm.Cond.selects (mc_M 131).1.cls (mc_M 131).1 (mc_M 131).1 ∈ ms_tb := mk_tb (mk_sub7 (List.mem_of_getElem? (i := 36) rfl) rfl)
set_option maxRecDepth 100000 in
theorem mk_ca132 : ms_callee mc_M 132 4 := ⟨mk_sub6 (List.mem_of_getElem? (i := 137) rfl) rfl, mk_tb (mk_sub1 (List.mem_of_getElem? (i := 7) rfl) rfl), by decide +kernel, by decide +kernel, by decide +kernel, by decide +kernel, by decide +kernel⟩
set_option maxRecDepth 100000 in
theorem mk_im132 : Jvm.Cond.instanceMethod (mc_M 132).1 ∈ ms_tb := mk_tb (mk_sub6 (List.mem_of_getElem? (i := 135) rfl) rfl)
set_option maxRecDepth 100000 in
theorem mk_se132 : Jvm.Cond.selects (mc_M 132).1.cls (mc_M 132).1 (mc_M 132).1 ∈ ms_tb := mk_tb (mk_sub6 (List.mem_of_getElem? (i := 136) rfl) rfl)
set_option maxRecDepth 100000 in
theorem mk_ca133 : ms_callee mc_M 133 1 := ⟨mk_sub6 (List.mem_of_getElem? (i := 85) rfl) rfl, mk_tb (mk_sub1 (List.mem_of_getElem? (i := 7) rfl) rfl), by decide +kernel, by decide +kernel, by decide +kernel, by decide +kernel, by decide +kernel⟩
set_option maxRecDepth 100000 in
theorem mk_im133 : Jvm.Cond.instanceMethod (mc_M 133).1 ∈ ms_tb := mk_tb (mk_sub6 (List.mem_of_getElem? (i := 83) rfl) rfl)
set_option maxRecDepth 100000 in
theorem mk_se133 : Jvm.Cond.selects (mc_M 133).1.cls (mc_M 133).1 (mc_M 133).1 ∈ ms_tb := mk_tb (mk_sub6 (List.mem_of_getElem? (i := 84) rfl) rfl)
set_option maxRecDepth 100000 in
theorem mk_ca134 : ms_callee mc_M 134 2 := ⟨mk_sub6 (List.mem_of_getElem? (i := 105) rfl) rfl, mk_tb (mk_sub1 (List.mem_of_getElem? (i := 7) rfl) rfl), by decide +kernel, by decide +kernel, by decide +kernel, by decide +kernel, by decide +kernel⟩
set_option maxRecDepth 100000 in
theorem mk_im134 : Jvm.Cond.instanceMethod (mc_M 134).1 ∈ ms_tb := mk_tb (mk_sub6 (List.mem_of_getElem? (i := 103) rfl) rfl)
set_option maxRecDepth 100000 in
theorem mk_se134 : Jvm.Cond.selects (mc_M 134).1.cls (mc_M 134).1 (mc_M 134).1 ∈ ms_tb := mk_tb (mk_sub6 (List.mem_of_getElem? (i := 104) rfl) rfl)
set_option maxRecDepth 100000 in
theorem mk_ca135 : ms_callee mc_M 135 1 := ⟨mk_sub6 (List.mem_of_getElem? (i := 218) rfl) rfl, mk_tb (mk_sub1 (List.mem_of_getElem? (i := 7) rfl) rfl), by decide +kernel, by decide +kernel, by decide +kernel, by decide +kernel, by decide +kernel⟩
set_option maxRecDepth 100000 in
theorem mk_im135 : Jvm.Cond.instanceMethod (mc_M 135).1 ∈ ms_tb := mk_tb (mk_sub6 (List.mem_of_getElem? (i := 216) rfl) rfl)
set_option maxRecDepth 100000 in
theorem mk_se135 : Jvm.Cond.selects (mc_M 135).1.cls (mc_M 135).1 (mc_M 135).1 ∈ ms_tb := mk_tb (mk_sub6 (List.mem_of_getElem? (i := 217) rfl) rfl)
set_option maxRecDepth 100000 in
theorem mk_ca136 : ms_callee mc_M 136 0 := ⟨mk_sub6 (List.mem_of_getElem? (i := 113) rfl) rfl, mk_tb (mk_sub1 (List.mem_of_getElem? (i := 7) rfl) rfl), by decide +kernel, by decide +kernel, by decide +kernel, by decide +kernel, by decide +kernel⟩
set_option maxRecDepth 100000 in
theorem mk_im136 : Jvm.Cond.instanceMethod (mc_M 136).1 ∈ ms_tb := mk_tb (mk_sub6 (List.mem_of_getElem? (i := 111) rfl) rfl)
set_option maxRecDepth 100000 in
theorem mk_se136 : Jvm.Cond.selects (mc_M 136).1.cls (mc_M 136).1 (mc_M 136).1 ∈ ms_tb := mk_tb (mk_sub6 (List.mem_of_getElem? (i := 112) rfl) rfl)
set_option maxRecDepth 100000 in
theorem mk_ca137 : ms_callee mc_M 137 2 := ⟨mk_sub6 (List.mem_of_getElem? (i := 158) rfl) rfl, mk_tb (mk_sub1 (List.mem_of_getElem? (i := 7) rfl) rfl), by decide +kernel, by decide +kernel, by decide +kernel, by decide +kernel, by decide +kernel⟩
set_option maxRecDepth 100000 in
theorem mk_im137 : Jvm.Cond.instanceMethod (mc_M 137).1 ∈ ms_tb := mk_tb (mk_sub6 (List.mem_of_getElem? (i := 156) rfl) rfl)
set_option maxRecDepth 100000 in
theorem mk_se137 : Jvm.Cond.selects (mc_M 137).1.cls (mc_M 137).1 (mc_M 137).1 ∈ ms_tb := mk_tb (mk_sub6 (List.mem_of_getElem? (i := 157) rfl) rfl)
set_option maxRecDepth 100000 in
theorem mk_ca138 : ms_callee mc_M 138 0 := ⟨mk_sub7 (List.mem_of_getElem? (i := 42) rfl) rfl, mk_tb (mk_sub1 (List.mem_of_getElem? (i := 7) rfl) rfl), by decide +kernel, by decide +kernel, by decide +kernel, by decide +kernel, by decide +kernel⟩
set_option maxRecDepth 100000 in
theorem mk_im138 : Jvm.Cond.instanceMethod (mc_M 138).1 ∈ ms_tb := mk_tb (mk_sub7 (List.mem_of_getElem? (i := 40) rfl) rfl)
set_option maxRecDepth 100000 in
theorem mk_se138 : Jvm.Cond.selects (mc_M 138).1.cls (mc_M 138).1 (mc_M 138).1 ∈ ms_tb := mk_tb (mk_sub7 (List.mem_of_getElem? (i := 41) rfl) rfl)
set_option maxRecDepth 100000 in
theorem mk_ca139 : ms_callee mc_M 139 0 := ⟨mk_sub2 (List.mem_of_getElem? (i := 189) rfl) rfl, mk_tb (mk_sub1 (List.mem_of_getElem? (i := 11) rfl) rfl), by decide +kernel, by decide +kernel, by decide +kernel, by decide +kernel, by decide +kernel⟩
set_option maxRecDepth 100000 in
theorem mk_im139 : Jvm.Cond.instanceMethod (mc_M 139).1 ∈ ms_tb := mk_tb (mk_sub2 (List.mem_of_getElem? (i := 188) rfl) rfl)
set_option maxRecDepth 100000 in
theorem mk_ca140 : ms_callee mc_M 140 2 := ⟨mk_sub4 (List.mem_of_getElem? (i := 1) rfl) rfl, mk_tb (mk_sub1 (List.mem_of_getElem? (i := 11) rfl) rfl), by decide +kernel, by decide +kernel, by decide +kernel, by decide +kernel, by decide +kernel⟩
set_option maxRecDepth 100000 in
theorem mk_im140 : Jvm.Cond.static (mc_M 140).1 ∈ ms_tb := mk_tb (mk_sub4 (List.mem_of_getElem? (i := 0) rfl) rfl)
set_option maxRecDepth 100000 in
theorem mk_ca141 : ms_callee mc_M 141 1 := ⟨mk_sub3 (List.mem_of_getElem? (i := 223) rfl) rfl, mk_tb (mk_sub1 (List.mem_of_getElem? (i := 11) rfl) rfl), by decide +kernel, by decide +kernel, by decide +kernel, by decide +kernel, by decide +kernel⟩
set_option maxRecDepth 100000 in
theorem mk_im141 : Jvm.Cond.static (mc_M 141).1 ∈ ms_tb := mk_tb (mk_sub3 (List.mem_of_getElem? (i := 222) rfl) rfl)
set_option maxRecDepth 100000 in
theorem mk_ca142 : ms_callee mc_M 142 0 := ⟨mk_sub3 (List.mem_of_getElem? (i := 185) rfl) rfl, mk_tb (mk_sub1 (List.mem_of_getElem? (i := 11) rfl) rfl), by decide +kernel, by decide +kernel, by decide +kernel, by decide +kernel, by decide +kernel⟩
set_option maxRecDepth 100000 in
theorem mk_im142 : Jvm.Cond.instanceMethod (mc_M 142).1 ∈ ms_tb := mk_tb (mk_sub3 (List.mem_of_getElem? (i := 184) rfl) rfl)
set_option maxRecDepth 100000 in
theorem mk_se142 : Jvm.Cond.selects (mc_M 142).1.cls (mc_M 142).1 (mc_M 142).1 ∈ ms_tb := mk_tb (mk_pr1 (w := (⟨"InvariantDesk$State", "cells", "()I"⟩, 6)) (List.mem_of_getElem? (i := 4) rfl))
set_option maxRecDepth 100000 in
theorem mk_ca143 : ms_callee mc_M 143 0 := ⟨mk_sub3 (List.mem_of_getElem? (i := 144) rfl) rfl, mk_tb (mk_sub1 (List.mem_of_getElem? (i := 11) rfl) rfl), by decide +kernel, by decide +kernel, by decide +kernel, by decide +kernel, by decide +kernel⟩
set_option maxRecDepth 100000 in
theorem mk_im143 : Jvm.Cond.instanceMethod (mc_M 143).1 ∈ ms_tb := mk_tb (mk_sub3 (List.mem_of_getElem? (i := 142) rfl) rfl)
set_option maxRecDepth 100000 in
theorem mk_se143 : Jvm.Cond.selects (mc_M 143).1.cls (mc_M 143).1 (mc_M 143).1 ∈ ms_tb := mk_tb (mk_sub3 (List.mem_of_getElem? (i := 143) rfl) rfl)
set_option maxRecDepth 100000 in
theorem mk_ca144 : ms_callee mc_M 144 1 := ⟨mk_sub3 (List.mem_of_getElem? (i := 181) rfl) rfl, mk_tb (mk_sub1 (List.mem_of_getElem? (i := 11) rfl) rfl), by decide +kernel, by decide +kernel, by decide +kernel, by decide +kernel, by decide +kernel⟩
set_option maxRecDepth 100000 in
theorem mk_im144 : Jvm.Cond.instanceMethod (mc_M 144).1 ∈ ms_tb := mk_tb (mk_sub3 (List.mem_of_getElem? (i := 179) rfl) rfl)
set_option maxRecDepth 100000 in
theorem mk_se144 : Jvm.Cond.selects (mc_M 144).1.cls (mc_M 144).1 (mc_M 144).1 ∈ ms_tb := mk_tb (mk_sub3 (List.mem_of_getElem? (i := 180) rfl) rfl)
set_option maxRecDepth 100000 in
theorem mk_ca145 : ms_callee mc_M 145 2 := ⟨mk_sub3 (List.mem_of_getElem? (i := 165) rfl) rfl, mk_tb (mk_sub1 (List.mem_of_getElem? (i := 11) rfl) rfl), by decide +kernel, by decide +kernel, by decide +kernel, by decide +kernel, by decide +kernel⟩
set_option maxRecDepth 100000 in
theorem mk_im145 : Jvm.Cond.instanceMethod (mc_M 145).1 ∈ ms_tb := mk_tb (mk_sub3 (List.mem_of_getElem? (i := 163) rfl) rfl)
set_option maxRecDepth 100000 in
theorem mk_se145 : Jvm.Cond.selects (mc_M 145).1.cls (mc_M 145).1 (mc_M 145).1 ∈ ms_tb := mk_tb (mk_sub3 (List.mem_of_getElem? (i := 164) rfl) rfl)
set_option maxRecDepth 100000 in
theorem mk_ca146 : ms_callee mc_M 146 2 := ⟨mk_sub4 (List.mem_of_getElem? (i := 77) rfl) rfl, mk_tb (mk_sub1 (List.mem_of_getElem? (i := 11) rfl) rfl), by decide +kernel, by decide +kernel, by decide +kernel, by decide +kernel, by decide +kernel⟩
set_option maxRecDepth 100000 in
theorem mk_im146 : Jvm.Cond.instanceMethod (mc_M 146).1 ∈ ms_tb := mk_tb (mk_sub4 (List.mem_of_getElem? (i := 75) rfl) rfl)
set_option maxRecDepth 100000 in
theorem mk_se146 : Jvm.Cond.selects (mc_M 146).1.cls (mc_M 146).1 (mc_M 146).1 ∈ ms_tb := mk_tb (mk_sub4 (List.mem_of_getElem? (i := 76) rfl) rfl)
set_option maxRecDepth 100000 in
theorem mk_ca147 : ms_callee mc_M 147 3 := ⟨mk_sub4 (List.mem_of_getElem? (i := 146) rfl) rfl, mk_tb (mk_sub1 (List.mem_of_getElem? (i := 11) rfl) rfl), by decide +kernel, by decide +kernel, by decide +kernel, by decide +kernel, by decide +kernel⟩
set_option maxRecDepth 100000 in
theorem mk_im147 : Jvm.Cond.instanceMethod (mc_M 147).1 ∈ ms_tb := mk_tb (mk_sub4 (List.mem_of_getElem? (i := 144) rfl) rfl)
set_option maxRecDepth 100000 in
theorem mk_se147 : Jvm.Cond.selects (mc_M 147).1.cls (mc_M 147).1 (mc_M 147).1 ∈ ms_tb := mk_tb (mk_sub4 (List.mem_of_getElem? (i := 145) rfl) rfl)
set_option maxRecDepth 100000 in
theorem mk_ca148 : ms_callee mc_M 148 0 := ⟨mk_sub3 (List.mem_of_getElem? (i := 230) rfl) rfl, mk_tb (mk_sub1 (List.mem_of_getElem? (i := 11) rfl) rfl), by decide +kernel, by decide +kernel, by decide +kernel, by decide +kernel, by decide +kernel⟩
set_option maxRecDepth 100000 in
theorem mk_im148 : Jvm.Cond.instanceMethod (mc_M 148).1 ∈ ms_tb := mk_tb (mk_sub3 (List.mem_of_getElem? (i := 228) rfl) rfl)
set_option maxRecDepth 100000 in
theorem mk_se148 : Jvm.Cond.selects (mc_M 148).1.cls (mc_M 148).1 (mc_M 148).1 ∈ ms_tb := mk_tb (mk_sub3 (List.mem_of_getElem? (i := 229) rfl) rfl)
set_option maxRecDepth 100000 in
theorem mk_ca149 : ms_callee mc_M 149 1 := ⟨mk_sub3 (List.mem_of_getElem? (i := 196) rfl) rfl, mk_tb (mk_sub1 (List.mem_of_getElem? (i := 11) rfl) rfl), by decide +kernel, by decide +kernel, by decide +kernel, by decide +kernel, by decide +kernel⟩
set_option maxRecDepth 100000 in
theorem mk_im149 : Jvm.Cond.instanceMethod (mc_M 149).1 ∈ ms_tb := mk_tb (mk_sub3 (List.mem_of_getElem? (i := 194) rfl) rfl)
set_option maxRecDepth 100000 in
theorem mk_se149 : Jvm.Cond.selects (mc_M 149).1.cls (mc_M 149).1 (mc_M 149).1 ∈ ms_tb := mk_tb (mk_sub3 (List.mem_of_getElem? (i := 195) rfl) rfl)
set_option maxRecDepth 100000 in
theorem mk_ca150 : ms_callee mc_M 150 1 := ⟨mk_sub3 (List.mem_of_getElem? (i := 205) rfl) rfl, mk_tb (mk_sub1 (List.mem_of_getElem? (i := 11) rfl) rfl), by decide +kernel, by decide +kernel, by decide +kernel, by decide +kernel, by decide +kernel⟩
set_option maxRecDepth 100000 in
theorem mk_im150 : Jvm.Cond.instanceMethod (mc_M 150).1 ∈ ms_tb := mk_tb (mk_sub3 (List.mem_of_getElem? (i := 203) rfl) rfl)
set_option maxRecDepth 100000 in
theorem mk_se150 : Jvm.Cond.selects (mc_M 150).1.cls (mc_M 150).1 (mc_M 150).1 ∈ ms_tb := mk_tb (mk_sub3 (List.mem_of_getElem? (i := 204) rfl) rfl)
set_option maxRecDepth 100000 in
theorem mk_ca151 : ms_callee mc_M 151 1 := ⟨mk_sub3 (List.mem_of_getElem? (i := 177) rfl) rfl, mk_tb (mk_sub1 (List.mem_of_getElem? (i := 11) rfl) rfl), by decide +kernel, by decide +kernel, by decide +kernel, by decide +kernel, by decide +kernel⟩
set_option maxRecDepth 100000 in
theorem mk_im151 : Jvm.Cond.instanceMethod (mc_M 151).1 ∈ ms_tb := mk_tb (mk_sub3 (List.mem_of_getElem? (i := 175) rfl) rfl)
set_option maxRecDepth 100000 in
theorem mk_se151 : Jvm.Cond.selects (mc_M 151).1.cls (mc_M 151).1 (mc_M 151).1 ∈ ms_tb := mk_tb (mk_sub3 (List.mem_of_getElem? (i := 176) rfl) rfl)
set_option maxRecDepth 100000 in
theorem mk_ca152 : ms_callee mc_M 152 1 := ⟨mk_sub3 (List.mem_of_getElem? (i := 218) rfl) rfl, mk_tb (mk_sub1 (List.mem_of_getElem? (i := 11) rfl) rfl), by decide +kernel, by decide +kernel, by decide +kernel, by decide +kernel, by decide +kernel⟩
set_option maxRecDepth 100000 in
theorem mk_im152 : Jvm.Cond.instanceMethod (mc_M 152).1 ∈ ms_tb := mk_tb (mk_sub3 (List.mem_of_getElem? (i := 216) rfl) rfl)
set_option maxRecDepth 100000 in
theorem mk_se152 : Jvm.Cond.selects (mc_M 152).1.cls (mc_M 152).1 (mc_M 152).1 ∈ ms_tb := mk_tb (mk_sub3 (List.mem_of_getElem? (i := 217) rfl) rfl)
set_option maxRecDepth 100000 in
theorem mk_ca153 : ms_callee mc_M 153 0 := ⟨mk_sub4 (List.mem_of_getElem? (i := 166) rfl) rfl, mk_tb (mk_sub1 (List.mem_of_getElem? (i := 11) rfl) rfl), by decide +kernel, by decide +kernel, by decide +kernel, by decide +kernel, by decide +kernel⟩
set_option maxRecDepth 100000 in
theorem mk_im153 : Jvm.Cond.instanceMethod (mc_M 153).1 ∈ ms_tb := mk_tb (mk_sub4 (List.mem_of_getElem? (i := 164) rfl) rfl)
set_option maxRecDepth 100000 in
theorem mk_se153 : Jvm.Cond.selects (mc_M 153).1.cls (mc_M 153).1 (mc_M 153).1 ∈ ms_tb := mk_tb (mk_sub4 (List.mem_of_getElem? (i := 165) rfl) rfl)
set_option maxRecDepth 100000 in
theorem mk_ca154 : ms_callee mc_M 154 0 := ⟨mk_sub4 (List.mem_of_getElem? (i := 162) rfl) rfl, mk_tb (mk_sub1 (List.mem_of_getElem? (i := 11) rfl) rfl), by decide +kernel, by decide +kernel, by decide +kernel, by decide +kernel, by decide +kernel⟩
set_option maxRecDepth 100000 in
theorem mk_im154 : Jvm.Cond.instanceMethod (mc_M 154).1 ∈ ms_tb := mk_tb (mk_sub4 (List.mem_of_getElem? (i := 160) rfl) rfl)
set_option maxRecDepth 100000 in
theorem mk_se154 : Jvm.Cond.selects (mc_M 154).1.cls (mc_M 154).1 (mc_M 154).1 ∈ ms_tb := mk_tb (mk_sub4 (List.mem_of_getElem? (i := 161) rfl) rfl)
set_option maxRecDepth 100000 in
theorem mk_ca155 : ms_callee mc_M 155 1 := ⟨mk_sub4 (List.mem_of_getElem? (i := 170) rfl) rfl, mk_tb (mk_sub1 (List.mem_of_getElem? (i := 11) rfl) rfl), by decide +kernel, by decide +kernel, by decide +kernel, by decide +kernel, by decide +kernel⟩
set_option maxRecDepth 100000 in
theorem mk_im155 : Jvm.Cond.instanceMethod (mc_M 155).1 ∈ ms_tb := mk_tb (mk_sub4 (List.mem_of_getElem? (i := 168) rfl) rfl)
set_option maxRecDepth 100000 in
theorem mk_se155 : Jvm.Cond.selects (mc_M 155).1.cls (mc_M 155).1 (mc_M 155).1 ∈ ms_tb := mk_tb (mk_sub4 (List.mem_of_getElem? (i := 169) rfl) rfl)
set_option maxRecDepth 100000 in
theorem mk_ca156 : ms_callee mc_M 156 1 := ⟨mk_sub4 (List.mem_of_getElem? (i := 180) rfl) rfl, mk_tb (mk_sub1 (List.mem_of_getElem? (i := 11) rfl) rfl), by decide +kernel, by decide +kernel, by decide +kernel, by decide +kernel, by decide +kernel⟩
set_option maxRecDepth 100000 in
theorem mk_im156 : Jvm.Cond.instanceMethod (mc_M 156).1 ∈ ms_tb := mk_tb (mk_sub4 (List.mem_of_getElem? (i := 178) rfl) rfl)
set_option maxRecDepth 100000 in
theorem mk_se156 : Jvm.Cond.selects (mc_M 156).1.cls (mc_M 156).1 (mc_M 156).1 ∈ ms_tb := mk_tb (mk_sub4 (List.mem_of_getElem? (i := 179) rfl) rfl)
set_option maxRecDepth 100000 in
theorem mk_ca157 : ms_callee mc_M 157 2 := ⟨mk_sub4 (List.mem_of_getElem? (i := 184) rfl) rfl, mk_tb (mk_sub1 (List.mem_of_getElem? (i := 11) rfl) rfl), by decide +kernel, by decide +kernel, by decide +kernel, by decide +kernel, by decide +kernel⟩
set_option maxRecDepth 100000 in
theorem mk_im157 : Jvm.Cond.instanceMethod (mc_M 157).1 ∈ ms_tb := mk_tb (mk_sub4 (List.mem_of_getElem? (i := 183) rfl) rfl)
set_option maxRecDepth 100000 in
theorem mk_se157 : Jvm.Cond.selects (mc_M 157).1.cls (mc_M 157).1 (mc_M 157).1 ∈ ms_tb := mk_tb (mk_pr3 (w := (⟨"InvariantDesk$State", "swap", "(II)V"⟩, 6)) (List.mem_of_getElem? (i := 0) rfl))
set_option maxRecDepth 100000 in
theorem mk_ca158 : ms_callee mc_M 158 3 := ⟨mk_sub4 (List.mem_of_getElem? (i := 188) rfl) rfl, mk_tb (mk_sub1 (List.mem_of_getElem? (i := 11) rfl) rfl), by decide +kernel, by decide +kernel, by decide +kernel, by decide +kernel, by decide +kernel⟩
set_option maxRecDepth 100000 in
theorem mk_im158 : Jvm.Cond.instanceMethod (mc_M 158).1 ∈ ms_tb := mk_tb (mk_sub4 (List.mem_of_getElem? (i := 186) rfl) rfl)
set_option maxRecDepth 100000 in
theorem mk_se158 : Jvm.Cond.selects (mc_M 158).1.cls (mc_M 158).1 (mc_M 158).1 ∈ ms_tb := mk_tb (mk_sub4 (List.mem_of_getElem? (i := 187) rfl) rfl)
set_option maxRecDepth 100000 in
theorem mk_ca159 : ms_callee mc_M 159 1 := ⟨mk_sub3 (List.mem_of_getElem? (i := 234) rfl) rfl, mk_tb (mk_sub1 (List.mem_of_getElem? (i := 11) rfl) rfl), by decide +kernel, by decide +kernel, by decide +kernel, by decide +kernel, by decide +kernel⟩
set_option maxRecDepth 100000 in
theorem mk_im159 : Jvm.Cond.instanceMethod (mc_M 159).1 ∈ ms_tb := mk_tb (mk_sub3 (List.mem_of_getElem? (i := 232) rfl) rfl)
set_option maxRecDepth 100000 in
theorem mk_se159 : Jvm.Cond.selects (mc_M 159).1.cls (mc_M 159).1 (mc_M 159).1 ∈ ms_tb := mk_tb (mk_sub3 (List.mem_of_getElem? (i := 233) rfl) rfl)
set_option maxRecDepth 100000 in
theorem mk_ca160 : ms_callee mc_M 160 2 := ⟨mk_sub3 (List.mem_of_getElem? (i := 238) rfl) rfl, mk_tb (mk_sub1 (List.mem_of_getElem? (i := 11) rfl) rfl), by decide +kernel, by decide +kernel, by decide +kernel, by decide +kernel, by decide +kernel⟩
set_option maxRecDepth 100000 in
theorem mk_im160 : Jvm.Cond.instanceMethod (mc_M 160).1 ∈ ms_tb := mk_tb (mk_sub3 (List.mem_of_getElem? (i := 237) rfl) rfl)
set_option maxRecDepth 100000 in
theorem mk_se160 : Jvm.Cond.selects (mc_M 160).1.cls (mc_M 160).1 (mc_M 160).1 ∈ ms_tb := mk_tb (mk_pr1 (w := (⟨"InvariantDesk$State", "goThrough", "(I[J)V"⟩, 6)) (List.mem_of_getElem? (i := 8) rfl))
set_option maxRecDepth 100000 in
theorem mk_ca161 : ms_callee mc_M 161 0 := ⟨mk_sub4 (List.mem_of_getElem? (i := 5) rfl) rfl, mk_tb (mk_sub1 (List.mem_of_getElem? (i := 11) rfl) rfl), by decide +kernel, by decide +kernel, by decide +kernel, by decide +kernel, by decide +kernel⟩
set_option maxRecDepth 100000 in
theorem mk_im161 : Jvm.Cond.instanceMethod (mc_M 161).1 ∈ ms_tb := mk_tb (mk_sub4 (List.mem_of_getElem? (i := 4) rfl) rfl)
set_option maxRecDepth 100000 in
theorem mk_se161 : Jvm.Cond.selects (mc_M 161).1.cls (mc_M 161).1 (mc_M 161).1 ∈ ms_tb := mk_tb (mk_pr1 (w := (⟨"InvariantDesk$State", "roundDown", "()V"⟩, 6)) (List.mem_of_getElem? (i := 9) rfl))
set_option maxRecDepth 100000 in
theorem mk_ca162 : ms_callee mc_M 162 1 := ⟨mk_sub4 (List.mem_of_getElem? (i := 10) rfl) rfl, mk_tb (mk_sub1 (List.mem_of_getElem? (i := 11) rfl) rfl), by decide +kernel, by decide +kernel, by decide +kernel, by decide +kernel, by decide +kernel⟩
set_option maxRecDepth 100000 in
theorem mk_im162 : Jvm.Cond.instanceMethod (mc_M 162).1 ∈ ms_tb := mk_tb (mk_sub4 (List.mem_of_getElem? (i := 9) rfl) rfl)
set_option maxRecDepth 100000 in
theorem mk_se162 : Jvm.Cond.selects (mc_M 162).1.cls (mc_M 162).1 (mc_M 162).1 ∈ ms_tb := mk_tb (mk_pr1 (w := (⟨"InvariantDesk$State", "addUp", "([J)V"⟩, 6)) (List.mem_of_getElem? (i := 10) rfl))
set_option maxRecDepth 100000 in
theorem mk_ca163 : ms_callee mc_M 163 3 := ⟨mk_sub7 (List.mem_of_getElem? (i := 211) rfl) rfl, mk_tb (mk_sub1 (List.mem_of_getElem? (i := 11) rfl) rfl), by decide +kernel, by decide +kernel, by decide +kernel, by decide +kernel, by decide +kernel⟩
set_option maxRecDepth 100000 in
theorem mk_im163 : Jvm.Cond.instanceMethod (mc_M 163).1 ∈ ms_tb := mk_tb (mk_sub7 (List.mem_of_getElem? (i := 209) rfl) rfl)
set_option maxRecDepth 100000 in
theorem mk_se163 : Jvm.Cond.selects (mc_M 163).1.cls (mc_M 163).1 (mc_M 163).1 ∈ ms_tb := mk_tb (mk_sub7 (List.mem_of_getElem? (i := 210) rfl) rfl)
set_option maxRecDepth 100000 in
theorem mk_ca164 : ms_callee mc_M 164 5 := ⟨mk_sub1 (List.mem_of_getElem? (i := 170) rfl) rfl, mk_tb (mk_sub1 (List.mem_of_getElem? (i := 8) rfl) rfl), by decide +kernel, by decide +kernel, by decide +kernel, by decide +kernel, by decide +kernel⟩
set_option maxRecDepth 100000 in
theorem mk_im164 : Jvm.Cond.instanceMethod (mc_M 164).1 ∈ ms_tb := mk_tb (mk_sub1 (List.mem_of_getElem? (i := 169) rfl) rfl)
set_option maxRecDepth 100000 in
theorem mk_ca165 : ms_callee mc_M 165 0 := ⟨mk_sub4 (List.mem_of_getElem? (i := 31) rfl) rfl, mk_tb (mk_sub1 (List.mem_of_getElem? (i := 8) rfl) rfl), by decide +kernel, by decide +kernel, by decide +kernel, by decide +kernel, by decide +kernel⟩
set_option maxRecDepth 100000 in
theorem mk_im165 : Jvm.Cond.instanceMethod (mc_M 165).1 ∈ ms_tb := mk_tb (mk_sub4 (List.mem_of_getElem? (i := 29) rfl) rfl)
set_option maxRecDepth 100000 in
theorem mk_se165 : Jvm.Cond.selects (mc_M 165).1.cls (mc_M 165).1 (mc_M 165).1 ∈ ms_tb := mk_tb (mk_sub4 (List.mem_of_getElem? (i := 30) rfl) rfl)
set_option maxRecDepth 100000 in
theorem mk_ca166 : ms_callee mc_M 166 0 := ⟨mk_sub4 (List.mem_of_getElem? (i := 23) rfl) rfl, mk_tb (mk_sub1 (List.mem_of_getElem? (i := 8) rfl) rfl), by decide +kernel, by decide +kernel, by decide +kernel, by decide +kernel, by decide +kernel⟩
set_option maxRecDepth 100000 in
theorem mk_im166 : Jvm.Cond.instanceMethod (mc_M 166).1 ∈ ms_tb := mk_tb (mk_sub4 (List.mem_of_getElem? (i := 21) rfl) rfl)
set_option maxRecDepth 100000 in
theorem mk_se166 : Jvm.Cond.selects (mc_M 166).1.cls (mc_M 166).1 (mc_M 166).1 ∈ ms_tb := mk_tb (mk_sub4 (List.mem_of_getElem? (i := 22) rfl) rfl)
set_option maxRecDepth 100000 in
theorem mk_ca167 : ms_callee mc_M 167 2 := ⟨mk_sub1 (List.mem_of_getElem? (i := 42) rfl) rfl, mk_tb (mk_sub1 (List.mem_of_getElem? (i := 3) rfl) rfl), by decide +kernel, by decide +kernel, by decide +kernel, by decide +kernel, by decide +kernel⟩
set_option maxRecDepth 100000 in
theorem mk_im167 : Jvm.Cond.instanceMethod (mc_M 167).1 ∈ ms_tb := mk_tb (mk_sub1 (List.mem_of_getElem? (i := 41) rfl) rfl)
set_option maxRecDepth 100000 in
theorem mk_ca168 : ms_callee mc_M 168 0 := ⟨mk_sub5 (List.mem_of_getElem? (i := 33) rfl) rfl, mk_tb (mk_sub1 (List.mem_of_getElem? (i := 3) rfl) rfl), by decide +kernel, by decide +kernel, by decide +kernel, by decide +kernel, by decide +kernel⟩
set_option maxRecDepth 100000 in
theorem mk_im168 : Jvm.Cond.instanceMethod (mc_M 168).1 ∈ ms_tb := mk_tb (mk_sub5 (List.mem_of_getElem? (i := 31) rfl) rfl)
set_option maxRecDepth 100000 in
theorem mk_se168 : Jvm.Cond.selects (mc_M 168).1.cls (mc_M 168).1 (mc_M 168).1 ∈ ms_tb := mk_tb (mk_sub5 (List.mem_of_getElem? (i := 32) rfl) rfl)
set_option maxRecDepth 100000 in
theorem mk_ca169 : ms_callee mc_M 169 3 := ⟨mk_sub5 (List.mem_of_getElem? (i := 199) rfl) rfl, mk_tb (mk_sub1 (List.mem_of_getElem? (i := 3) rfl) rfl), by decide +kernel, by decide +kernel, by decide +kernel, by decide +kernel, by decide +kernel⟩
set_option maxRecDepth 100000 in
theorem mk_im169 : Jvm.Cond.instanceMethod (mc_M 169).1 ∈ ms_tb := mk_tb (mk_sub5 (List.mem_of_getElem? (i := 198) rfl) rfl)
set_option maxRecDepth 100000 in
theorem mk_se169 : Jvm.Cond.selects (mc_M 169).1.cls (mc_M 169).1 (mc_M 169).1 ∈ ms_tb := mk_tb (mk_pr3 (w := (⟨"InvariantDesk$Tokens", "add", "(III)V"⟩, 5)) (List.mem_of_getElem? (i := 10) rfl))
set_option maxRecDepth 100000 in
theorem mk_ca170 : ms_callee mc_M 170 1 := ⟨mk_sub5 (List.mem_of_getElem? (i := 41) rfl) rfl, mk_tb (mk_sub1 (List.mem_of_getElem? (i := 3) rfl) rfl), by decide +kernel, by decide +kernel, by decide +kernel, by decide +kernel, by decide +kernel⟩
set_option maxRecDepth 100000 in
theorem mk_im170 : Jvm.Cond.instanceMethod (mc_M 170).1 ∈ ms_tb := mk_tb (mk_sub5 (List.mem_of_getElem? (i := 39) rfl) rfl)
set_option maxRecDepth 100000 in
theorem mk_se170 : Jvm.Cond.selects (mc_M 170).1.cls (mc_M 170).1 (mc_M 170).1 ∈ ms_tb := mk_tb (mk_sub5 (List.mem_of_getElem? (i := 40) rfl) rfl)
set_option maxRecDepth 100000 in
theorem mk_ca171 : ms_callee mc_M 171 1 := ⟨mk_sub5 (List.mem_of_getElem? (i := 37) rfl) rfl, mk_tb (mk_sub1 (List.mem_of_getElem? (i := 3) rfl) rfl), by decide +kernel, by decide +kernel, by decide +kernel, by decide +kernel, by decide +kernel⟩
set_option maxRecDepth 100000 in
theorem mk_im171 : Jvm.Cond.instanceMethod (mc_M 171).1 ∈ ms_tb := mk_tb (mk_sub5 (List.mem_of_getElem? (i := 36) rfl) rfl)
set_option maxRecDepth 100000 in
theorem mk_se171 : Jvm.Cond.selects (mc_M 171).1.cls (mc_M 171).1 (mc_M 171).1 ∈ ms_tb := mk_tb (mk_pr3 (w := (⟨"InvariantDesk$Tokens", "behindBlanks", "(I)I"⟩, 5)) (List.mem_of_getElem? (i := 4) rfl))
set_option maxRecDepth 100000 in
theorem mk_ca172 : ms_callee mc_M 172 1 := ⟨mk_sub5 (List.mem_of_getElem? (i := 48) rfl) rfl, mk_tb (mk_sub1 (List.mem_of_getElem? (i := 3) rfl) rfl), by decide +kernel, by decide +kernel, by decide +kernel, by decide +kernel, by decide +kernel⟩
set_option maxRecDepth 100000 in
theorem mk_im172 : Jvm.Cond.static (mc_M 172).1 ∈ ms_tb := mk_tb (mk_sub5 (List.mem_of_getElem? (i := 47) rfl) rfl)
set_option maxRecDepth 100000 in
theorem mk_ca173 : ms_callee mc_M 173 1 := ⟨mk_sub5 (List.mem_of_getElem? (i := 55) rfl) rfl, mk_tb (mk_sub1 (List.mem_of_getElem? (i := 3) rfl) rfl), by decide +kernel, by decide +kernel, by decide +kernel, by decide +kernel, by decide +kernel⟩
set_option maxRecDepth 100000 in
theorem mk_im173 : Jvm.Cond.static (mc_M 173).1 ∈ ms_tb := mk_tb (mk_sub5 (List.mem_of_getElem? (i := 54) rfl) rfl)
set_option maxRecDepth 100000 in
theorem mk_ca174 : ms_callee mc_M 174 1 := ⟨mk_sub5 (List.mem_of_getElem? (i := 45) rfl) rfl, mk_tb (mk_sub1 (List.mem_of_getElem? (i := 3) rfl) rfl), by decide +kernel, by decide +kernel, by decide +kernel, by decide +kernel, by decide +kernel⟩
set_option maxRecDepth 100000 in
theorem mk_im174 : Jvm.Cond.instanceMethod (mc_M 174).1 ∈ ms_tb := mk_tb (mk_sub5 (List.mem_of_getElem? (i := 44) rfl) rfl)
set_option maxRecDepth 100000 in
theorem mk_se174 : Jvm.Cond.selects (mc_M 174).1.cls (mc_M 174).1 (mc_M 174).1 ∈ ms_tb := mk_tb (mk_pr3 (w := (⟨"InvariantDesk$Tokens", "widthAt", "(I)I"⟩, 5)) (List.mem_of_getElem? (i := 5) rfl))
set_option maxRecDepth 100000 in
theorem mk_ca175 : ms_callee mc_M 175 1 := ⟨mk_sub5 (List.mem_of_getElem? (i := 52) rfl) rfl, mk_tb (mk_sub1 (List.mem_of_getElem? (i := 3) rfl) rfl), by decide +kernel, by decide +kernel, by decide +kernel, by decide +kernel, by decide +kernel⟩
set_option maxRecDepth 100000 in
theorem mk_im175 : Jvm.Cond.instanceMethod (mc_M 175).1 ∈ ms_tb := mk_tb (mk_sub5 (List.mem_of_getElem? (i := 50) rfl) rfl)
set_option maxRecDepth 100000 in
theorem mk_se175 : Jvm.Cond.selects (mc_M 175).1.cls (mc_M 175).1 (mc_M 175).1 ∈ ms_tb := mk_tb (mk_sub5 (List.mem_of_getElem? (i := 51) rfl) rfl)
set_option maxRecDepth 100000 in
theorem mk_ca176 : ms_callee mc_M 176 1 := ⟨mk_sub5 (List.mem_of_getElem? (i := 59) rfl) rfl, mk_tb (mk_sub1 (List.mem_of_getElem? (i := 3) rfl) rfl), by decide +kernel, by decide +kernel, by decide +kernel, by decide +kernel, by decide +kernel⟩
set_option maxRecDepth 100000 in
theorem mk_im176 : Jvm.Cond.instanceMethod (mc_M 176).1 ∈ ms_tb := mk_tb (mk_sub5 (List.mem_of_getElem? (i := 58) rfl) rfl)
set_option maxRecDepth 100000 in
theorem mk_se176 : Jvm.Cond.selects (mc_M 176).1.cls (mc_M 176).1 (mc_M 176).1 ∈ ms_tb := mk_tb (mk_pr3 (w := (⟨"InvariantDesk$Tokens", "numberWidth", "(I)I"⟩, 5)) (List.mem_of_getElem? (i := 6) rfl))
set_option maxRecDepth 100000 in
theorem mk_ca177 : ms_callee mc_M 177 1 := ⟨mk_sub5 (List.mem_of_getElem? (i := 63) rfl) rfl, mk_tb (mk_sub1 (List.mem_of_getElem? (i := 3) rfl) rfl), by decide +kernel, by decide +kernel, by decide +kernel, by decide +kernel, by decide +kernel⟩
set_option maxRecDepth 100000 in
theorem mk_im177 : Jvm.Cond.instanceMethod (mc_M 177).1 ∈ ms_tb := mk_tb (mk_sub5 (List.mem_of_getElem? (i := 61) rfl) rfl)
set_option maxRecDepth 100000 in
theorem mk_se177 : Jvm.Cond.selects (mc_M 177).1.cls (mc_M 177).1 (mc_M 177).1 ∈ ms_tb := mk_tb (mk_sub5 (List.mem_of_getElem? (i := 62) rfl) rfl)
set_option maxRecDepth 100000 in
theorem mk_ca178 : ms_callee mc_M 178 2 := ⟨mk_sub5 (List.mem_of_getElem? (i := 158) rfl) rfl, mk_tb (mk_sub1 (List.mem_of_getElem? (i := 3) rfl) rfl), by decide +kernel, by decide +kernel, by decide +kernel, by decide +kernel, by decide +kernel⟩
set_option maxRecDepth 100000 in
theorem mk_im178 : Jvm.Cond.instanceMethod (mc_M 178).1 ∈ ms_tb := mk_tb (mk_sub5 (List.mem_of_getElem? (i := 157) rfl) rfl)
set_option maxRecDepth 100000 in
theorem mk_se178 : Jvm.Cond.selects (mc_M 178).1.cls (mc_M 178).1 (mc_M 178).1 ∈ ms_tb := mk_tb (mk_pr3 (w := (⟨"InvariantDesk$Tokens", "kindAt", "(II)I"⟩, 5)) (List.mem_of_getElem? (i := 7) rfl))
set_option maxRecDepth 100000 in
theorem mk_ca179 : ms_callee mc_M 179 2 := ⟨mk_sub5 (List.mem_of_getElem? (i := 69) rfl) rfl, mk_tb (mk_sub1 (List.mem_of_getElem? (i := 3) rfl) rfl), by decide +kernel, by decide +kernel, by decide +kernel, by decide +kernel, by decide +kernel⟩
set_option maxRecDepth 100000 in
theorem mk_im179 : Jvm.Cond.static (mc_M 179).1 ∈ ms_tb := mk_tb (mk_sub5 (List.mem_of_getElem? (i := 68) rfl) rfl)
set_option maxRecDepth 100000 in
theorem mk_ca180 : ms_callee mc_M 180 2 := ⟨mk_sub5 (List.mem_of_getElem? (i := 162) rfl) rfl, mk_tb (mk_sub1 (List.mem_of_getElem? (i := 3) rfl) rfl), by decide +kernel, by decide +kernel, by decide +kernel, by decide +kernel, by decide +kernel⟩
set_option maxRecDepth 100000 in
theorem mk_im180 : Jvm.Cond.instanceMethod (mc_M 180).1 ∈ ms_tb := mk_tb (mk_sub5 (List.mem_of_getElem? (i := 161) rfl) rfl)
set_option maxRecDepth 100000 in
theorem mk_se180 : Jvm.Cond.selects (mc_M 180).1.cls (mc_M 180).1 (mc_M 180).1 ∈ ms_tb := mk_tb (mk_pr3 (w := (⟨"InvariantDesk$Tokens", "wordAt", "(II)I"⟩, 5)) (List.mem_of_getElem? (i := 8) rfl))
set_option maxRecDepth 100000 in
theorem mk_ca181 : ms_callee mc_M 181 3 := ⟨mk_sub5 (List.mem_of_getElem? (i := 167) rfl) rfl, mk_tb (mk_sub1 (List.mem_of_getElem? (i := 3) rfl) rfl), by decide +kernel, by decide +kernel, by decide +kernel, by decide +kernel, by decide +kernel⟩
set_option maxRecDepth 100000 in
theorem mk_im181 : Jvm.Cond.instanceMethod (mc_M 181).1 ∈ ms_tb := mk_tb (mk_sub5 (List.mem_of_getElem? (i := 166) rfl) rfl)
set_option maxRecDepth 100000 in
theorem mk_se181 : Jvm.Cond.selects (mc_M 181).1.cls (mc_M 181).1 (mc_M 181).1 ∈ ms_tb := mk_tb (mk_pr3 (w := (⟨"InvariantDesk$Tokens", "spells", "(IILjava/lang/String;)Z"⟩, 5)) (List.mem_of_getElem? (i := 9) rfl))
set_option maxRecDepth 100000 in
theorem mk_ca182 : ms_callee mc_M 182 2 := ⟨mk_sub6 (List.mem_of_getElem? (i := 101) rfl) rfl, mk_tb (mk_sub1 (List.mem_of_getElem? (i := 3) rfl) rfl), by decide +kernel, by decide +kernel, by decide +kernel, by decide +kernel, by decide +kernel⟩
set_option maxRecDepth 100000 in
theorem mk_im182 : Jvm.Cond.instanceMethod (mc_M 182).1 ∈ ms_tb := mk_tb (mk_sub6 (List.mem_of_getElem? (i := 99) rfl) rfl)
set_option maxRecDepth 100000 in
theorem mk_se182 : Jvm.Cond.selects (mc_M 182).1.cls (mc_M 182).1 (mc_M 182).1 ∈ ms_tb := mk_tb (mk_sub6 (List.mem_of_getElem? (i := 100) rfl) rfl)
set_option maxRecDepth 100000 in
theorem mk_ca183 : ms_callee mc_M 183 0 := ⟨mk_sub1 (List.mem_of_getElem? (i := 28) rfl) rfl, mk_tb (mk_sub1 (List.mem_of_getElem? (i := 1) rfl) rfl), by decide +kernel, by decide +kernel, by decide +kernel, by decide +kernel, by decide +kernel⟩
set_option maxRecDepth 100000 in
theorem mk_im183 : Jvm.Cond.instanceMethod (mc_M 183).1 ∈ ms_tb := mk_tb (mk_sub1 (List.mem_of_getElem? (i := 27) rfl) rfl)
set_option maxRecDepth 100000 in
theorem mk_ca184 : ms_callee mc_M 184 5 := ⟨mk_sub5 (List.mem_of_getElem? (i := 19) rfl) rfl, mk_tb (mk_sub1 (List.mem_of_getElem? (i := 1) rfl) rfl), by decide +kernel, by decide +kernel, by decide +kernel, by decide +kernel, by decide +kernel⟩
set_option maxRecDepth 100000 in
theorem mk_im184 : Jvm.Cond.instanceMethod (mc_M 184).1 ∈ ms_tb := mk_tb (mk_sub5 (List.mem_of_getElem? (i := 17) rfl) rfl)
set_option maxRecDepth 100000 in
theorem mk_se184 : Jvm.Cond.selects (mc_M 184).1.cls (mc_M 184).1 (mc_M 184).1 ∈ ms_tb := mk_tb (mk_sub5 (List.mem_of_getElem? (i := 18) rfl) rfl)
set_option maxRecDepth 100000 in
theorem mk_ca185 : ms_callee mc_M 185 1 := ⟨mk_sub5 (List.mem_of_getElem? (i := 23) rfl) rfl, mk_tb (mk_sub1 (List.mem_of_getElem? (i := 1) rfl) rfl), by decide +kernel, by decide +kernel, by decide +kernel, by decide +kernel, by decide +kernel⟩
set_option maxRecDepth 100000 in
theorem mk_im185 : Jvm.Cond.instanceMethod (mc_M 185).1 ∈ ms_tb := mk_tb (mk_sub5 (List.mem_of_getElem? (i := 22) rfl) rfl)
set_option maxRecDepth 100000 in
theorem mk_se185 : Jvm.Cond.selects (mc_M 185).1.cls (mc_M 185).1 (mc_M 185).1 ∈ ms_tb := mk_tb (mk_pr3 (w := (⟨"InvariantDesk", "feedWord", "(I)V"⟩, 15)) (List.mem_of_getElem? (i := 3) rfl))
set_option maxRecDepth 100000 in
theorem mk_ca186 : ms_callee mc_M 186 1 := ⟨mk_sub5 (List.mem_of_getElem? (i := 27) rfl) rfl, mk_tb (mk_sub1 (List.mem_of_getElem? (i := 1) rfl) rfl), by decide +kernel, by decide +kernel, by decide +kernel, by decide +kernel, by decide +kernel⟩
set_option maxRecDepth 100000 in
theorem mk_im186 : Jvm.Cond.instanceMethod (mc_M 186).1 ∈ ms_tb := mk_tb (mk_sub5 (List.mem_of_getElem? (i := 25) rfl) rfl)
set_option maxRecDepth 100000 in
theorem mk_se186 : Jvm.Cond.selects (mc_M 186).1.cls (mc_M 186).1 (mc_M 186).1 ∈ ms_tb := mk_tb (mk_sub5 (List.mem_of_getElem? (i := 26) rfl) rfl)
set_option maxRecDepth 100000 in
theorem mk_ca187 : ms_callee mc_M 187 0 := ⟨mk_sub4 (List.mem_of_getElem? (i := 207) rfl) rfl, mk_tb (mk_sub1 (List.mem_of_getElem? (i := 1) rfl) rfl), by decide +kernel, by decide +kernel, by decide +kernel, by decide +kernel, by decide +kernel⟩
set_option maxRecDepth 100000 in
theorem mk_im187 : Jvm.Cond.instanceMethod (mc_M 187).1 ∈ ms_tb := mk_tb (mk_sub4 (List.mem_of_getElem? (i := 206) rfl) rfl)
set_option maxRecDepth 100000 in
theorem mk_se187 : Jvm.Cond.selects (mc_M 187).1.cls (mc_M 187).1 (mc_M 187).1 ∈ ms_tb := mk_tb (mk_pr3 (w := (⟨"InvariantDesk", "claimAsAnalysed", "()V"⟩, 15)) (List.mem_of_getElem? (i := 2) rfl))
set_option maxRecDepth 100000 in
theorem mk_ca188 : ms_callee mc_M 188 0 := ⟨mk_sub7 (List.mem_of_getElem? (i := 151) rfl) rfl, mk_tb (mk_sub1 (List.mem_of_getElem? (i := 1) rfl) rfl), by decide +kernel, by decide +kernel, by decide +kernel, by decide +kernel, by decide +kernel⟩
set_option maxRecDepth 100000 in
theorem mk_im188 : Jvm.Cond.instanceMethod (mc_M 188).1 ∈ ms_tb := mk_tb (mk_sub7 (List.mem_of_getElem? (i := 150) rfl) rfl)
set_option maxRecDepth 100000 in
theorem mk_se188 : Jvm.Cond.selects (mc_M 188).1.cls (mc_M 188).1 (mc_M 188).1 ∈ ms_tb := mk_tb (mk_pr6 (w := (⟨"InvariantDesk", "noteClaim", "()V"⟩, 15)) (List.mem_of_getElem? (i := 10) rfl))
set_option maxRecDepth 100000 in
theorem mk_ca189 : ms_callee mc_M 189 1 := ⟨mk_sub7 (List.mem_of_getElem? (i := 102) rfl) rfl, mk_tb (mk_sub1 (List.mem_of_getElem? (i := 1) rfl) rfl), by decide +kernel, by decide +kernel, by decide +kernel, by decide +kernel, by decide +kernel⟩
set_option maxRecDepth 100000 in
theorem mk_im189 : Jvm.Cond.instanceMethod (mc_M 189).1 ∈ ms_tb := mk_tb (mk_sub7 (List.mem_of_getElem? (i := 100) rfl) rfl)
set_option maxRecDepth 100000 in
theorem mk_se189 : Jvm.Cond.selects (mc_M 189).1.cls (mc_M 189).1 (mc_M 189).1 ∈ ms_tb := mk_tb (mk_sub7 (List.mem_of_getElem? (i := 101) rfl) rfl)
set_option maxRecDepth 100000 in
theorem mk_ca190 : ms_callee mc_M 190 0 := ⟨mk_sub7 (List.mem_of_getElem? (i := 106) rfl) rfl, mk_tb (mk_sub1 (List.mem_of_getElem? (i := 1) rfl) rfl), by decide +kernel, by decide +kernel, by decide +kernel, by decide +kernel, by decide +kernel⟩
set_option maxRecDepth 100000 in
theorem mk_im190 : Jvm.Cond.instanceMethod (mc_M 190).1 ∈ ms_tb := mk_tb (mk_sub7 (List.mem_of_getElem? (i := 104) rfl) rfl)
set_option maxRecDepth 100000 in
theorem mk_se190 : Jvm.Cond.selects (mc_M 190).1.cls (mc_M 190).1 (mc_M 190).1 ∈ ms_tb := mk_tb (mk_sub7 (List.mem_of_getElem? (i := 105) rfl) rfl)
set_option maxRecDepth 100000 in
theorem mk_ca191 : ms_callee mc_M 191 2 := ⟨mk_sub7 (List.mem_of_getElem? (i := 110) rfl) rfl, mk_tb (mk_sub1 (List.mem_of_getElem? (i := 1) rfl) rfl), by decide +kernel, by decide +kernel, by decide +kernel, by decide +kernel, by decide +kernel⟩
set_option maxRecDepth 100000 in
theorem mk_im191 : Jvm.Cond.instanceMethod (mc_M 191).1 ∈ ms_tb := mk_tb (mk_sub7 (List.mem_of_getElem? (i := 108) rfl) rfl)
set_option maxRecDepth 100000 in
theorem mk_se191 : Jvm.Cond.selects (mc_M 191).1.cls (mc_M 191).1 (mc_M 191).1 ∈ ms_tb := mk_tb (mk_sub7 (List.mem_of_getElem? (i := 109) rfl) rfl)
set_option maxRecDepth 100000 in
theorem mk_ca192 : ms_callee mc_M 192 1 := ⟨mk_sub7 (List.mem_of_getElem? (i := 114) rfl) rfl, mk_tb (mk_sub1 (List.mem_of_getElem? (i := 1) rfl) rfl), by decide +kernel, by decide +kernel, by decide +kernel, by decide +kernel, by decide +kernel⟩
set_option maxRecDepth 100000 in
theorem mk_im192 : Jvm.Cond.instanceMethod (mc_M 192).1 ∈ ms_tb := mk_tb (mk_sub7 (List.mem_of_getElem? (i := 113) rfl) rfl)
set_option maxRecDepth 100000 in
theorem mk_se192 : Jvm.Cond.selects (mc_M 192).1.cls (mc_M 192).1 (mc_M 192).1 ∈ ms_tb := mk_tb (mk_pr6 (w := (⟨"InvariantDesk", "isPoint", "(I)Z"⟩, 15)) (List.mem_of_getElem? (i := 6) rfl))
set_option maxRecDepth 100000 in
theorem mk_ca193 : ms_callee mc_M 193 5 := ⟨mk_sub7 (List.mem_of_getElem? (i := 124) rfl) rfl, mk_tb (mk_sub1 (List.mem_of_getElem? (i := 1) rfl) rfl), by decide +kernel, by decide +kernel, by decide +kernel, by decide +kernel, by decide +kernel⟩
set_option maxRecDepth 100000 in
theorem mk_im193 : Jvm.Cond.instanceMethod (mc_M 193).1 ∈ ms_tb := mk_tb (mk_sub7 (List.mem_of_getElem? (i := 123) rfl) rfl)
set_option maxRecDepth 100000 in
theorem mk_se193 : Jvm.Cond.selects (mc_M 193).1.cls (mc_M 193).1 (mc_M 193).1 ∈ ms_tb := mk_tb (mk_pr6 (w := (⟨"InvariantDesk", "isBound", "(IIIII)Z"⟩, 15)) (List.mem_of_getElem? (i := 7) rfl))
set_option maxRecDepth 100000 in
theorem mk_ca194 : ms_callee mc_M 194 2 := ⟨mk_sub7 (List.mem_of_getElem? (i := 141) rfl) rfl, mk_tb (mk_sub1 (List.mem_of_getElem? (i := 1) rfl) rfl), by decide +kernel, by decide +kernel, by decide +kernel, by decide +kernel, by decide +kernel⟩
set_option maxRecDepth 100000 in
theorem mk_im194 : Jvm.Cond.instanceMethod (mc_M 194).1 ∈ ms_tb := mk_tb (mk_sub7 (List.mem_of_getElem? (i := 140) rfl) rfl)
set_option maxRecDepth 100000 in
theorem mk_se194 : Jvm.Cond.selects (mc_M 194).1.cls (mc_M 194).1 (mc_M 194).1 ∈ ms_tb := mk_tb (mk_pr6 (w := (⟨"InvariantDesk", "isArray", "(II)Z"⟩, 15)) (List.mem_of_getElem? (i := 9) rfl))
set_option maxRecDepth 100000 in
theorem mk_ca195 : ms_callee mc_M 195 2 := ⟨mk_sub7 (List.mem_of_getElem? (i := 132) rfl) rfl, mk_tb (mk_sub1 (List.mem_of_getElem? (i := 1) rfl) rfl), by decide +kernel, by decide +kernel, by decide +kernel, by decide +kernel, by decide +kernel⟩
set_option maxRecDepth 100000 in
theorem mk_im195 : Jvm.Cond.static (mc_M 195).1 ∈ ms_tb := mk_tb (mk_sub7 (List.mem_of_getElem? (i := 131) rfl) rfl)
set_option maxRecDepth 100000 in
theorem mk_ca196 : ms_callee mc_M 196 6 := ⟨mk_sub7 (List.mem_of_getElem? (i := 120) rfl) rfl, mk_tb (mk_sub1 (List.mem_of_getElem? (i := 1) rfl) rfl), by decide +kernel, by decide +kernel, by decide +kernel, by decide +kernel, by decide +kernel⟩
set_option maxRecDepth 100000 in
theorem mk_im196 : Jvm.Cond.instanceMethod (mc_M 196).1 ∈ ms_tb := mk_tb (mk_sub7 (List.mem_of_getElem? (i := 118) rfl) rfl)
set_option maxRecDepth 100000 in
theorem mk_se196 : Jvm.Cond.selects (mc_M 196).1.cls (mc_M 196).1 (mc_M 196).1 ∈ ms_tb := mk_tb (mk_sub7 (List.mem_of_getElem? (i := 119) rfl) rfl)
set_option maxRecDepth 100000 in
theorem mk_ca197 : ms_callee mc_M 197 2 := ⟨mk_sub7 (List.mem_of_getElem? (i := 129) rfl) rfl, mk_tb (mk_sub1 (List.mem_of_getElem? (i := 1) rfl) rfl), by decide +kernel, by decide +kernel, by decide +kernel, by decide +kernel, by decide +kernel⟩
set_option maxRecDepth 100000 in
theorem mk_im197 : Jvm.Cond.instanceMethod (mc_M 197).1 ∈ ms_tb := mk_tb (mk_sub7 (List.mem_of_getElem? (i := 128) rfl) rfl)
set_option maxRecDepth 100000 in
theorem mk_se197 : Jvm.Cond.selects (mc_M 197).1.cls (mc_M 197).1 (mc_M 197).1 ∈ ms_tb := mk_tb (mk_pr6 (w := (⟨"InvariantDesk", "stateAt", "(ZI)LInvariantDesk$State;"⟩, 15)) (List.mem_of_getElem? (i := 8) rfl))
set_option maxRecDepth 100000 in
theorem mk_ca198 : ms_callee mc_M 198 4 := ⟨mk_sub7 (List.mem_of_getElem? (i := 137) rfl) rfl, mk_tb (mk_sub1 (List.mem_of_getElem? (i := 1) rfl) rfl), by decide +kernel, by decide +kernel, by decide +kernel, by decide +kernel, by decide +kernel⟩
set_option maxRecDepth 100000 in
theorem mk_im198 : Jvm.Cond.instanceMethod (mc_M 198).1 ∈ ms_tb := mk_tb (mk_sub7 (List.mem_of_getElem? (i := 135) rfl) rfl)
set_option maxRecDepth 100000 in
theorem mk_se198 : Jvm.Cond.selects (mc_M 198).1.cls (mc_M 198).1 (mc_M 198).1 ∈ ms_tb := mk_tb (mk_sub7 (List.mem_of_getElem? (i := 136) rfl) rfl)
set_option maxRecDepth 100000 in
theorem mk_ca199 : ms_callee mc_M 199 6 := ⟨mk_sub7 (List.mem_of_getElem? (i := 145) rfl) rfl, mk_tb (mk_sub1 (List.mem_of_getElem? (i := 1) rfl) rfl), by decide +kernel, by decide +kernel, by decide +kernel, by decide +kernel, by decide +kernel⟩
set_option maxRecDepth 100000 in
theorem mk_im199 : Jvm.Cond.instanceMethod (mc_M 199).1 ∈ ms_tb := mk_tb (mk_sub7 (List.mem_of_getElem? (i := 143) rfl) rfl)
set_option maxRecDepth 100000 in
theorem mk_se199 : Jvm.Cond.selects (mc_M 199).1.cls (mc_M 199).1 (mc_M 199).1 ∈ ms_tb := mk_tb (mk_sub7 (List.mem_of_getElem? (i := 144) rfl) rfl)
set_option maxRecDepth 100000 in
theorem mk_ca200 : ms_callee mc_M 200 4 := ⟨mk_sub7 (List.mem_of_getElem? (i := 155) rfl) rfl, mk_tb (mk_sub1 (List.mem_of_getElem? (i := 1) rfl) rfl), by decide +kernel, by decide +kernel, by decide +kernel, by decide +kernel, by decide +kernel⟩
set_option maxRecDepth 100000 in
theorem mk_im200 : Jvm.Cond.instanceMethod (mc_M 200).1 ∈ ms_tb := mk_tb (mk_sub7 (List.mem_of_getElem? (i := 153) rfl) rfl)
set_option maxRecDepth 100000 in
theorem mk_se200 : Jvm.Cond.selects (mc_M 200).1.cls (mc_M 200).1 (mc_M 200).1 ∈ ms_tb := mk_tb (mk_sub7 (List.mem_of_getElem? (i := 154) rfl) rfl)
set_option maxRecDepth 100000 in
theorem mk_ca201 : ms_callee mc_M 201 1 := ⟨mk_sub7 (List.mem_of_getElem? (i := 159) rfl) rfl, mk_tb (mk_sub1 (List.mem_of_getElem? (i := 1) rfl) rfl), by decide +kernel, by decide +kernel, by decide +kernel, by decide +kernel, by decide +kernel⟩
set_option maxRecDepth 100000 in
theorem mk_im201 : Jvm.Cond.instanceMethod (mc_M 201).1 ∈ ms_tb := mk_tb (mk_sub7 (List.mem_of_getElem? (i := 157) rfl) rfl)
set_option maxRecDepth 100000 in
theorem mk_se201 : Jvm.Cond.selects (mc_M 201).1.cls (mc_M 201).1 (mc_M 201).1 ∈ ms_tb := mk_tb (mk_sub7 (List.mem_of_getElem? (i := 158) rfl) rfl)
set_option maxRecDepth 100000 in
theorem mk_ca202 : ms_callee mc_M 202 0 := ⟨mk_sub7 (List.mem_of_getElem? (i := 163) rfl) rfl, mk_tb (mk_sub1 (List.mem_of_getElem? (i := 1) rfl) rfl), by decide +kernel, by decide +kernel, by decide +kernel, by decide +kernel, by decide +kernel⟩
set_option maxRecDepth 100000 in
theorem mk_im202 : Jvm.Cond.instanceMethod (mc_M 202).1 ∈ ms_tb := mk_tb (mk_sub7 (List.mem_of_getElem? (i := 161) rfl) rfl)
set_option maxRecDepth 100000 in
theorem mk_se202 : Jvm.Cond.selects (mc_M 202).1.cls (mc_M 202).1 (mc_M 202).1 ∈ ms_tb := mk_tb (mk_sub7 (List.mem_of_getElem? (i := 162) rfl) rfl)
set_option maxRecDepth 100000 in
theorem mk_ca203 : ms_callee mc_M 203 0 := ⟨mk_sub7 (List.mem_of_getElem? (i := 168) rfl) rfl, mk_tb (mk_sub1 (List.mem_of_getElem? (i := 1) rfl) rfl), by decide +kernel, by decide +kernel, by decide +kernel, by decide +kernel, by decide +kernel⟩
set_option maxRecDepth 100000 in
theorem mk_im203 : Jvm.Cond.instanceMethod (mc_M 203).1 ∈ ms_tb := mk_tb (mk_sub7 (List.mem_of_getElem? (i := 166) rfl) rfl)
set_option maxRecDepth 100000 in
theorem mk_se203 : Jvm.Cond.selects (mc_M 203).1.cls (mc_M 203).1 (mc_M 203).1 ∈ ms_tb := mk_tb (mk_sub7 (List.mem_of_getElem? (i := 167) rfl) rfl)
set_option maxRecDepth 100000 in
theorem mk_ca204 : ms_callee mc_M 204 0 := ⟨mk_sub7 (List.mem_of_getElem? (i := 172) rfl) rfl, mk_tb (mk_sub1 (List.mem_of_getElem? (i := 1) rfl) rfl), by decide +kernel, by decide +kernel, by decide +kernel, by decide +kernel, by decide +kernel⟩
set_option maxRecDepth 100000 in
theorem mk_im204 : Jvm.Cond.instanceMethod (mc_M 204).1 ∈ ms_tb := mk_tb (mk_sub7 (List.mem_of_getElem? (i := 171) rfl) rfl)
set_option maxRecDepth 100000 in
theorem mk_se204 : Jvm.Cond.selects (mc_M 204).1.cls (mc_M 204).1 (mc_M 204).1 ∈ ms_tb := mk_tb (mk_pr6 (w := (⟨"InvariantDesk", "judge", "()I"⟩, 15)) (List.mem_of_getElem? (i := 11) rfl))
set_option maxRecDepth 100000 in
theorem mk_ca205 : ms_callee mc_M 205 1 := ⟨mk_sub7 (List.mem_of_getElem? (i := 176) rfl) rfl, mk_tb (mk_sub1 (List.mem_of_getElem? (i := 1) rfl) rfl), by decide +kernel, by decide +kernel, by decide +kernel, by decide +kernel, by decide +kernel⟩
set_option maxRecDepth 100000 in
theorem mk_im205 : Jvm.Cond.instanceMethod (mc_M 205).1 ∈ ms_tb := mk_tb (mk_sub7 (List.mem_of_getElem? (i := 175) rfl) rfl)
set_option maxRecDepth 100000 in
theorem mk_se205 : Jvm.Cond.selects (mc_M 205).1.cls (mc_M 205).1 (mc_M 205).1 ∈ ms_tb := mk_tb (mk_pr6 (w := (⟨"InvariantDesk", "leadsToClaims", "(I)Z"⟩, 15)) (List.mem_of_getElem? (i := 12) rfl))
set_option maxRecDepth 100000 in
theorem mk_ca206 : ms_callee mc_M 206 1 := ⟨mk_sub7 (List.mem_of_getElem? (i := 186) rfl) rfl, mk_tb (mk_sub1 (List.mem_of_getElem? (i := 1) rfl) rfl), by decide +kernel, by decide +kernel, by decide +kernel, by decide +kernel, by decide +kernel⟩
set_option maxRecDepth 100000 in
theorem mk_im206 : Jvm.Cond.instanceMethod (mc_M 206).1 ∈ ms_tb := mk_tb (mk_sub7 (List.mem_of_getElem? (i := 184) rfl) rfl)
set_option maxRecDepth 100000 in
theorem mk_se206 : Jvm.Cond.selects (mc_M 206).1.cls (mc_M 206).1 (mc_M 206).1 ∈ ms_tb := mk_tb (mk_sub7 (List.mem_of_getElem? (i := 185) rfl) rfl)
set_option maxRecDepth 100000 in
theorem mk_ca207 : ms_callee mc_M 207 0 := ⟨mk_sub7 (List.mem_of_getElem? (i := 194) rfl) rfl, mk_tb (mk_sub1 (List.mem_of_getElem? (i := 1) rfl) rfl), by decide +kernel, by decide +kernel, by decide +kernel, by decide +kernel, by decide +kernel⟩
set_option maxRecDepth 100000 in
theorem mk_im207 : Jvm.Cond.instanceMethod (mc_M 207).1 ∈ ms_tb := mk_tb (mk_sub7 (List.mem_of_getElem? (i := 192) rfl) rfl)
set_option maxRecDepth 100000 in
theorem mk_se207 : Jvm.Cond.selects (mc_M 207).1.cls (mc_M 207).1 (mc_M 207).1 ∈ ms_tb := mk_tb (mk_sub7 (List.mem_of_getElem? (i := 193) rfl) rfl)
set_option maxRecDepth 100000 in
theorem mk_ca208 : ms_callee mc_M 208 1 := ⟨mk_sub7 (List.mem_of_getElem? (i := 198) rfl) rfl, mk_tb (mk_sub1 (List.mem_of_getElem? (i := 1) rfl) rfl), by decide +kernel, by decide +kernel, by decide +kernel, by decide +kernel, by decide +kernel⟩
set_option maxRecDepth 100000 in
theorem mk_im208 : Jvm.Cond.instanceMethod (mc_M 208).1 ∈ ms_tb := mk_tb (mk_sub7 (List.mem_of_getElem? (i := 196) rfl) rfl)
set_option maxRecDepth 100000 in
theorem mk_se208 : Jvm.Cond.selects (mc_M 208).1.cls (mc_M 208).1 (mc_M 208).1 ∈ ms_tb := mk_tb (mk_sub7 (List.mem_of_getElem? (i := 197) rfl) rfl)
set_option maxRecDepth 100000 in
theorem mk_ca209 : ms_callee mc_M 209 1 := ⟨mk_sub8 (List.mem_of_getElem? (i := 32) rfl) rfl, mk_tb (mk_sub1 (List.mem_of_getElem? (i := 1) rfl) rfl), by decide +kernel, by decide +kernel, by decide +kernel, by decide +kernel, by decide +kernel⟩
set_option maxRecDepth 100000 in
theorem mk_im209 : Jvm.Cond.instanceMethod (mc_M 209).1 ∈ ms_tb := mk_tb (mk_sub8 (List.mem_of_getElem? (i := 30) rfl) rfl)
set_option maxRecDepth 100000 in
theorem mk_se209 : Jvm.Cond.selects (mc_M 209).1.cls (mc_M 209).1 (mc_M 209).1 ∈ ms_tb := mk_tb (mk_sub8 (List.mem_of_getElem? (i := 31) rfl) rfl)
set_option maxRecDepth 100000 in
theorem mk_ca210 : ms_callee mc_M 210 1 := ⟨mk_sub8 (List.mem_of_getElem? (i := 36) rfl) rfl, mk_tb (mk_sub1 (List.mem_of_getElem? (i := 1) rfl) rfl), by decide +kernel, by decide +kernel, by decide +kernel, by decide +kernel, by decide +kernel⟩
set_option maxRecDepth 100000 in
theorem mk_im210 : Jvm.Cond.instanceMethod (mc_M 210).1 ∈ ms_tb := mk_tb (mk_sub8 (List.mem_of_getElem? (i := 34) rfl) rfl)
set_option maxRecDepth 100000 in
theorem mk_se210 : Jvm.Cond.selects (mc_M 210).1.cls (mc_M 210).1 (mc_M 210).1 ∈ ms_tb := mk_tb (mk_sub8 (List.mem_of_getElem? (i := 35) rfl) rfl)
set_option maxRecDepth 100000 in
theorem mk_ca211 : ms_callee mc_M 211 2 := ⟨mk_sub8 (List.mem_of_getElem? (i := 40) rfl) rfl, mk_tb (mk_sub1 (List.mem_of_getElem? (i := 1) rfl) rfl), by decide +kernel, by decide +kernel, by decide +kernel, by decide +kernel, by decide +kernel⟩
set_option maxRecDepth 100000 in
theorem mk_im211 : Jvm.Cond.instanceMethod (mc_M 211).1 ∈ ms_tb := mk_tb (mk_sub8 (List.mem_of_getElem? (i := 38) rfl) rfl)
set_option maxRecDepth 100000 in
theorem mk_se211 : Jvm.Cond.selects (mc_M 211).1.cls (mc_M 211).1 (mc_M 211).1 ∈ ms_tb := mk_tb (mk_sub8 (List.mem_of_getElem? (i := 39) rfl) rfl)
set_option maxRecDepth 100000 in
theorem mk_ca212 : ms_callee mc_M 212 0 := ⟨mk_sub8 (List.mem_of_getElem? (i := 44) rfl) rfl, mk_tb (mk_sub1 (List.mem_of_getElem? (i := 1) rfl) rfl), by decide +kernel, by decide +kernel, by decide +kernel, by decide +kernel, by decide +kernel⟩
set_option maxRecDepth 100000 in
theorem mk_im212 : Jvm.Cond.instanceMethod (mc_M 212).1 ∈ ms_tb := mk_tb (mk_sub8 (List.mem_of_getElem? (i := 42) rfl) rfl)
set_option maxRecDepth 100000 in
theorem mk_se212 : Jvm.Cond.selects (mc_M 212).1.cls (mc_M 212).1 (mc_M 212).1 ∈ ms_tb := mk_tb (mk_sub8 (List.mem_of_getElem? (i := 43) rfl) rfl)
set_option maxRecDepth 100000 in
theorem mk_ca213 : ms_callee mc_M 213 2 := ⟨mk_sub8 (List.mem_of_getElem? (i := 48) rfl) rfl, mk_tb (mk_sub1 (List.mem_of_getElem? (i := 1) rfl) rfl), by decide +kernel, by decide +kernel, by decide +kernel, by decide +kernel, by decide +kernel⟩
set_option maxRecDepth 100000 in
theorem mk_im213 : Jvm.Cond.instanceMethod (mc_M 213).1 ∈ ms_tb := mk_tb (mk_sub8 (List.mem_of_getElem? (i := 46) rfl) rfl)
set_option maxRecDepth 100000 in
theorem mk_se213 : Jvm.Cond.selects (mc_M 213).1.cls (mc_M 213).1 (mc_M 213).1 ∈ ms_tb := mk_tb (mk_sub8 (List.mem_of_getElem? (i := 47) rfl) rfl)
set_option maxRecDepth 100000 in
theorem mk_ca214 : ms_callee mc_M 214 1 := ⟨mk_sub8 (List.mem_of_getElem? (i := 116) rfl) rfl, mk_tb (mk_sub1 (List.mem_of_getElem? (i := 1) rfl) rfl), by decide +kernel, by decide +kernel, by decide +kernel, by decide +kernel, by decide +kernel⟩
set_option maxRecDepth 100000 in
theorem mk_im214 : Jvm.Cond.instanceMethod (mc_M 214).1 ∈ ms_tb := mk_tb (mk_sub8 (List.mem_of_getElem? (i := 114) rfl) rfl)
set_option maxRecDepth 100000 in
theorem mk_se214 : Jvm.Cond.selects (mc_M 214).1.cls (mc_M 214).1 (mc_M 214).1 ∈ ms_tb := mk_tb (mk_sub8 (List.mem_of_getElem? (i := 115) rfl) rfl)
set_option maxRecDepth 100000 in
theorem mk_ca215 : ms_callee mc_M 215 2 := ⟨mk_sub8 (List.mem_of_getElem? (i := 65) rfl) rfl, mk_tb (mk_sub1 (List.mem_of_getElem? (i := 1) rfl) rfl), by decide +kernel, by decide +kernel, by decide +kernel, by decide +kernel, by decide +kernel⟩
set_option maxRecDepth 100000 in
theorem mk_im215 : Jvm.Cond.instanceMethod (mc_M 215).1 ∈ ms_tb := mk_tb (mk_sub8 (List.mem_of_getElem? (i := 64) rfl) rfl)
set_option maxRecDepth 100000 in
theorem mk_se215 : Jvm.Cond.selects (mc_M 215).1.cls (mc_M 215).1 (mc_M 215).1 ∈ ms_tb := mk_tb (mk_pr7 (w := (⟨"InvariantDesk", "writeNumbers", "(ILInvariantDesk$State;)V"⟩, 15)) (List.mem_of_getElem? (i := 12) rfl))
set_option maxRecDepth 100000 in
theorem mk_ca216 : ms_callee mc_M 216 2 := ⟨mk_sub8 (List.mem_of_getElem? (i := 96) rfl) rfl, mk_tb (mk_sub1 (List.mem_of_getElem? (i := 1) rfl) rfl), by decide +kernel, by decide +kernel, by decide +kernel, by decide +kernel, by decide +kernel⟩
set_option maxRecDepth 100000 in
theorem mk_im216 : Jvm.Cond.instanceMethod (mc_M 216).1 ∈ ms_tb := mk_tb (mk_sub8 (List.mem_of_getElem? (i := 95) rfl) rfl)
set_option maxRecDepth 100000 in
theorem mk_se216 : Jvm.Cond.selects (mc_M 216).1.cls (mc_M 216).1 (mc_M 216).1 ∈ ms_tb := mk_tb (mk_pr8 (w := (⟨"InvariantDesk", "writePairs", "(ILInvariantDesk$State;)V"⟩, 15)) (List.mem_of_getElem? (i := 1) rfl))
set_option maxRecDepth 100000 in
theorem mk_ca217 : ms_callee mc_M 217 4 := ⟨mk_sub8 (List.mem_of_getElem? (i := 100) rfl) rfl, mk_tb (mk_sub1 (List.mem_of_getElem? (i := 1) rfl) rfl), by decide +kernel, by decide +kernel, by decide +kernel, by decide +kernel, by decide +kernel⟩
set_option maxRecDepth 100000 in
theorem mk_im217 : Jvm.Cond.instanceMethod (mc_M 217).1 ∈ ms_tb := mk_tb (mk_sub8 (List.mem_of_getElem? (i := 99) rfl) rfl)
set_option maxRecDepth 100000 in
theorem mk_se217 : Jvm.Cond.selects (mc_M 217).1.cls (mc_M 217).1 (mc_M 217).1 ∈ ms_tb := mk_tb (mk_pr8 (w := (⟨"InvariantDesk", "writePair", "(ILInvariantDesk$State;II)V"⟩, 15)) (List.mem_of_getElem? (i := 2) rfl))
set_option maxRecDepth 100000 in
theorem mk_ca218 : ms_callee mc_M 218 2 := ⟨mk_sub8 (List.mem_of_getElem? (i := 107) rfl) rfl, mk_tb (mk_sub1 (List.mem_of_getElem? (i := 1) rfl) rfl), by decide +kernel, by decide +kernel, by decide +kernel, by decide +kernel, by decide +kernel⟩
set_option maxRecDepth 100000 in
theorem mk_im218 : Jvm.Cond.instanceMethod (mc_M 218).1 ∈ ms_tb := mk_tb (mk_sub8 (List.mem_of_getElem? (i := 106) rfl) rfl)
set_option maxRecDepth 100000 in
theorem mk_se218 : Jvm.Cond.selects (mc_M 218).1.cls (mc_M 218).1 (mc_M 218).1 ∈ ms_tb := mk_tb (mk_pr8 (w := (⟨"InvariantDesk", "writeArrays", "(ILInvariantDesk$State;)V"⟩, 15)) (List.mem_of_getElem? (i := 3) rfl))
set_option maxRecDepth 100000 in
theorem mk_ca219 : ms_callee mc_M 219 0 := ⟨mk_sub8 (List.mem_of_getElem? (i := 69) rfl) rfl, mk_tb (mk_sub1 (List.mem_of_getElem? (i := 1) rfl) rfl), by decide +kernel, by decide +kernel, by decide +kernel, by decide +kernel, by decide +kernel⟩
set_option maxRecDepth 100000 in
theorem mk_im219 : Jvm.Cond.instanceMethod (mc_M 219).1 ∈ ms_tb := mk_tb (mk_sub8 (List.mem_of_getElem? (i := 68) rfl) rfl)
set_option maxRecDepth 100000 in
theorem mk_se219 : Jvm.Cond.selects (mc_M 219).1.cls (mc_M 219).1 (mc_M 219).1 ∈ ms_tb := mk_tb (mk_pr7 (w := (⟨"InvariantDesk", "writeComma", "()V"⟩, 15)) (List.mem_of_getElem? (i := 13) rfl))
set_option maxRecDepth 100000 in
theorem mk_ca220 : ms_callee mc_M 220 2 := ⟨mk_sub8 (List.mem_of_getElem? (i := 84) rfl) rfl, mk_tb (mk_sub1 (List.mem_of_getElem? (i := 1) rfl) rfl), by decide +kernel, by decide +kernel, by decide +kernel, by decide +kernel, by decide +kernel⟩
set_option maxRecDepth 100000 in
theorem mk_im220 : Jvm.Cond.instanceMethod (mc_M 220).1 ∈ ms_tb := mk_tb (mk_sub8 (List.mem_of_getElem? (i := 83) rfl) rfl)
set_option maxRecDepth 100000 in
theorem mk_se220 : Jvm.Cond.selects (mc_M 220).1.cls (mc_M 220).1 (mc_M 220).1 ∈ ms_tb := mk_tb (mk_pr7 (w := (⟨"InvariantDesk", "writeEnds", "(JJ)V"⟩, 15)) (List.mem_of_getElem? (i := 15) rfl))
set_option maxRecDepth 100000 in
theorem mk_ca221 : ms_callee mc_M 221 1 := ⟨mk_sub8 (List.mem_of_getElem? (i := 78) rfl) rfl, mk_tb (mk_sub1 (List.mem_of_getElem? (i := 1) rfl) rfl), by decide +kernel, by decide +kernel, by decide +kernel, by decide +kernel, by decide +kernel⟩
set_option maxRecDepth 100000 in
theorem mk_im221 : Jvm.Cond.instanceMethod (mc_M 221).1 ∈ ms_tb := mk_tb (mk_sub8 (List.mem_of_getElem? (i := 77) rfl) rfl)
set_option maxRecDepth 100000 in
theorem mk_se221 : Jvm.Cond.selects (mc_M 221).1.cls (mc_M 221).1 (mc_M 221).1 ∈ ms_tb := mk_tb (mk_pr7 (w := (⟨"InvariantDesk", "writeName", "(I)V"⟩, 15)) (List.mem_of_getElem? (i := 14) rfl))
set_option maxRecDepth 100000 in
theorem mk_ca222 : ms_callee mc_M 222 1 := ⟨mk_sub8 (List.mem_of_getElem? (i := 53) rfl) rfl, mk_tb (mk_sub1 (List.mem_of_getElem? (i := 1) rfl) rfl), by decide +kernel, by decide +kernel, by decide +kernel, by decide +kernel, by decide +kernel⟩
set_option maxRecDepth 100000 in
theorem mk_im222 : Jvm.Cond.instanceMethod (mc_M 222).1 ∈ ms_tb := mk_tb (mk_sub8 (List.mem_of_getElem? (i := 52) rfl) rfl)
set_option maxRecDepth 100000 in
theorem mk_se222 : Jvm.Cond.selects (mc_M 222).1.cls (mc_M 222).1 (mc_M 222).1 ∈ ms_tb := mk_tb (mk_pr7 (w := (⟨"InvariantDesk", "writeText", "(Ljava/lang/String;)V"⟩, 15)) (List.mem_of_getElem? (i := 10) rfl))
set_option maxRecDepth 100000 in
theorem mk_ca223 : ms_callee mc_M 223 1 := ⟨mk_sub8 (List.mem_of_getElem? (i := 89) rfl) rfl, mk_tb (mk_sub1 (List.mem_of_getElem? (i := 1) rfl) rfl), by decide +kernel, by decide +kernel, by decide +kernel, by decide +kernel, by decide +kernel⟩
set_option maxRecDepth 100000 in
theorem mk_im223 : Jvm.Cond.instanceMethod (mc_M 223).1 ∈ ms_tb := mk_tb (mk_sub8 (List.mem_of_getElem? (i := 88) rfl) rfl)
set_option maxRecDepth 100000 in
theorem mk_se223 : Jvm.Cond.selects (mc_M 223).1.cls (mc_M 223).1 (mc_M 223).1 ∈ ms_tb := mk_tb (mk_pr8 (w := (⟨"InvariantDesk", "writeNumber", "(J)V"⟩, 15)) (List.mem_of_getElem? (i := 0) rfl))
set_option maxRecDepth 100000 in
theorem mk_ca224 : ms_callee mc_M 224 1 := ⟨mk_sub8 (List.mem_of_getElem? (i := 59) rfl) rfl, mk_tb (mk_sub1 (List.mem_of_getElem? (i := 1) rfl) rfl), by decide +kernel, by decide +kernel, by decide +kernel, by decide +kernel, by decide +kernel⟩
set_option maxRecDepth 100000 in
theorem mk_im224 : Jvm.Cond.instanceMethod (mc_M 224).1 ∈ ms_tb := mk_tb (mk_sub8 (List.mem_of_getElem? (i := 58) rfl) rfl)
set_option maxRecDepth 100000 in
theorem mk_se224 : Jvm.Cond.selects (mc_M 224).1.cls (mc_M 224).1 (mc_M 224).1 ∈ ms_tb := mk_tb (mk_pr7 (w := (⟨"InvariantDesk", "writeByte", "(I)V"⟩, 15)) (List.mem_of_getElem? (i := 11) rfl))
set_option maxRecDepth 100000 in
theorem mk_ca225 : ms_callee mc_M 225 0 := ⟨mk_sub8 (List.mem_of_getElem? (i := 128) rfl) rfl, mk_tb (mk_sub1 (List.mem_of_getElem? (i := 15) rfl) rfl), by decide +kernel, by decide +kernel, by decide +kernel, by decide +kernel, by decide +kernel⟩
set_option maxRecDepth 100000 in
theorem mk_im225 : Jvm.Cond.instanceMethod (mc_M 225).1 ∈ ms_tb := mk_tb (mk_sub8 (List.mem_of_getElem? (i := 127) rfl) rfl)
set_option maxRecDepth 100000 in
theorem mk_ca226 : ms_callee mc_M 226 0 := ⟨mk_sub11 (List.mem_of_getElem? (i := 53) rfl) rfl, mk_tb (mk_sub1 (List.mem_of_getElem? (i := 15) rfl) rfl), by decide +kernel, by decide +kernel, by decide +kernel, by decide +kernel, by decide +kernel⟩
set_option maxRecDepth 100000 in
theorem mk_im226 : Jvm.Cond.instanceMethod (mc_M 226).1 ∈ ms_tb := mk_tb (mk_sub11 (List.mem_of_getElem? (i := 52) rfl) rfl)
set_option maxRecDepth 100000 in
theorem mk_se226 : Jvm.Cond.selects (mc_M 226).1.cls (mc_M 226).1 (mc_M 226).1 ∈ ms_tb := mk_tb (mk_pr11 (w := (⟨"InvariantDeskModel$Analysis", "take", "()LInvariantDeskModel$Known;"⟩, 38)) (List.mem_of_getElem? (i := 8) rfl))
set_option maxRecDepth 100000 in
theorem mk_ca227 : ms_callee mc_M 227 1 := ⟨mk_sub11 (List.mem_of_getElem? (i := 81) rfl) rfl, mk_tb (mk_sub1 (List.mem_of_getElem? (i := 15) rfl) rfl), by decide +kernel, by decide +kernel, by decide +kernel, by decide +kernel, by decide +kernel⟩
set_option maxRecDepth 100000 in
theorem mk_im227 : Jvm.Cond.instanceMethod (mc_M 227).1 ∈ ms_tb := mk_tb (mk_sub11 (List.mem_of_getElem? (i := 80) rfl) rfl)
set_option maxRecDepth 100000 in
theorem mk_se227 : Jvm.Cond.selects (mc_M 227).1.cls (mc_M 227).1 (mc_M 227).1 ∈ ms_tb := mk_tb (mk_pr11 (w := (⟨"InvariantDeskModel$Analysis", "taken", "(LInvariantDeskModel$Known;)LInvariantDeskModel$Known;"⟩, 38)) (List.mem_of_getElem? (i := 15) rfl))
set_option maxRecDepth 100000 in
theorem mk_ca228 : ms_callee mc_M 228 1 := ⟨mk_sub11 (List.mem_of_getElem? (i := 41) rfl) rfl, mk_tb (mk_sub1 (List.mem_of_getElem? (i := 15) rfl) rfl), by decide +kernel, by decide +kernel, by decide +kernel, by decide +kernel, by decide +kernel⟩
set_option maxRecDepth 100000 in
theorem mk_im228 : Jvm.Cond.instanceMethod (mc_M 228).1 ∈ ms_tb := mk_tb (mk_sub11 (List.mem_of_getElem? (i := 40) rfl) rfl)
set_option maxRecDepth 100000 in
theorem mk_se228 : Jvm.Cond.selects (mc_M 228).1.cls (mc_M 228).1 (mc_M 228).1 ∈ ms_tb := mk_tb (mk_pr11 (w := (⟨"InvariantDeskModel$Analysis", "after", "(I)I"⟩, 38)) (List.mem_of_getElem? (i := 5) rfl))
set_option maxRecDepth 100000 in
theorem mk_ca229 : ms_callee mc_M 229 1 := ⟨mk_sub11 (List.mem_of_getElem? (i := 104) rfl) rfl, mk_tb (mk_sub1 (List.mem_of_getElem? (i := 15) rfl) rfl), by decide +kernel, by decide +kernel, by decide +kernel, by decide +kernel, by decide +kernel⟩
set_option maxRecDepth 100000 in
theorem mk_im229 : Jvm.Cond.instanceMethod (mc_M 229).1 ∈ ms_tb := mk_tb (mk_sub11 (List.mem_of_getElem? (i := 103) rfl) rfl)
set_option maxRecDepth 100000 in
theorem mk_se229 : Jvm.Cond.selects (mc_M 229).1.cls (mc_M 229).1 (mc_M 229).1 ∈ ms_tb := mk_tb (mk_pr12 (w := (⟨"InvariantDeskModel$Analysis", "slotOf", "(I)I"⟩, 38)) (List.mem_of_getElem? (i := 3) rfl))
set_option maxRecDepth 100000 in
theorem mk_ca230 : ms_callee mc_M 230 2 := ⟨mk_sub12 (List.mem_of_getElem? (i := 32) rfl) rfl, mk_tb (mk_sub1 (List.mem_of_getElem? (i := 15) rfl) rfl), by decide +kernel, by decide +kernel, by decide +kernel, by decide +kernel, by decide +kernel⟩
set_option maxRecDepth 100000 in
theorem mk_im230 : Jvm.Cond.instanceMethod (mc_M 230).1 ∈ ms_tb := mk_tb (mk_sub12 (List.mem_of_getElem? (i := 31) rfl) rfl)
set_option maxRecDepth 100000 in
theorem mk_se230 : Jvm.Cond.selects (mc_M 230).1.cls (mc_M 230).1 (mc_M 230).1 ∈ ms_tb := mk_tb (mk_pr13 (w := (⟨"InvariantDeskModel$Analysis", "add", "(IZ)V"⟩, 38)) (List.mem_of_getElem? (i := 11) rfl))
set_option maxRecDepth 100000 in
theorem mk_ca231 : ms_callee mc_M 231 2 := ⟨mk_sub11 (List.mem_of_getElem? (i := 100) rfl) rfl, mk_tb (mk_sub1 (List.mem_of_getElem? (i := 15) rfl) rfl), by decide +kernel, by decide +kernel, by decide +kernel, by decide +kernel, by decide +kernel⟩
set_option maxRecDepth 100000 in
theorem mk_im231 : Jvm.Cond.instanceMethod (mc_M 231).1 ∈ ms_tb := mk_tb (mk_sub11 (List.mem_of_getElem? (i := 99) rfl) rfl)
set_option maxRecDepth 100000 in
theorem mk_se231 : Jvm.Cond.selects (mc_M 231).1.cls (mc_M 231).1 (mc_M 231).1 ∈ ms_tb := mk_tb (mk_pr12 (w := (⟨"InvariantDeskModel$Analysis", "told", "(JJ)Z"⟩, 38)) (List.mem_of_getElem? (i := 2) rfl))
set_option maxRecDepth 100000 in
theorem mk_ca232 : ms_callee mc_M 232 2 := ⟨mk_sub11 (List.mem_of_getElem? (i := 130) rfl) rfl, mk_tb (mk_sub1 (List.mem_of_getElem? (i := 15) rfl) rfl), by decide +kernel, by decide +kernel, by decide +kernel, by decide +kernel, by decide +kernel⟩
set_option maxRecDepth 100000 in
theorem mk_im232 : Jvm.Cond.instanceMethod (mc_M 232).1 ∈ ms_tb := mk_tb (mk_sub11 (List.mem_of_getElem? (i := 129) rfl) rfl)
set_option maxRecDepth 100000 in
theorem mk_se232 : Jvm.Cond.selects (mc_M 232).1.cls (mc_M 232).1 (mc_M 232).1 ∈ ms_tb := mk_tb (mk_pr12 (w := (⟨"InvariantDeskModel$Analysis", "ints", "(JJ)Z"⟩, 38)) (List.mem_of_getElem? (i := 5) rfl))
set_option maxRecDepth 100000 in
theorem mk_ca233 : ms_callee mc_M 233 1 := ⟨mk_sub11 (List.mem_of_getElem? (i := 96) rfl) rfl, mk_tb (mk_sub1 (List.mem_of_getElem? (i := 15) rfl) rfl), by decide +kernel, by decide +kernel, by decide +kernel, by decide +kernel, by decide +kernel⟩
set_option maxRecDepth 100000 in
theorem mk_im233 : Jvm.Cond.instanceMethod (mc_M 233).1 ∈ ms_tb := mk_tb (mk_sub11 (List.mem_of_getElem? (i := 95) rfl) rfl)
set_option maxRecDepth 100000 in
theorem mk_se233 : Jvm.Cond.selects (mc_M 233).1.cls (mc_M 233).1 (mc_M 233).1 ∈ ms_tb := mk_tb (mk_pr12 (w := (⟨"InvariantDeskModel$Analysis", "range", "(I)Z"⟩, 38)) (List.mem_of_getElem? (i := 1) rfl))
set_option maxRecDepth 100000 in
theorem mk_ca234 : ms_callee mc_M 234 2 := ⟨mk_sub11 (List.mem_of_getElem? (i := 124) rfl) rfl, mk_tb (mk_sub1 (List.mem_of_getElem? (i := 15) rfl) rfl), by decide +kernel, by decide +kernel, by decide +kernel, by decide +kernel, by decide +kernel⟩
set_option maxRecDepth 100000 in
theorem mk_im234 : Jvm.Cond.instanceMethod (mc_M 234).1 ∈ ms_tb := mk_tb (mk_sub11 (List.mem_of_getElem? (i := 123) rfl) rfl)
set_option maxRecDepth 100000 in
theorem mk_se234 : Jvm.Cond.selects (mc_M 234).1.cls (mc_M 234).1 (mc_M 234).1 ∈ ms_tb := mk_tb (mk_pr12 (w := (⟨"InvariantDeskModel$Analysis", "cell", "(II)Z"⟩, 38)) (List.mem_of_getElem? (i := 4) rfl))
set_option maxRecDepth 100000 in
theorem mk_ca235 : ms_callee mc_M 235 1 := ⟨mk_sub11 (List.mem_of_getElem? (i := 136) rfl) rfl, mk_tb (mk_sub1 (List.mem_of_getElem? (i := 15) rfl) rfl), by decide +kernel, by decide +kernel, by decide +kernel, by decide +kernel, by decide +kernel⟩
set_option maxRecDepth 100000 in
theorem mk_im235 : Jvm.Cond.instanceMethod (mc_M 235).1 ∈ ms_tb := mk_tb (mk_sub11 (List.mem_of_getElem? (i := 135) rfl) rfl)
set_option maxRecDepth 100000 in
theorem mk_se235 : Jvm.Cond.selects (mc_M 235).1.cls (mc_M 235).1 (mc_M 235).1 ∈ ms_tb := mk_tb (mk_pr12 (w := (⟨"InvariantDeskModel$Analysis", "several", "(I)Z"⟩, 38)) (List.mem_of_getElem? (i := 6) rfl))
set_option maxRecDepth 100000 in
theorem mk_ca236 : ms_callee mc_M 236 3 := ⟨mk_sub11 (List.mem_of_getElem? (i := 140) rfl) rfl, mk_tb (mk_sub1 (List.mem_of_getElem? (i := 15) rfl) rfl), by decide +kernel, by decide +kernel, by decide +kernel, by decide +kernel, by decide +kernel⟩
set_option maxRecDepth 100000 in
theorem mk_im236 : Jvm.Cond.instanceMethod (mc_M 236).1 ∈ ms_tb := mk_tb (mk_sub11 (List.mem_of_getElem? (i := 139) rfl) rfl)
set_option maxRecDepth 100000 in
theorem mk_se236 : Jvm.Cond.selects (mc_M 236).1.cls (mc_M 236).1 (mc_M 236).1 ∈ ms_tb := mk_tb (mk_pr12 (w := (⟨"InvariantDeskModel$Analysis", "names", "(III)Z"⟩, 38)) (List.mem_of_getElem? (i := 7) rfl))
set_option maxRecDepth 100000 in
theorem mk_ca237 : ms_callee mc_M 237 5 := ⟨mk_sub11 (List.mem_of_getElem? (i := 146) rfl) rfl, mk_tb (mk_sub1 (List.mem_of_getElem? (i := 15) rfl) rfl), by decide +kernel, by decide +kernel, by decide +kernel, by decide +kernel, by decide +kernel⟩
set_option maxRecDepth 100000 in
theorem mk_im237 : Jvm.Cond.instanceMethod (mc_M 237).1 ∈ ms_tb := mk_tb (mk_sub11 (List.mem_of_getElem? (i := 145) rfl) rfl)
set_option maxRecDepth 100000 in
theorem mk_se237 : Jvm.Cond.selects (mc_M 237).1.cls (mc_M 237).1 (mc_M 237).1 ∈ ms_tb := mk_tb (mk_pr12 (w := (⟨"InvariantDeskModel$Analysis", "joined", "(IJJJJ)Z"⟩, 38)) (List.mem_of_getElem? (i := 8) rfl))
set_option maxRecDepth 100000 in
theorem mk_ca238 : ms_callee mc_M 238 2 := ⟨mk_sub11 (List.mem_of_getElem? (i := 154) rfl) rfl, mk_tb (mk_sub1 (List.mem_of_getElem? (i := 15) rfl) rfl), by decide +kernel, by decide +kernel, by decide +kernel, by decide +kernel, by decide +kernel⟩
set_option maxRecDepth 100000 in
theorem mk_im238 : Jvm.Cond.instanceMethod (mc_M 238).1 ∈ ms_tb := mk_tb (mk_sub11 (List.mem_of_getElem? (i := 153) rfl) rfl)
set_option maxRecDepth 100000 in
theorem mk_se238 : Jvm.Cond.selects (mc_M 238).1.cls (mc_M 238).1 (mc_M 238).1 ∈ ms_tb := mk_tb (mk_pr12 (w := (⟨"InvariantDeskModel$Analysis", "divides", "(JJ)Z"⟩, 38)) (List.mem_of_getElem? (i := 10) rfl))
set_option maxRecDepth 100000 in
theorem mk_ca239 : ms_callee mc_M 239 4 := ⟨mk_sub11 (List.mem_of_getElem? (i := 150) rfl) rfl, mk_tb (mk_sub1 (List.mem_of_getElem? (i := 15) rfl) rfl), by decide +kernel, by decide +kernel, by decide +kernel, by decide +kernel, by decide +kernel⟩
set_option maxRecDepth 100000 in
theorem mk_im239 : Jvm.Cond.instanceMethod (mc_M 239).1 ∈ ms_tb := mk_tb (mk_sub11 (List.mem_of_getElem? (i := 149) rfl) rfl)
set_option maxRecDepth 100000 in
theorem mk_se239 : Jvm.Cond.selects (mc_M 239).1.cls (mc_M 239).1 (mc_M 239).1 ∈ ms_tb := mk_tb (mk_pr12 (w := (⟨"InvariantDeskModel$Analysis", "over", "(JJJJ)Z"⟩, 38)) (List.mem_of_getElem? (i := 9) rfl))
set_option maxRecDepth 100000 in
theorem mk_ca240 : ms_callee mc_M 240 4 := ⟨mk_sub11 (List.mem_of_getElem? (i := 161) rfl) rfl, mk_tb (mk_sub1 (List.mem_of_getElem? (i := 15) rfl) rfl), by decide +kernel, by decide +kernel, by decide +kernel, by decide +kernel, by decide +kernel⟩
set_option maxRecDepth 100000 in
theorem mk_im240 : Jvm.Cond.instanceMethod (mc_M 240).1 ∈ ms_tb := mk_tb (mk_sub11 (List.mem_of_getElem? (i := 160) rfl) rfl)
set_option maxRecDepth 100000 in
theorem mk_se240 : Jvm.Cond.selects (mc_M 240).1.cls (mc_M 240).1 (mc_M 240).1 ∈ ms_tb := mk_tb (mk_pr12 (w := (⟨"InvariantDeskModel$Analysis", "rest", "(JJJJ)Z"⟩, 38)) (List.mem_of_getElem? (i := 11) rfl))
set_option maxRecDepth 100000 in
theorem mk_ca241 : ms_callee mc_M 241 2 := ⟨mk_sub11 (List.mem_of_getElem? (i := 169) rfl) rfl, mk_tb (mk_sub1 (List.mem_of_getElem? (i := 15) rfl) rfl), by decide +kernel, by decide +kernel, by decide +kernel, by decide +kernel, by decide +kernel⟩
set_option maxRecDepth 100000 in
theorem mk_im241 : Jvm.Cond.instanceMethod (mc_M 241).1 ∈ ms_tb := mk_tb (mk_sub11 (List.mem_of_getElem? (i := 168) rfl) rfl)
set_option maxRecDepth 100000 in
theorem mk_se241 : Jvm.Cond.selects (mc_M 241).1.cls (mc_M 241).1 (mc_M 241).1 ∈ ms_tb := mk_tb (mk_pr12 (w := (⟨"InvariantDeskModel$Analysis", "part", "(II)V"⟩, 38)) (List.mem_of_getElem? (i := 13) rfl))
set_option maxRecDepth 100000 in
theorem mk_ca242 : ms_callee mc_M 242 1 := ⟨mk_sub11 (List.mem_of_getElem? (i := 20) rfl) rfl, mk_tb (mk_sub1 (List.mem_of_getElem? (i := 15) rfl) rfl), by decide +kernel, by decide +kernel, by decide +kernel, by decide +kernel, by decide +kernel⟩
set_option maxRecDepth 100000 in
theorem mk_im242 : Jvm.Cond.static (mc_M 242).1 ∈ ms_tb := mk_tb (mk_sub11 (List.mem_of_getElem? (i := 19) rfl) rfl)
set_option maxRecDepth 100000 in
theorem mk_ca243 : ms_callee mc_M 243 2 := ⟨mk_sub11 (List.mem_of_getElem? (i := 165) rfl) rfl, mk_tb (mk_sub1 (List.mem_of_getElem? (i := 15) rfl) rfl), by decide +kernel, by decide +kernel, by decide +kernel, by decide +kernel, by decide +kernel⟩
set_option maxRecDepth 100000 in
theorem mk_im243 : Jvm.Cond.instanceMethod (mc_M 243).1 ∈ ms_tb := mk_tb (mk_sub11 (List.mem_of_getElem? (i := 164) rfl) rfl)
set_option maxRecDepth 100000 in
theorem mk_se243 : Jvm.Cond.selects (mc_M 243).1.cls (mc_M 243).1 (mc_M 243).1 ∈ ms_tb := mk_tb (mk_pr12 (w := (⟨"InvariantDeskModel$Analysis", "parts", "(II)V"⟩, 38)) (List.mem_of_getElem? (i := 12) rfl))
set_option maxRecDepth 100000 in
theorem mk_ca244 : ms_callee mc_M 244 0 := ⟨mk_sub11 (List.mem_of_getElem? (i := 173) rfl) rfl, mk_tb (mk_sub1 (List.mem_of_getElem? (i := 15) rfl) rfl), by decide +kernel, by decide +kernel, by decide +kernel, by decide +kernel, by decide +kernel⟩
set_option maxRecDepth 100000 in
theorem mk_im244 : Jvm.Cond.instanceMethod (mc_M 244).1 ∈ ms_tb := mk_tb (mk_sub11 (List.mem_of_getElem? (i := 172) rfl) rfl)
set_option maxRecDepth 100000 in
theorem mk_se244 : Jvm.Cond.selects (mc_M 244).1.cls (mc_M 244).1 (mc_M 244).1 ∈ ms_tb := mk_tb (mk_pr12 (w := (⟨"InvariantDeskModel$Analysis", "weigh", "()V"⟩, 38)) (List.mem_of_getElem? (i := 14) rfl))
set_option maxRecDepth 100000 in
theorem mk_ca245 : ms_callee mc_M 245 1 := ⟨mk_sub11 (List.mem_of_getElem? (i := 185) rfl) rfl, mk_tb (mk_sub1 (List.mem_of_getElem? (i := 15) rfl) rfl), by decide +kernel, by decide +kernel, by decide +kernel, by decide +kernel, by decide +kernel⟩
set_option maxRecDepth 100000 in
theorem mk_im245 : Jvm.Cond.instanceMethod (mc_M 245).1 ∈ ms_tb := mk_tb (mk_sub11 (List.mem_of_getElem? (i := 184) rfl) rfl)
set_option maxRecDepth 100000 in
theorem mk_se245 : Jvm.Cond.selects (mc_M 245).1.cls (mc_M 245).1 (mc_M 245).1 ∈ ms_tb := mk_tb (mk_pr13 (w := (⟨"InvariantDeskModel$Analysis", "signed", "(I)I"⟩, 38)) (List.mem_of_getElem? (i := 1) rfl))
set_option maxRecDepth 100000 in
theorem mk_ca246 : ms_callee mc_M 246 2 := ⟨mk_sub11 (List.mem_of_getElem? (i := 181) rfl) rfl, mk_tb (mk_sub1 (List.mem_of_getElem? (i := 15) rfl) rfl), by decide +kernel, by decide +kernel, by decide +kernel, by decide +kernel, by decide +kernel⟩
set_option maxRecDepth 100000 in
theorem mk_im246 : Jvm.Cond.instanceMethod (mc_M 246).1 ∈ ms_tb := mk_tb (mk_sub11 (List.mem_of_getElem? (i := 180) rfl) rfl)
set_option maxRecDepth 100000 in
theorem mk_se246 : Jvm.Cond.selects (mc_M 246).1.cls (mc_M 246).1 (mc_M 246).1 ∈ ms_tb := mk_tb (mk_pr13 (w := (⟨"InvariantDeskModel$Analysis", "all", "(II)V"⟩, 38)) (List.mem_of_getElem? (i := 0) rfl))
set_option maxRecDepth 100000 in
theorem mk_ca247 : ms_callee mc_M 247 4 := ⟨mk_sub12 (List.mem_of_getElem? (i := 6) rfl) rfl, mk_tb (mk_sub1 (List.mem_of_getElem? (i := 15) rfl) rfl), by decide +kernel, by decide +kernel, by decide +kernel, by decide +kernel, by decide +kernel⟩
set_option maxRecDepth 100000 in
theorem mk_im247 : Jvm.Cond.instanceMethod (mc_M 247).1 ∈ ms_tb := mk_tb (mk_sub12 (List.mem_of_getElem? (i := 5) rfl) rfl)
set_option maxRecDepth 100000 in
theorem mk_se247 : Jvm.Cond.selects (mc_M 247).1.cls (mc_M 247).1 (mc_M 247).1 ∈ ms_tb := mk_tb (mk_pr13 (w := (⟨"InvariantDeskModel$Analysis", "set", "(IIZLInvariantDeskModel$Known;)V"⟩, 38)) (List.mem_of_getElem? (i := 9) rfl))
set_option maxRecDepth 100000 in
theorem mk_ca248 : ms_callee mc_M 248 3 := ⟨mk_sub11 (List.mem_of_getElem? (i := 177) rfl) rfl, mk_tb (mk_sub1 (List.mem_of_getElem? (i := 15) rfl) rfl), by decide +kernel, by decide +kernel, by decide +kernel, by decide +kernel, by decide +kernel⟩
set_option maxRecDepth 100000 in
theorem mk_im248 : Jvm.Cond.instanceMethod (mc_M 248).1 ∈ ms_tb := mk_tb (mk_sub11 (List.mem_of_getElem? (i := 176) rfl) rfl)
set_option maxRecDepth 100000 in
theorem mk_se248 : Jvm.Cond.selects (mc_M 248).1.cls (mc_M 248).1 (mc_M 248).1 ∈ ms_tb := mk_tb (mk_pr12 (w := (⟨"InvariantDeskModel$Analysis", "meet", "(ZJLInvariantDeskModel$Known;)V"⟩, 38)) (List.mem_of_getElem? (i := 15) rfl))
set_option maxRecDepth 100000 in
theorem mk_ca249 : ms_callee mc_M 249 1 := ⟨mk_sub11 (List.mem_of_getElem? (i := 193) rfl) rfl, mk_tb (mk_sub1 (List.mem_of_getElem? (i := 15) rfl) rfl), by decide +kernel, by decide +kernel, by decide +kernel, by decide +kernel, by decide +kernel⟩
set_option maxRecDepth 100000 in
theorem mk_im249 : Jvm.Cond.instanceMethod (mc_M 249).1 ∈ ms_tb := mk_tb (mk_sub11 (List.mem_of_getElem? (i := 192) rfl) rfl)
set_option maxRecDepth 100000 in
theorem mk_se249 : Jvm.Cond.selects (mc_M 249).1.cls (mc_M 249).1 (mc_M 249).1 ∈ ms_tb := mk_tb (mk_pr13 (w := (⟨"InvariantDeskModel$Analysis", "differ", "(LInvariantDeskModel$Known;)V"⟩, 38)) (List.mem_of_getElem? (i := 2) rfl))
set_option maxRecDepth 100000 in
theorem mk_ca250 : ms_callee mc_M 250 4 := ⟨mk_sub11 (List.mem_of_getElem? (i := 73) rfl) rfl, mk_tb (mk_sub1 (List.mem_of_getElem? (i := 15) rfl) rfl), by decide +kernel, by decide +kernel, by decide +kernel, by decide +kernel, by decide +kernel⟩
set_option maxRecDepth 100000 in
theorem mk_im250 : Jvm.Cond.instanceMethod (mc_M 250).1 ∈ ms_tb := mk_tb (mk_sub11 (List.mem_of_getElem? (i := 72) rfl) rfl)
set_option maxRecDepth 100000 in
theorem mk_se250 : Jvm.Cond.selects (mc_M 250).1.cls (mc_M 250).1 (mc_M 250).1 ∈ ms_tb := mk_tb (mk_pr11 (w := (⟨"InvariantDeskModel$Analysis", "split", "(ILInvariantDeskModel$Known;LInvariantDeskModel$Known;LInvariantDeskModel$Known;)V"⟩, 38)) (List.mem_of_getElem? (i := 13) rfl))
set_option maxRecDepth 100000 in
theorem mk_ca251 : ms_callee mc_M 251 5 := ⟨mk_sub11 (List.mem_of_getElem? (i := 77) rfl) rfl, mk_tb (mk_sub1 (List.mem_of_getElem? (i := 15) rfl) rfl), by decide +kernel, by decide +kernel, by decide +kernel, by decide +kernel, by decide +kernel⟩
set_option maxRecDepth 100000 in
theorem mk_im251 : Jvm.Cond.instanceMethod (mc_M 251).1 ∈ ms_tb := mk_tb (mk_sub11 (List.mem_of_getElem? (i := 76) rfl) rfl)
set_option maxRecDepth 100000 in
theorem mk_se251 : Jvm.Cond.selects (mc_M 251).1.cls (mc_M 251).1 (mc_M 251).1 ∈ ms_tb := mk_tb (mk_pr11 (w := (⟨"InvariantDeskModel$Analysis", "joint", "(IZLInvariantDeskModel$Known;LInvariantDeskModel$Known;LInvariantDeskModel$Known;)V"⟩, 38)) (List.mem_of_getElem? (i := 14) rfl))
set_option maxRecDepth 100000 in
theorem mk_ca252 : ms_callee mc_M 252 5 := ⟨mk_sub11 (List.mem_of_getElem? (i := 92) rfl) rfl, mk_tb (mk_sub1 (List.mem_of_getElem? (i := 15) rfl) rfl), by decide +kernel, by decide +kernel, by decide +kernel, by decide +kernel, by decide +kernel⟩
set_option maxRecDepth 100000 in
theorem mk_im252 : Jvm.Cond.instanceMethod (mc_M 252).1 ∈ ms_tb := mk_tb (mk_sub11 (List.mem_of_getElem? (i := 91) rfl) rfl)
set_option maxRecDepth 100000 in
theorem mk_se252 : Jvm.Cond.selects (mc_M 252).1.cls (mc_M 252).1 (mc_M 252).1 ∈ ms_tb := mk_tb (mk_pr12 (w := (⟨"InvariantDeskModel$Analysis", "relation", "(IILInvariantDeskModel$Known;LInvariantDeskModel$Known;LInvariantDeskModel$Known;)V"⟩, 38)) (List.mem_of_getElem? (i := 0) rfl))
set_option maxRecDepth 100000 in
theorem mk_ca253 : ms_callee mc_M 253 1 := ⟨mk_sub11 (List.mem_of_getElem? (i := 37) rfl) rfl, mk_tb (mk_sub1 (List.mem_of_getElem? (i := 15) rfl) rfl), by decide +kernel, by decide +kernel, by decide +kernel, by decide +kernel, by decide +kernel⟩
set_option maxRecDepth 100000 in
theorem mk_im253 : Jvm.Cond.instanceMethod (mc_M 253).1 ∈ ms_tb := mk_tb (mk_sub11 (List.mem_of_getElem? (i := 36) rfl) rfl)
set_option maxRecDepth 100000 in
theorem mk_se253 : Jvm.Cond.selects (mc_M 253).1.cls (mc_M 253).1 (mc_M 253).1 ∈ ms_tb := mk_tb (mk_pr11 (w := (⟨"InvariantDeskModel$Analysis", "pointsOf", "(I)I"⟩, 38)) (List.mem_of_getElem? (i := 4) rfl))
set_option maxRecDepth 100000 in
theorem mk_ca254 : ms_callee mc_M 254 1 := ⟨mk_sub11 (List.mem_of_getElem? (i := 45) rfl) rfl, mk_tb (mk_sub1 (List.mem_of_getElem? (i := 15) rfl) rfl), by decide +kernel, by decide +kernel, by decide +kernel, by decide +kernel, by decide +kernel⟩
set_option maxRecDepth 100000 in
theorem mk_im254 : Jvm.Cond.instanceMethod (mc_M 254).1 ∈ ms_tb := mk_tb (mk_sub11 (List.mem_of_getElem? (i := 44) rfl) rfl)
set_option maxRecDepth 100000 in
theorem mk_se254 : Jvm.Cond.selects (mc_M 254).1.cls (mc_M 254).1 (mc_M 254).1 ∈ ms_tb := mk_tb (mk_pr11 (w := (⟨"InvariantDeskModel$Analysis", "pointsIn", "(I)I"⟩, 38)) (List.mem_of_getElem? (i := 6) rfl))
set_option maxRecDepth 100000 in
theorem mk_ca255 : ms_callee mc_M 255 1 := ⟨mk_sub11 (List.mem_of_getElem? (i := 49) rfl) rfl, mk_tb (mk_sub1 (List.mem_of_getElem? (i := 15) rfl) rfl), by decide +kernel, by decide +kernel, by decide +kernel, by decide +kernel, by decide +kernel⟩
set_option maxRecDepth 100000 in
theorem mk_im255 : Jvm.Cond.instanceMethod (mc_M 255).1 ∈ ms_tb := mk_tb (mk_sub11 (List.mem_of_getElem? (i := 48) rfl) rfl)
set_option maxRecDepth 100000 in
theorem mk_se255 : Jvm.Cond.selects (mc_M 255).1.cls (mc_M 255).1 (mc_M 255).1 ∈ ms_tb := mk_tb (mk_pr11 (w := (⟨"InvariantDeskModel$Analysis", "called", "(I)I"⟩, 38)) (List.mem_of_getElem? (i := 7) rfl))
set_option maxRecDepth 100000 in
theorem mk_ca256 : ms_callee mc_M 256 1 := ⟨mk_sub11 (List.mem_of_getElem? (i := 33) rfl) rfl, mk_tb (mk_sub1 (List.mem_of_getElem? (i := 15) rfl) rfl), by decide +kernel, by decide +kernel, by decide +kernel, by decide +kernel, by decide +kernel⟩
set_option maxRecDepth 100000 in
theorem mk_im256 : Jvm.Cond.instanceMethod (mc_M 256).1 ∈ ms_tb := mk_tb (mk_sub11 (List.mem_of_getElem? (i := 32) rfl) rfl)
set_option maxRecDepth 100000 in
theorem mk_se256 : Jvm.Cond.selects (mc_M 256).1.cls (mc_M 256).1 (mc_M 256).1 ∈ ms_tb := mk_tb (mk_pr11 (w := (⟨"InvariantDeskModel$Analysis", "blockOf", "(I)I"⟩, 38)) (List.mem_of_getElem? (i := 3) rfl))
set_option maxRecDepth 100000 in
theorem mk_ca257 : ms_callee mc_M 257 4 := ⟨mk_sub11 (List.mem_of_getElem? (i := 57) rfl) rfl, mk_tb (mk_sub1 (List.mem_of_getElem? (i := 15) rfl) rfl), by decide +kernel, by decide +kernel, by decide +kernel, by decide +kernel, by decide +kernel⟩
set_option maxRecDepth 100000 in
theorem mk_im257 : Jvm.Cond.instanceMethod (mc_M 257).1 ∈ ms_tb := mk_tb (mk_sub11 (List.mem_of_getElem? (i := 56) rfl) rfl)
set_option maxRecDepth 100000 in
theorem mk_se257 : Jvm.Cond.selects (mc_M 257).1.cls (mc_M 257).1 (mc_M 257).1 ∈ ms_tb := mk_tb (mk_pr11 (w := (⟨"InvariantDeskModel$Analysis", "block", "(IIILInvariantDeskModel$Known;)V"⟩, 38)) (List.mem_of_getElem? (i := 9) rfl))
set_option maxRecDepth 100000 in
theorem mk_ca258 : ms_callee mc_M 258 2 := ⟨mk_sub11 (List.mem_of_getElem? (i := 69) rfl) rfl, mk_tb (mk_sub1 (List.mem_of_getElem? (i := 15) rfl) rfl), by decide +kernel, by decide +kernel, by decide +kernel, by decide +kernel, by decide +kernel⟩
set_option maxRecDepth 100000 in
theorem mk_im258 : Jvm.Cond.instanceMethod (mc_M 258).1 ∈ ms_tb := mk_tb (mk_sub11 (List.mem_of_getElem? (i := 68) rfl) rfl)
set_option maxRecDepth 100000 in
theorem mk_se258 : Jvm.Cond.selects (mc_M 258).1.cls (mc_M 258).1 (mc_M 258).1 ∈ ms_tb := mk_tb (mk_pr11 (w := (⟨"InvariantDeskModel$Analysis", "look", "(ILInvariantDeskModel$Known;)Z"⟩, 38)) (List.mem_of_getElem? (i := 12) rfl))
set_option maxRecDepth 100000 in
theorem mk_ca259 : ms_callee mc_M 259 1 := ⟨mk_sub11 (List.mem_of_getElem? (i := 204) rfl) rfl, mk_tb (mk_sub1 (List.mem_of_getElem? (i := 15) rfl) rfl), by decide +kernel, by decide +kernel, by decide +kernel, by decide +kernel, by decide +kernel⟩
set_option maxRecDepth 100000 in
theorem mk_im259 : Jvm.Cond.instanceMethod (mc_M 259).1 ∈ ms_tb := mk_tb (mk_sub11 (List.mem_of_getElem? (i := 203) rfl) rfl)
set_option maxRecDepth 100000 in
theorem mk_se259 : Jvm.Cond.selects (mc_M 259).1.cls (mc_M 259).1 (mc_M 259).1 ∈ ms_tb := mk_tb (mk_pr13 (w := (⟨"InvariantDeskModel$Analysis", "tell", "(I)V"⟩, 38)) (List.mem_of_getElem? (i := 3) rfl))
set_option maxRecDepth 100000 in
theorem mk_ca260 : ms_callee mc_M 260 3 := ⟨mk_sub11 (List.mem_of_getElem? (i := 208) rfl) rfl, mk_tb (mk_sub1 (List.mem_of_getElem? (i := 15) rfl) rfl), by decide +kernel, by decide +kernel, by decide +kernel, by decide +kernel, by decide +kernel⟩
set_option maxRecDepth 100000 in
theorem mk_im260 : Jvm.Cond.instanceMethod (mc_M 260).1 ∈ ms_tb := mk_tb (mk_sub11 (List.mem_of_getElem? (i := 207) rfl) rfl)
set_option maxRecDepth 100000 in
theorem mk_se260 : Jvm.Cond.selects (mc_M 260).1.cls (mc_M 260).1 (mc_M 260).1 ∈ ms_tb := mk_tb (mk_pr13 (w := (⟨"InvariantDeskModel$Analysis", "goes", "(IILInvariantDeskModel$Known;)V"⟩, 38)) (List.mem_of_getElem? (i := 4) rfl))
set_option maxRecDepth 100000 in
theorem mk_ca261 : ms_callee mc_M 261 4 := ⟨mk_sub11 (List.mem_of_getElem? (i := 61) rfl) rfl, mk_tb (mk_sub1 (List.mem_of_getElem? (i := 15) rfl) rfl), by decide +kernel, by decide +kernel, by decide +kernel, by decide +kernel, by decide +kernel⟩
set_option maxRecDepth 100000 in
theorem mk_im261 : Jvm.Cond.instanceMethod (mc_M 261).1 ∈ ms_tb := mk_tb (mk_sub11 (List.mem_of_getElem? (i := 60) rfl) rfl)
set_option maxRecDepth 100000 in
theorem mk_se261 : Jvm.Cond.selects (mc_M 261).1.cls (mc_M 261).1 (mc_M 261).1 ∈ ms_tb := mk_tb (mk_pr11 (w := (⟨"InvariantDeskModel$Analysis", "statement", "(IIILInvariantDeskModel$Known;)V"⟩, 38)) (List.mem_of_getElem? (i := 10) rfl))
set_option maxRecDepth 100000 in
theorem mk_ca262 : ms_callee mc_M 262 3 := ⟨mk_sub12 (List.mem_of_getElem? (i := 36) rfl) rfl, mk_tb (mk_sub1 (List.mem_of_getElem? (i := 15) rfl) rfl), by decide +kernel, by decide +kernel, by decide +kernel, by decide +kernel, by decide +kernel⟩
set_option maxRecDepth 100000 in
theorem mk_im262 : Jvm.Cond.instanceMethod (mc_M 262).1 ∈ ms_tb := mk_tb (mk_sub12 (List.mem_of_getElem? (i := 35) rfl) rfl)
set_option maxRecDepth 100000 in
theorem mk_se262 : Jvm.Cond.selects (mc_M 262).1.cls (mc_M 262).1 (mc_M 262).1 ∈ ms_tb := mk_tb (mk_pr13 (w := (⟨"InvariantDeskModel$Analysis", "simple", "(ILInvariantDeskModel$Known;Z)V"⟩, 38)) (List.mem_of_getElem? (i := 12) rfl))
set_option maxRecDepth 100000 in
theorem mk_ca263 : ms_callee mc_M 263 2 := ⟨mk_sub12 (List.mem_of_getElem? (i := 44) rfl) rfl, mk_tb (mk_sub1 (List.mem_of_getElem? (i := 15) rfl) rfl), by decide +kernel, by decide +kernel, by decide +kernel, by decide +kernel, by decide +kernel⟩
set_option maxRecDepth 100000 in
theorem mk_im263 : Jvm.Cond.instanceMethod (mc_M 263).1 ∈ ms_tb := mk_tb (mk_sub12 (List.mem_of_getElem? (i := 43) rfl) rfl)
set_option maxRecDepth 100000 in
theorem mk_se263 : Jvm.Cond.selects (mc_M 263).1.cls (mc_M 263).1 (mc_M 263).1 ∈ ms_tb := mk_tb (mk_pr13 (w := (⟨"InvariantDeskModel$Analysis", "put", "(ILInvariantDeskModel$Known;)V"⟩, 38)) (List.mem_of_getElem? (i := 13) rfl))
set_option maxRecDepth 100000 in
theorem mk_ca264 : ms_callee mc_M 264 4 := ⟨mk_sub11 (List.mem_of_getElem? (i := 65) rfl) rfl, mk_tb (mk_sub1 (List.mem_of_getElem? (i := 15) rfl) rfl), by decide +kernel, by decide +kernel, by decide +kernel, by decide +kernel, by decide +kernel⟩
set_option maxRecDepth 100000 in
theorem mk_im264 : Jvm.Cond.instanceMethod (mc_M 264).1 ∈ ms_tb := mk_tb (mk_sub11 (List.mem_of_getElem? (i := 64) rfl) rfl)
set_option maxRecDepth 100000 in
theorem mk_se264 : Jvm.Cond.selects (mc_M 264).1.cls (mc_M 264).1 (mc_M 264).1 ∈ ms_tb := mk_tb (mk_pr11 (w := (⟨"InvariantDeskModel$Analysis", "choice", "(IIILInvariantDeskModel$Known;)V"⟩, 38)) (List.mem_of_getElem? (i := 11) rfl))
set_option maxRecDepth 100000 in
theorem mk_ca265 : ms_callee mc_M 265 4 := ⟨mk_sub12 (List.mem_of_getElem? (i := 2) rfl) rfl, mk_tb (mk_sub1 (List.mem_of_getElem? (i := 15) rfl) rfl), by decide +kernel, by decide +kernel, by decide +kernel, by decide +kernel, by decide +kernel⟩
set_option maxRecDepth 100000 in
theorem mk_im265 : Jvm.Cond.instanceMethod (mc_M 265).1 ∈ ms_tb := mk_tb (mk_sub12 (List.mem_of_getElem? (i := 1) rfl) rfl)
set_option maxRecDepth 100000 in
theorem mk_se265 : Jvm.Cond.selects (mc_M 265).1.cls (mc_M 265).1 (mc_M 265).1 ∈ ms_tb := mk_tb (mk_pr13 (w := (⟨"InvariantDeskModel$Analysis", "call", "(IIILInvariantDeskModel$Known;)V"⟩, 38)) (List.mem_of_getElem? (i := 8) rfl))
set_option maxRecDepth 100000 in
theorem mk_ca266 : ms_callee mc_M 266 1 := ⟨mk_sub12 (List.mem_of_getElem? (i := 28) rfl) rfl, mk_tb (mk_sub1 (List.mem_of_getElem? (i := 15) rfl) rfl), by decide +kernel, by decide +kernel, by decide +kernel, by decide +kernel, by decide +kernel⟩
set_option maxRecDepth 100000 in
theorem mk_im266 : Jvm.Cond.instanceMethod (mc_M 266).1 ∈ ms_tb := mk_tb (mk_sub12 (List.mem_of_getElem? (i := 27) rfl) rfl)
set_option maxRecDepth 100000 in
theorem mk_se266 : Jvm.Cond.selects (mc_M 266).1.cls (mc_M 266).1 (mc_M 266).1 ∈ ms_tb := mk_tb (mk_pr13 (w := (⟨"InvariantDeskModel$Analysis", "pointsOfFunction", "(I)I"⟩, 38)) (List.mem_of_getElem? (i := 10) rfl))
set_option maxRecDepth 100000 in
theorem mk_ca267 : ms_callee mc_M 267 6 := ⟨mk_sub11 (List.mem_of_getElem? (i := 225) rfl) rfl, mk_tb (mk_sub1 (List.mem_of_getElem? (i := 15) rfl) rfl), by decide +kernel, by decide +kernel, by decide +kernel, by decide +kernel, by decide +kernel⟩
set_option maxRecDepth 100000 in
theorem mk_im267 : Jvm.Cond.instanceMethod (mc_M 267).1 ∈ ms_tb := mk_tb (mk_sub11 (List.mem_of_getElem? (i := 224) rfl) rfl)
set_option maxRecDepth 100000 in
theorem mk_se267 : Jvm.Cond.selects (mc_M 267).1.cls (mc_M 267).1 (mc_M 267).1 ∈ ms_tb := mk_tb (mk_pr13 (w := (⟨"InvariantDeskModel$Analysis", "round", "(IILInvariantDeskModel$Known;LInvariantDeskModel$Known;LInvariantDeskModel$Known;LInvariantDeskModel$Known;)V"⟩, 38)) (List.mem_of_getElem? (i := 7) rfl))
set_option maxRecDepth 100000 in
theorem mk_ca268 : ms_callee mc_M 268 4 := ⟨mk_sub11 (List.mem_of_getElem? (i := 217) rfl) rfl, mk_tb (mk_sub1 (List.mem_of_getElem? (i := 15) rfl) rfl), by decide +kernel, by decide +kernel, by decide +kernel, by decide +kernel, by decide +kernel⟩
set_option maxRecDepth 100000 in
theorem mk_im268 : Jvm.Cond.instanceMethod (mc_M 268).1 ∈ ms_tb := mk_tb (mk_sub11 (List.mem_of_getElem? (i := 216) rfl) rfl)
set_option maxRecDepth 100000 in
theorem mk_se268 : Jvm.Cond.selects (mc_M 268).1.cls (mc_M 268).1 (mc_M 268).1 ∈ ms_tb := mk_tb (mk_pr13 (w := (⟨"InvariantDeskModel$Analysis", "loop", "(IIILInvariantDeskModel$Known;)V"⟩, 38)) (List.mem_of_getElem? (i := 5) rfl))
set_option maxRecDepth 100000 in
theorem mk_ca269 : ms_callee mc_M 269 4 := ⟨mk_sub11 (List.mem_of_getElem? (i := 221) rfl) rfl, mk_tb (mk_sub1 (List.mem_of_getElem? (i := 15) rfl) rfl), by decide +kernel, by decide +kernel, by decide +kernel, by decide +kernel, by decide +kernel⟩
set_option maxRecDepth 100000 in
theorem mk_im269 : Jvm.Cond.instanceMethod (mc_M 269).1 ∈ ms_tb := mk_tb (mk_sub11 (List.mem_of_getElem? (i := 220) rfl) rfl)
set_option maxRecDepth 100000 in
theorem mk_se269 : Jvm.Cond.selects (mc_M 269).1.cls (mc_M 269).1 (mc_M 269).1 ∈ ms_tb := mk_tb (mk_pr13 (w := (⟨"InvariantDeskModel$Analysis", "checkLoop", "(IIILInvariantDeskModel$Known;)V"⟩, 38)) (List.mem_of_getElem? (i := 6) rfl))
set_option maxRecDepth 100000 in
theorem mk_ca270 : ms_callee mc_M 270 4 := ⟨mk_sub11 (List.mem_of_getElem? (i := 17) rfl) rfl, mk_tb (mk_sub1 (List.mem_of_getElem? (i := 15) rfl) rfl), by decide +kernel, by decide +kernel, by decide +kernel, by decide +kernel, by decide +kernel⟩
set_option maxRecDepth 100000 in
theorem mk_im270 : Jvm.Cond.instanceMethod (mc_M 270).1 ∈ ms_tb := mk_tb (mk_sub11 (List.mem_of_getElem? (i := 15) rfl) rfl)
set_option maxRecDepth 100000 in
theorem mk_se270 : Jvm.Cond.selects (mc_M 270).1.cls (mc_M 270).1 (mc_M 270).1 ∈ ms_tb := mk_tb (mk_sub11 (List.mem_of_getElem? (i := 16) rfl) rfl)
set_option maxRecDepth 100000 in
theorem mk_ca271 : ms_callee mc_M 271 0 := ⟨mk_sub11 (List.mem_of_getElem? (i := 29) rfl) rfl, mk_tb (mk_sub1 (List.mem_of_getElem? (i := 15) rfl) rfl), by decide +kernel, by decide +kernel, by decide +kernel, by decide +kernel, by decide +kernel⟩
set_option maxRecDepth 100000 in
theorem mk_im271 : Jvm.Cond.instanceMethod (mc_M 271).1 ∈ ms_tb := mk_tb (mk_sub11 (List.mem_of_getElem? (i := 28) rfl) rfl)
set_option maxRecDepth 100000 in
theorem mk_se271 : Jvm.Cond.selects (mc_M 271).1.cls (mc_M 271).1 (mc_M 271).1 ∈ ms_tb := mk_tb (mk_pr11 (w := (⟨"InvariantDeskModel$Analysis", "start", "()V"⟩, 38)) (List.mem_of_getElem? (i := 2) rfl))
set_option maxRecDepth 100000 in
theorem mk_ca272 : ms_callee mc_M 272 0 := ⟨mk_sub9 (List.mem_of_getElem? (i := 66) rfl) rfl, mk_tb (mk_sub1 (List.mem_of_getElem? (i := 15) rfl) rfl), by decide +kernel, by decide +kernel, by decide +kernel, by decide +kernel, by decide +kernel⟩
set_option maxRecDepth 100000 in
theorem mk_im272 : Jvm.Cond.instanceMethod (mc_M 272).1 ∈ ms_tb := mk_tb (mk_sub9 (List.mem_of_getElem? (i := 64) rfl) rfl)
set_option maxRecDepth 100000 in
theorem mk_se272 : Jvm.Cond.selects (mc_M 272).1.cls (mc_M 272).1 (mc_M 272).1 ∈ ms_tb := mk_tb (mk_sub9 (List.mem_of_getElem? (i := 65) rfl) rfl)
set_option maxRecDepth 100000 in
theorem mk_ca273 : ms_callee mc_M 273 0 := ⟨mk_sub11 (List.mem_of_getElem? (i := 25) rfl) rfl, mk_tb (mk_sub1 (List.mem_of_getElem? (i := 15) rfl) rfl), by decide +kernel, by decide +kernel, by decide +kernel, by decide +kernel, by decide +kernel⟩
set_option maxRecDepth 100000 in
theorem mk_im273 : Jvm.Cond.instanceMethod (mc_M 273).1 ∈ ms_tb := mk_tb (mk_sub11 (List.mem_of_getElem? (i := 23) rfl) rfl)
set_option maxRecDepth 100000 in
theorem mk_se273 : Jvm.Cond.selects (mc_M 273).1.cls (mc_M 273).1 (mc_M 273).1 ∈ ms_tb := mk_tb (mk_sub11 (List.mem_of_getElem? (i := 24) rfl) rfl)
set_option maxRecDepth 100000 in
theorem mk_ca274 : ms_callee mc_M 274 0 := ⟨mk_sub9 (List.mem_of_getElem? (i := 74) rfl) rfl, mk_tb (mk_sub1 (List.mem_of_getElem? (i := 15) rfl) rfl), by decide +kernel, by decide +kernel, by decide +kernel, by decide +kernel, by decide +kernel⟩
set_option maxRecDepth 100000 in
theorem mk_im274 : Jvm.Cond.instanceMethod (mc_M 274).1 ∈ ms_tb := mk_tb (mk_sub9 (List.mem_of_getElem? (i := 72) rfl) rfl)
set_option maxRecDepth 100000 in
theorem mk_se274 : Jvm.Cond.selects (mc_M 274).1.cls (mc_M 274).1 (mc_M 274).1 ∈ ms_tb := mk_tb (mk_sub9 (List.mem_of_getElem? (i := 73) rfl) rfl)
set_option maxRecDepth 100000 in
theorem mk_ca275 : ms_callee mc_M 275 0 := ⟨mk_sub12 (List.mem_of_getElem? (i := 72) rfl) rfl, mk_tb (mk_sub1 (List.mem_of_getElem? (i := 15) rfl) rfl), by decide +kernel, by decide +kernel, by decide +kernel, by decide +kernel, by decide +kernel⟩
set_option maxRecDepth 100000 in
theorem mk_im275 : Jvm.Cond.instanceMethod (mc_M 275).1 ∈ ms_tb := mk_tb (mk_sub12 (List.mem_of_getElem? (i := 70) rfl) rfl)
set_option maxRecDepth 100000 in
theorem mk_se275 : Jvm.Cond.selects (mc_M 275).1.cls (mc_M 275).1 (mc_M 275).1 ∈ ms_tb := mk_tb (mk_sub12 (List.mem_of_getElem? (i := 71) rfl) rfl)
set_option maxRecDepth 100000 in
theorem mk_ca276 : ms_callee mc_M 276 0 := ⟨mk_sub8 (List.mem_of_getElem? (i := 135) rfl) rfl, mk_tb (mk_sub1 (List.mem_of_getElem? (i := 16) rfl) rfl), by decide +kernel, by decide +kernel, by decide +kernel, by decide +kernel, by decide +kernel⟩
set_option maxRecDepth 100000 in
theorem mk_im276 : Jvm.Cond.instanceMethod (mc_M 276).1 ∈ ms_tb := mk_tb (mk_sub8 (List.mem_of_getElem? (i := 134) rfl) rfl)
set_option maxRecDepth 100000 in
theorem mk_ca277 : ms_callee mc_M 277 1 := ⟨mk_sub11 (List.mem_of_getElem? (i := 115) rfl) rfl, mk_tb (mk_sub1 (List.mem_of_getElem? (i := 16) rfl) rfl), by decide +kernel, by decide +kernel, by decide +kernel, by decide +kernel, by decide +kernel⟩
set_option maxRecDepth 100000 in
theorem mk_im277 : Jvm.Cond.static (mc_M 277).1 ∈ ms_tb := mk_tb (mk_sub11 (List.mem_of_getElem? (i := 114) rfl) rfl)
set_option maxRecDepth 100000 in
theorem mk_ca278 : ms_callee mc_M 278 1 := ⟨mk_sub11 (List.mem_of_getElem? (i := 235) rfl) rfl, mk_tb (mk_sub1 (List.mem_of_getElem? (i := 16) rfl) rfl), by decide +kernel, by decide +kernel, by decide +kernel, by decide +kernel, by decide +kernel⟩
set_option maxRecDepth 100000 in
theorem mk_im278 : Jvm.Cond.static (mc_M 278).1 ∈ ms_tb := mk_tb (mk_sub11 (List.mem_of_getElem? (i := 234) rfl) rfl)
set_option maxRecDepth 100000 in
theorem mk_ca279 : ms_callee mc_M 279 2 := ⟨mk_sub11 (List.mem_of_getElem? (i := 232) rfl) rfl, mk_tb (mk_sub1 (List.mem_of_getElem? (i := 16) rfl) rfl), by decide +kernel, by decide +kernel, by decide +kernel, by decide +kernel, by decide +kernel⟩
set_option maxRecDepth 100000 in
theorem mk_im279 : Jvm.Cond.static (mc_M 279).1 ∈ ms_tb := mk_tb (mk_sub11 (List.mem_of_getElem? (i := 231) rfl) rfl)
set_option maxRecDepth 100000 in
theorem mk_ca280 : ms_callee mc_M 280 0 := ⟨mk_sub9 (List.mem_of_getElem? (i := 70) rfl) rfl, mk_tb (mk_sub1 (List.mem_of_getElem? (i := 16) rfl) rfl), by decide +kernel, by decide +kernel, by decide +kernel, by decide +kernel, by decide +kernel⟩
set_option maxRecDepth 100000 in
theorem mk_im280 : Jvm.Cond.instanceMethod (mc_M 280).1 ∈ ms_tb := mk_tb (mk_sub9 (List.mem_of_getElem? (i := 68) rfl) rfl)
set_option maxRecDepth 100000 in
theorem mk_se280 : Jvm.Cond.selects (mc_M 280).1.cls (mc_M 280).1 (mc_M 280).1 ∈ ms_tb := mk_tb (mk_sub9 (List.mem_of_getElem? (i := 69) rfl) rfl)
set_option maxRecDepth 100000 in
theorem mk_ca281 : ms_callee mc_M 281 1 := ⟨mk_sub9 (List.mem_of_getElem? (i := 82) rfl) rfl, mk_tb (mk_sub1 (List.mem_of_getElem? (i := 16) rfl) rfl), by decide +kernel, by decide +kernel, by decide +kernel, by decide +kernel, by decide +kernel⟩
set_option maxRecDepth 100000 in
theorem mk_im281 : Jvm.Cond.instanceMethod (mc_M 281).1 ∈ ms_tb := mk_tb (mk_sub9 (List.mem_of_getElem? (i := 80) rfl) rfl)
set_option maxRecDepth 100000 in
theorem mk_se281 : Jvm.Cond.selects (mc_M 281).1.cls (mc_M 281).1 (mc_M 281).1 ∈ ms_tb := mk_tb (mk_sub9 (List.mem_of_getElem? (i := 81) rfl) rfl)
set_option maxRecDepth 100000 in
theorem mk_ca282 : ms_callee mc_M 282 2 := ⟨mk_sub11 (List.mem_of_getElem? (i := 112) rfl) rfl, mk_tb (mk_sub1 (List.mem_of_getElem? (i := 16) rfl) rfl), by decide +kernel, by decide +kernel, by decide +kernel, by decide +kernel, by decide +kernel⟩
set_option maxRecDepth 100000 in
theorem mk_im282 : Jvm.Cond.instanceMethod (mc_M 282).1 ∈ ms_tb := mk_tb (mk_sub11 (List.mem_of_getElem? (i := 110) rfl) rfl)
set_option maxRecDepth 100000 in
theorem mk_se282 : Jvm.Cond.selects (mc_M 282).1.cls (mc_M 282).1 (mc_M 282).1 ∈ ms_tb := mk_tb (mk_sub11 (List.mem_of_getElem? (i := 111) rfl) rfl)
set_option maxRecDepth 100000 in
theorem mk_ca283 : ms_callee mc_M 283 1 := ⟨mk_sub11 (List.mem_of_getElem? (i := 108) rfl) rfl, mk_tb (mk_sub1 (List.mem_of_getElem? (i := 16) rfl) rfl), by decide +kernel, by decide +kernel, by decide +kernel, by decide +kernel, by decide +kernel⟩
set_option maxRecDepth 100000 in
theorem mk_im283 : Jvm.Cond.instanceMethod (mc_M 283).1 ∈ ms_tb := mk_tb (mk_sub11 (List.mem_of_getElem? (i := 106) rfl) rfl)
set_option maxRecDepth 100000 in
theorem mk_se283 : Jvm.Cond.selects (mc_M 283).1.cls (mc_M 283).1 (mc_M 283).1 ∈ ms_tb := mk_tb (mk_sub11 (List.mem_of_getElem? (i := 107) rfl) rfl)
set_option maxRecDepth 100000 in
theorem mk_ca284 : ms_callee mc_M 284 1 := ⟨mk_sub11 (List.mem_of_getElem? (i := 120) rfl) rfl, mk_tb (mk_sub1 (List.mem_of_getElem? (i := 16) rfl) rfl), by decide +kernel, by decide +kernel, by decide +kernel, by decide +kernel, by decide +kernel⟩
set_option maxRecDepth 100000 in
theorem mk_im284 : Jvm.Cond.instanceMethod (mc_M 284).1 ∈ ms_tb := mk_tb (mk_sub11 (List.mem_of_getElem? (i := 118) rfl) rfl)
set_option maxRecDepth 100000 in
theorem mk_se284 : Jvm.Cond.selects (mc_M 284).1.cls (mc_M 284).1 (mc_M 284).1 ∈ ms_tb := mk_tb (mk_sub11 (List.mem_of_getElem? (i := 119) rfl) rfl)
set_option maxRecDepth 100000 in
theorem mk_ca285 : ms_callee mc_M 285 3 := ⟨mk_sub11 (List.mem_of_getElem? (i := 189) rfl) rfl, mk_tb (mk_sub1 (List.mem_of_getElem? (i := 16) rfl) rfl), by decide +kernel, by decide +kernel, by decide +kernel, by decide +kernel, by decide +kernel⟩
set_option maxRecDepth 100000 in
theorem mk_im285 : Jvm.Cond.instanceMethod (mc_M 285).1 ∈ ms_tb := mk_tb (mk_sub11 (List.mem_of_getElem? (i := 187) rfl) rfl)
set_option maxRecDepth 100000 in
theorem mk_se285 : Jvm.Cond.selects (mc_M 285).1.cls (mc_M 285).1 (mc_M 285).1 ∈ ms_tb := mk_tb (mk_sub11 (List.mem_of_getElem? (i := 188) rfl) rfl)
set_option maxRecDepth 100000 in
theorem mk_ca286 : ms_callee mc_M 286 0 := ⟨mk_sub11 (List.mem_of_getElem? (i := 197) rfl) rfl, mk_tb (mk_sub1 (List.mem_of_getElem? (i := 16) rfl) rfl), by decide +kernel, by decide +kernel, by decide +kernel, by decide +kernel, by decide +kernel⟩
set_option maxRecDepth 100000 in
theorem mk_im286 : Jvm.Cond.instanceMethod (mc_M 286).1 ∈ ms_tb := mk_tb (mk_sub11 (List.mem_of_getElem? (i := 195) rfl) rfl)
set_option maxRecDepth 100000 in
theorem mk_se286 : Jvm.Cond.selects (mc_M 286).1.cls (mc_M 286).1 (mc_M 286).1 ∈ ms_tb := mk_tb (mk_sub11 (List.mem_of_getElem? (i := 196) rfl) rfl)
set_option maxRecDepth 100000 in
theorem mk_ca287 : ms_callee mc_M 287 1 := ⟨mk_sub12 (List.mem_of_getElem? (i := 14) rfl) rfl, mk_tb (mk_sub1 (List.mem_of_getElem? (i := 16) rfl) rfl), by decide +kernel, by decide +kernel, by decide +kernel, by decide +kernel, by decide +kernel⟩
set_option maxRecDepth 100000 in
theorem mk_im287 : Jvm.Cond.instanceMethod (mc_M 287).1 ∈ ms_tb := mk_tb (mk_sub12 (List.mem_of_getElem? (i := 12) rfl) rfl)
set_option maxRecDepth 100000 in
theorem mk_se287 : Jvm.Cond.selects (mc_M 287).1.cls (mc_M 287).1 (mc_M 287).1 ∈ ms_tb := mk_tb (mk_sub12 (List.mem_of_getElem? (i := 13) rfl) rfl)
set_option maxRecDepth 100000 in
theorem mk_ca288 : ms_callee mc_M 288 0 := ⟨mk_sub12 (List.mem_of_getElem? (i := 10) rfl) rfl, mk_tb (mk_sub1 (List.mem_of_getElem? (i := 16) rfl) rfl), by decide +kernel, by decide +kernel, by decide +kernel, by decide +kernel, by decide +kernel⟩
set_option maxRecDepth 100000 in
theorem mk_im288 : Jvm.Cond.instanceMethod (mc_M 288).1 ∈ ms_tb := mk_tb (mk_sub12 (List.mem_of_getElem? (i := 8) rfl) rfl)
set_option maxRecDepth 100000 in
theorem mk_se288 : Jvm.Cond.selects (mc_M 288).1.cls (mc_M 288).1 (mc_M 288).1 ∈ ms_tb := mk_tb (mk_sub12 (List.mem_of_getElem? (i := 9) rfl) rfl)
set_option maxRecDepth 100000 in
theorem mk_ca289 : ms_callee mc_M 289 1 := ⟨mk_sub12 (List.mem_of_getElem? (i := 40) rfl) rfl, mk_tb (mk_sub1 (List.mem_of_getElem? (i := 16) rfl) rfl), by decide +kernel, by decide +kernel, by decide +kernel, by decide +kernel, by decide +kernel⟩
set_option maxRecDepth 100000 in
theorem mk_im289 : Jvm.Cond.instanceMethod (mc_M 289).1 ∈ ms_tb := mk_tb (mk_sub12 (List.mem_of_getElem? (i := 38) rfl) rfl)
set_option maxRecDepth 100000 in
theorem mk_se289 : Jvm.Cond.selects (mc_M 289).1.cls (mc_M 289).1 (mc_M 289).1 ∈ ms_tb := mk_tb (mk_sub12 (List.mem_of_getElem? (i := 39) rfl) rfl)
set_option maxRecDepth 100000 in
theorem mk_ca290 : ms_callee mc_M 290 2 := ⟨mk_sub11 (List.mem_of_getElem? (i := 212) rfl) rfl, mk_tb (mk_sub1 (List.mem_of_getElem? (i := 16) rfl) rfl), by decide +kernel, by decide +kernel, by decide +kernel, by decide +kernel, by decide +kernel⟩
set_option maxRecDepth 100000 in
theorem mk_im290 : Jvm.Cond.instanceMethod (mc_M 290).1 ∈ ms_tb := mk_tb (mk_sub11 (List.mem_of_getElem? (i := 210) rfl) rfl)
set_option maxRecDepth 100000 in
theorem mk_se290 : Jvm.Cond.selects (mc_M 290).1.cls (mc_M 290).1 (mc_M 290).1 ∈ ms_tb := mk_tb (mk_sub11 (List.mem_of_getElem? (i := 211) rfl) rfl)
set_option maxRecDepth 100000 in
theorem mk_ca291 : ms_callee mc_M 291 1 := ⟨mk_sub12 (List.mem_of_getElem? (i := 18) rfl) rfl, mk_tb (mk_sub1 (List.mem_of_getElem? (i := 16) rfl) rfl), by decide +kernel, by decide +kernel, by decide +kernel, by decide +kernel, by decide +kernel⟩
set_option maxRecDepth 100000 in
theorem mk_im291 : Jvm.Cond.instanceMethod (mc_M 291).1 ∈ ms_tb := mk_tb (mk_sub12 (List.mem_of_getElem? (i := 16) rfl) rfl)
set_option maxRecDepth 100000 in
theorem mk_se291 : Jvm.Cond.selects (mc_M 291).1.cls (mc_M 291).1 (mc_M 291).1 ∈ ms_tb := mk_tb (mk_sub12 (List.mem_of_getElem? (i := 17) rfl) rfl)
set_option maxRecDepth 100000 in
theorem mk_ca292 : ms_callee mc_M 292 3 := ⟨mk_sub12 (List.mem_of_getElem? (i := 22) rfl) rfl, mk_tb (mk_sub1 (List.mem_of_getElem? (i := 16) rfl) rfl), by decide +kernel, by decide +kernel, by decide +kernel, by decide +kernel, by decide +kernel⟩
set_option maxRecDepth 100000 in
theorem mk_im292 : Jvm.Cond.instanceMethod (mc_M 292).1 ∈ ms_tb := mk_tb (mk_sub12 (List.mem_of_getElem? (i := 20) rfl) rfl)
set_option maxRecDepth 100000 in
theorem mk_se292 : Jvm.Cond.selects (mc_M 292).1.cls (mc_M 292).1 (mc_M 292).1 ∈ ms_tb := mk_tb (mk_sub12 (List.mem_of_getElem? (i := 21) rfl) rfl)
set_option maxRecDepth 100000 in
theorem mk_ca293 : ms_callee mc_M 293 1 := ⟨mk_sub11 (List.mem_of_getElem? (i := 85) rfl) rfl, mk_tb (mk_sub1 (List.mem_of_getElem? (i := 16) rfl) rfl), by decide +kernel, by decide +kernel, by decide +kernel, by decide +kernel, by decide +kernel⟩
set_option maxRecDepth 100000 in
theorem mk_im293 : Jvm.Cond.instanceMethod (mc_M 293).1 ∈ ms_tb := mk_tb (mk_sub11 (List.mem_of_getElem? (i := 83) rfl) rfl)
set_option maxRecDepth 100000 in
theorem mk_se293 : Jvm.Cond.selects (mc_M 293).1.cls (mc_M 293).1 (mc_M 293).1 ∈ ms_tb := mk_tb (mk_sub11 (List.mem_of_getElem? (i := 84) rfl) rfl)
set_option maxRecDepth 100000 in
theorem mk_ca294 : ms_callee mc_M 294 1 := ⟨mk_sub9 (List.mem_of_getElem? (i := 78) rfl) rfl, mk_tb (mk_sub1 (List.mem_of_getElem? (i := 16) rfl) rfl), by decide +kernel, by decide +kernel, by decide +kernel, by decide +kernel, by decide +kernel⟩
set_option maxRecDepth 100000 in
theorem mk_im294 : Jvm.Cond.instanceMethod (mc_M 294).1 ∈ ms_tb := mk_tb (mk_sub9 (List.mem_of_getElem? (i := 76) rfl) rfl)
set_option maxRecDepth 100000 in
theorem mk_se294 : Jvm.Cond.selects (mc_M 294).1.cls (mc_M 294).1 (mc_M 294).1 ∈ ms_tb := mk_tb (mk_sub9 (List.mem_of_getElem? (i := 77) rfl) rfl)
set_option maxRecDepth 100000 in
theorem mk_ca295 : ms_callee mc_M 295 1 := ⟨mk_sub11 (List.mem_of_getElem? (i := 229) rfl) rfl, mk_tb (mk_sub1 (List.mem_of_getElem? (i := 16) rfl) rfl), by decide +kernel, by decide +kernel, by decide +kernel, by decide +kernel, by decide +kernel⟩
set_option maxRecDepth 100000 in
theorem mk_im295 : Jvm.Cond.instanceMethod (mc_M 295).1 ∈ ms_tb := mk_tb (mk_sub11 (List.mem_of_getElem? (i := 227) rfl) rfl)
set_option maxRecDepth 100000 in
theorem mk_se295 : Jvm.Cond.selects (mc_M 295).1.cls (mc_M 295).1 (mc_M 295).1 ∈ ms_tb := mk_tb (mk_sub11 (List.mem_of_getElem? (i := 228) rfl) rfl)
set_option maxRecDepth 100000 in
theorem mk_ca296 : ms_callee mc_M 296 2 := ⟨mk_sub12 (List.mem_of_getElem? (i := 83) rfl) rfl, mk_tb (mk_sub1 (List.mem_of_getElem? (i := 16) rfl) rfl), by decide +kernel, by decide +kernel, by decide +kernel, by decide +kernel, by decide +kernel⟩
set_option maxRecDepth 100000 in
theorem mk_im296 : Jvm.Cond.static (mc_M 296).1 ∈ ms_tb := mk_tb (mk_sub12 (List.mem_of_getElem? (i := 82) rfl) rfl)
set_option maxRecDepth 100000 in
theorem mk_ca297 : ms_callee mc_M 297 2 := ⟨mk_sub12 (List.mem_of_getElem? (i := 80) rfl) rfl, mk_tb (mk_sub1 (List.mem_of_getElem? (i := 16) rfl) rfl), by decide +kernel, by decide +kernel, by decide +kernel, by decide +kernel, by decide +kernel⟩
set_option maxRecDepth 100000 in
theorem mk_im297 : Jvm.Cond.instanceMethod (mc_M 297).1 ∈ ms_tb := mk_tb (mk_sub12 (List.mem_of_getElem? (i := 78) rfl) rfl)
set_option maxRecDepth 100000 in
theorem mk_se297 : Jvm.Cond.selects (mc_M 297).1.cls (mc_M 297).1 (mc_M 297).1 ∈ ms_tb := mk_tb (mk_sub12 (List.mem_of_getElem? (i := 79) rfl) rfl)
set_option maxRecDepth 100000 in
theorem mk_ca298 : ms_callee mc_M 298 0 := ⟨mk_sub8 (List.mem_of_getElem? (i := 121) rfl) rfl, mk_tb (mk_sub1 (List.mem_of_getElem? (i := 14) rfl) rfl), by decide +kernel, by decide +kernel, by decide +kernel, by decide +kernel, by decide +kernel⟩
set_option maxRecDepth 100000 in
theorem mk_im298 : Jvm.Cond.instanceMethod (mc_M 298).1 ∈ ms_tb := mk_tb (mk_sub8 (List.mem_of_getElem? (i := 120) rfl) rfl)
set_option maxRecDepth 100000 in
theorem mk_ca299 : ms_callee mc_M 299 0 := ⟨mk_sub9 (List.mem_of_getElem? (i := 62) rfl) rfl, mk_tb (mk_sub1 (List.mem_of_getElem? (i := 14) rfl) rfl), by decide +kernel, by decide +kernel, by decide +kernel, by decide +kernel, by decide +kernel⟩
set_option maxRecDepth 100000 in
theorem mk_im299 : Jvm.Cond.instanceMethod (mc_M 299).1 ∈ ms_tb := mk_tb (mk_sub9 (List.mem_of_getElem? (i := 61) rfl) rfl)
set_option maxRecDepth 100000 in
theorem mk_se299 : Jvm.Cond.selects (mc_M 299).1.cls (mc_M 299).1 (mc_M 299).1 ∈ ms_tb := mk_tb (mk_pr8 (w := (⟨"InvariantDeskModel", "nothing", "()V"⟩, 70)) (List.mem_of_getElem? (i := 4) rfl))
set_option maxRecDepth 100000 in
theorem mk_ca300 : ms_callee mc_M 300 4 := ⟨mk_sub10 (List.mem_of_getElem? (i := 66) rfl) rfl, mk_tb (mk_sub1 (List.mem_of_getElem? (i := 14) rfl) rfl), by decide +kernel, by decide +kernel, by decide +kernel, by decide +kernel, by decide +kernel⟩
set_option maxRecDepth 100000 in
theorem mk_im300 : Jvm.Cond.instanceMethod (mc_M 300).1 ∈ ms_tb := mk_tb (mk_sub10 (List.mem_of_getElem? (i := 65) rfl) rfl)
set_option maxRecDepth 100000 in
theorem mk_se300 : Jvm.Cond.selects (mc_M 300).1.cls (mc_M 300).1 (mc_M 300).1 ∈ ms_tb := mk_tb (mk_pr8 (w := (⟨"InvariantDeskModel", "add", "(IIII)I"⟩, 70)) (List.mem_of_getElem? (i := 5) rfl))
set_option maxRecDepth 100000 in
theorem mk_ca301 : ms_callee mc_M 301 5 := ⟨mk_sub10 (List.mem_of_getElem? (i := 58) rfl) rfl, mk_tb (mk_sub1 (List.mem_of_getElem? (i := 14) rfl) rfl), by decide +kernel, by decide +kernel, by decide +kernel, by decide +kernel, by decide +kernel⟩
set_option maxRecDepth 100000 in
theorem mk_im301 : Jvm.Cond.instanceMethod (mc_M 301).1 ∈ ms_tb := mk_tb (mk_sub10 (List.mem_of_getElem? (i := 56) rfl) rfl)
set_option maxRecDepth 100000 in
theorem mk_se301 : Jvm.Cond.selects (mc_M 301).1.cls (mc_M 301).1 (mc_M 301).1 ∈ ms_tb := mk_tb (mk_sub10 (List.mem_of_getElem? (i := 57) rfl) rfl)
set_option maxRecDepth 100000 in
theorem mk_ca302 : ms_callee mc_M 302 3 := ⟨mk_sub10 (List.mem_of_getElem? (i := 78) rfl) rfl, mk_tb (mk_sub1 (List.mem_of_getElem? (i := 14) rfl) rfl), by decide +kernel, by decide +kernel, by decide +kernel, by decide +kernel, by decide +kernel⟩
set_option maxRecDepth 100000 in
theorem mk_im302 : Jvm.Cond.instanceMethod (mc_M 302).1 ∈ ms_tb := mk_tb (mk_sub10 (List.mem_of_getElem? (i := 77) rfl) rfl)
set_option maxRecDepth 100000 in
theorem mk_se302 : Jvm.Cond.selects (mc_M 302).1.cls (mc_M 302).1 (mc_M 302).1 ∈ ms_tb := mk_tb (mk_pr8 (w := (⟨"InvariantDeskModel", "isAt", "(III)Z"⟩, 70)) (List.mem_of_getElem? (i := 8) rfl))
set_option maxRecDepth 100000 in
theorem mk_ca303 : ms_callee mc_M 303 1 := ⟨mk_sub10 (List.mem_of_getElem? (i := 81) rfl) rfl, mk_tb (mk_sub1 (List.mem_of_getElem? (i := 14) rfl) rfl), by decide +kernel, by decide +kernel, by decide +kernel, by decide +kernel, by decide +kernel⟩
set_option maxRecDepth 100000 in
theorem mk_im303 : Jvm.Cond.static (mc_M 303).1 ∈ ms_tb := mk_tb (mk_sub10 (List.mem_of_getElem? (i := 80) rfl) rfl)
set_option maxRecDepth 100000 in
theorem mk_ca304 : ms_callee mc_M 304 1 := ⟨mk_sub10 (List.mem_of_getElem? (i := 88) rfl) rfl, mk_tb (mk_sub1 (List.mem_of_getElem? (i := 14) rfl) rfl), by decide +kernel, by decide +kernel, by decide +kernel, by decide +kernel, by decide +kernel⟩
set_option maxRecDepth 100000 in
theorem mk_im304 : Jvm.Cond.static (mc_M 304).1 ∈ ms_tb := mk_tb (mk_sub10 (List.mem_of_getElem? (i := 87) rfl) rfl)
set_option maxRecDepth 100000 in
theorem mk_ca305 : ms_callee mc_M 305 1 := ⟨mk_sub10 (List.mem_of_getElem? (i := 85) rfl) rfl, mk_tb (mk_sub1 (List.mem_of_getElem? (i := 14) rfl) rfl), by decide +kernel, by decide +kernel, by decide +kernel, by decide +kernel, by decide +kernel⟩
set_option maxRecDepth 100000 in
theorem mk_im305 : Jvm.Cond.instanceMethod (mc_M 305).1 ∈ ms_tb := mk_tb (mk_sub10 (List.mem_of_getElem? (i := 84) rfl) rfl)
set_option maxRecDepth 100000 in
theorem mk_se305 : Jvm.Cond.selects (mc_M 305).1.cls (mc_M 305).1 (mc_M 305).1 ∈ ms_tb := mk_tb (mk_pr8 (w := (⟨"InvariantDeskModel", "isWord", "(I)Z"⟩, 70)) (List.mem_of_getElem? (i := 9) rfl))
set_option maxRecDepth 100000 in
theorem mk_ca306 : ms_callee mc_M 306 1 := ⟨mk_sub10 (List.mem_of_getElem? (i := 74) rfl) rfl, mk_tb (mk_sub1 (List.mem_of_getElem? (i := 14) rfl) rfl), by decide +kernel, by decide +kernel, by decide +kernel, by decide +kernel, by decide +kernel⟩
set_option maxRecDepth 100000 in
theorem mk_im306 : Jvm.Cond.instanceMethod (mc_M 306).1 ∈ ms_tb := mk_tb (mk_sub10 (List.mem_of_getElem? (i := 73) rfl) rfl)
set_option maxRecDepth 100000 in
theorem mk_se306 : Jvm.Cond.selects (mc_M 306).1.cls (mc_M 306).1 (mc_M 306).1 ∈ ms_tb := mk_tb (mk_pr8 (w := (⟨"InvariantDeskModel", "behindBlanks", "(I)I"⟩, 70)) (List.mem_of_getElem? (i := 7) rfl))
set_option maxRecDepth 100000 in
theorem mk_ca307 : ms_callee mc_M 307 2 := ⟨mk_sub10 (List.mem_of_getElem? (i := 92) rfl) rfl, mk_tb (mk_sub1 (List.mem_of_getElem? (i := 14) rfl) rfl), by decide +kernel, by decide +kernel, by decide +kernel, by decide +kernel, by decide +kernel⟩
set_option maxRecDepth 100000 in
theorem mk_im307 : Jvm.Cond.instanceMethod (mc_M 307).1 ∈ ms_tb := mk_tb (mk_sub10 (List.mem_of_getElem? (i := 91) rfl) rfl)
set_option maxRecDepth 100000 in
theorem mk_se307 : Jvm.Cond.selects (mc_M 307).1.cls (mc_M 307).1 (mc_M 307).1 ∈ ms_tb := mk_tb (mk_pr8 (w := (⟨"InvariantDeskModel", "wordOf", "(II)I"⟩, 70)) (List.mem_of_getElem? (i := 10) rfl))
set_option maxRecDepth 100000 in
theorem mk_ca308 : ms_callee mc_M 308 2 := ⟨mk_sub10 (List.mem_of_getElem? (i := 98) rfl) rfl, mk_tb (mk_sub1 (List.mem_of_getElem? (i := 14) rfl) rfl), by decide +kernel, by decide +kernel, by decide +kernel, by decide +kernel, by decide +kernel⟩
set_option maxRecDepth 100000 in
theorem mk_im308 : Jvm.Cond.instanceMethod (mc_M 308).1 ∈ ms_tb := mk_tb (mk_sub10 (List.mem_of_getElem? (i := 97) rfl) rfl)
set_option maxRecDepth 100000 in
theorem mk_se308 : Jvm.Cond.selects (mc_M 308).1.cls (mc_M 308).1 (mc_M 308).1 ∈ ms_tb := mk_tb (mk_pr8 (w := (⟨"InvariantDeskModel", "isNumber", "(II)Z"⟩, 70)) (List.mem_of_getElem? (i := 11) rfl))
set_option maxRecDepth 100000 in
theorem mk_ca309 : ms_callee mc_M 309 0 := ⟨mk_sub10 (List.mem_of_getElem? (i := 70) rfl) rfl, mk_tb (mk_sub1 (List.mem_of_getElem? (i := 14) rfl) rfl), by decide +kernel, by decide +kernel, by decide +kernel, by decide +kernel, by decide +kernel⟩
set_option maxRecDepth 100000 in
theorem mk_im309 : Jvm.Cond.instanceMethod (mc_M 309).1 ∈ ms_tb := mk_tb (mk_sub10 (List.mem_of_getElem? (i := 69) rfl) rfl)
set_option maxRecDepth 100000 in
theorem mk_se309 : Jvm.Cond.selects (mc_M 309).1.cls (mc_M 309).1 (mc_M 309).1 ∈ ms_tb := mk_tb (mk_pr8 (w := (⟨"InvariantDeskModel", "scan", "()V"⟩, 70)) (List.mem_of_getElem? (i := 6) rfl))
set_option maxRecDepth 100000 in
theorem mk_ca310 : ms_callee mc_M 310 0 := ⟨mk_sub10 (List.mem_of_getElem? (i := 117) rfl) rfl, mk_tb (mk_sub1 (List.mem_of_getElem? (i := 14) rfl) rfl), by decide +kernel, by decide +kernel, by decide +kernel, by decide +kernel, by decide +kernel⟩
set_option maxRecDepth 100000 in
theorem mk_im310 : Jvm.Cond.instanceMethod (mc_M 310).1 ∈ ms_tb := mk_tb (mk_sub10 (List.mem_of_getElem? (i := 116) rfl) rfl)
set_option maxRecDepth 100000 in
theorem mk_se310 : Jvm.Cond.selects (mc_M 310).1.cls (mc_M 310).1 (mc_M 310).1 ∈ ms_tb := mk_tb (mk_pr8 (w := (⟨"InvariantDeskModel", "look", "()I"⟩, 70)) (List.mem_of_getElem? (i := 15) rfl))
set_option maxRecDepth 100000 in
theorem mk_ca311 : ms_callee mc_M 311 1 := ⟨mk_sub10 (List.mem_of_getElem? (i := 121) rfl) rfl, mk_tb (mk_sub1 (List.mem_of_getElem? (i := 14) rfl) rfl), by decide +kernel, by decide +kernel, by decide +kernel, by decide +kernel, by decide +kernel⟩
set_option maxRecDepth 100000 in
theorem mk_im311 : Jvm.Cond.instanceMethod (mc_M 311).1 ∈ ms_tb := mk_tb (mk_sub10 (List.mem_of_getElem? (i := 120) rfl) rfl)
set_option maxRecDepth 100000 in
theorem mk_se311 : Jvm.Cond.selects (mc_M 311).1.cls (mc_M 311).1 (mc_M 311).1 ∈ ms_tb := mk_tb (mk_pr9 (w := (⟨"InvariantDeskModel", "need", "(Z)V"⟩, 70)) (List.mem_of_getElem? (i := 0) rfl))
set_option maxRecDepth 100000 in
theorem mk_ca312 : ms_callee mc_M 312 1 := ⟨mk_sub10 (List.mem_of_getElem? (i := 113) rfl) rfl, mk_tb (mk_sub1 (List.mem_of_getElem? (i := 14) rfl) rfl), by decide +kernel, by decide +kernel, by decide +kernel, by decide +kernel, by decide +kernel⟩
set_option maxRecDepth 100000 in
theorem mk_im312 : Jvm.Cond.instanceMethod (mc_M 312).1 ∈ ms_tb := mk_tb (mk_sub10 (List.mem_of_getElem? (i := 112) rfl) rfl)
set_option maxRecDepth 100000 in
theorem mk_se312 : Jvm.Cond.selects (mc_M 312).1.cls (mc_M 312).1 (mc_M 312).1 ∈ ms_tb := mk_tb (mk_pr8 (w := (⟨"InvariantDeskModel", "take", "(I)V"⟩, 70)) (List.mem_of_getElem? (i := 14) rfl))
set_option maxRecDepth 100000 in
theorem mk_ca313 : ms_callee mc_M 313 3 := ⟨mk_sub10 (List.mem_of_getElem? (i := 109) rfl) rfl, mk_tb (mk_sub1 (List.mem_of_getElem? (i := 14) rfl) rfl), by decide +kernel, by decide +kernel, by decide +kernel, by decide +kernel, by decide +kernel⟩
set_option maxRecDepth 100000 in
theorem mk_im313 : Jvm.Cond.instanceMethod (mc_M 313).1 ∈ ms_tb := mk_tb (mk_sub10 (List.mem_of_getElem? (i := 108) rfl) rfl)
set_option maxRecDepth 100000 in
theorem mk_se313 : Jvm.Cond.selects (mc_M 313).1.cls (mc_M 313).1 (mc_M 313).1 ∈ ms_tb := mk_tb (mk_pr8 (w := (⟨"InvariantDeskModel", "draft", "(III)I"⟩, 70)) (List.mem_of_getElem? (i := 13) rfl))
set_option maxRecDepth 100000 in
theorem mk_ca314 : ms_callee mc_M 314 2 := ⟨mk_sub10 (List.mem_of_getElem? (i := 129) rfl) rfl, mk_tb (mk_sub1 (List.mem_of_getElem? (i := 14) rfl) rfl), by decide +kernel, by decide +kernel, by decide +kernel, by decide +kernel, by decide +kernel⟩
set_option maxRecDepth 100000 in
theorem mk_im314 : Jvm.Cond.instanceMethod (mc_M 314).1 ∈ ms_tb := mk_tb (mk_sub10 (List.mem_of_getElem? (i := 128) rfl) rfl)
set_option maxRecDepth 100000 in
theorem mk_se314 : Jvm.Cond.selects (mc_M 314).1.cls (mc_M 314).1 (mc_M 314).1 ∈ ms_tb := mk_tb (mk_pr9 (w := (⟨"InvariantDeskModel", "join", "(II)V"⟩, 70)) (List.mem_of_getElem? (i := 2) rfl))
set_option maxRecDepth 100000 in
theorem mk_ca315 : ms_callee mc_M 315 0 := ⟨mk_sub10 (List.mem_of_getElem? (i := 125) rfl) rfl, mk_tb (mk_sub1 (List.mem_of_getElem? (i := 14) rfl) rfl), by decide +kernel, by decide +kernel, by decide +kernel, by decide +kernel, by decide +kernel⟩
set_option maxRecDepth 100000 in
theorem mk_im315 : Jvm.Cond.instanceMethod (mc_M 315).1 ∈ ms_tb := mk_tb (mk_sub10 (List.mem_of_getElem? (i := 124) rfl) rfl)
set_option maxRecDepth 100000 in
theorem mk_se315 : Jvm.Cond.selects (mc_M 315).1.cls (mc_M 315).1 (mc_M 315).1 ∈ ms_tb := mk_tb (mk_pr9 (w := (⟨"InvariantDeskModel", "name", "()I"⟩, 70)) (List.mem_of_getElem? (i := 1) rfl))
set_option maxRecDepth 100000 in
theorem mk_ca316 : ms_callee mc_M 316 1 := ⟨mk_sub10 (List.mem_of_getElem? (i := 145) rfl) rfl, mk_tb (mk_sub1 (List.mem_of_getElem? (i := 14) rfl) rfl), by decide +kernel, by decide +kernel, by decide +kernel, by decide +kernel, by decide +kernel⟩
set_option maxRecDepth 100000 in
theorem mk_im316 : Jvm.Cond.instanceMethod (mc_M 316).1 ∈ ms_tb := mk_tb (mk_sub10 (List.mem_of_getElem? (i := 144) rfl) rfl)
set_option maxRecDepth 100000 in
theorem mk_se316 : Jvm.Cond.selects (mc_M 316).1.cls (mc_M 316).1 (mc_M 316).1 ∈ ms_tb := mk_tb (mk_pr9 (w := (⟨"InvariantDeskModel", "number", "(Z)I"⟩, 70)) (List.mem_of_getElem? (i := 6) rfl))
set_option maxRecDepth 100000 in
theorem mk_ca317 : ms_callee mc_M 317 1 := ⟨mk_sub10 (List.mem_of_getElem? (i := 137) rfl) rfl, mk_tb (mk_sub1 (List.mem_of_getElem? (i := 14) rfl) rfl), by decide +kernel, by decide +kernel, by decide +kernel, by decide +kernel, by decide +kernel⟩
set_option maxRecDepth 100000 in
theorem mk_im317 : Jvm.Cond.instanceMethod (mc_M 317).1 ∈ ms_tb := mk_tb (mk_sub10 (List.mem_of_getElem? (i := 136) rfl) rfl)
set_option maxRecDepth 100000 in
theorem mk_se317 : Jvm.Cond.selects (mc_M 317).1.cls (mc_M 317).1 (mc_M 317).1 ∈ ms_tb := mk_tb (mk_pr9 (w := (⟨"InvariantDeskModel", "deep", "(I)V"⟩, 70)) (List.mem_of_getElem? (i := 4) rfl))
set_option maxRecDepth 100000 in
theorem mk_ca318 : ms_callee mc_M 318 1 := ⟨mk_sub10 (List.mem_of_getElem? (i := 149) rfl) rfl, mk_tb (mk_sub1 (List.mem_of_getElem? (i := 14) rfl) rfl), by decide +kernel, by decide +kernel, by decide +kernel, by decide +kernel, by decide +kernel⟩
set_option maxRecDepth 100000 in
theorem mk_im318 : Jvm.Cond.instanceMethod (mc_M 318).1 ∈ ms_tb := mk_tb (mk_sub10 (List.mem_of_getElem? (i := 148) rfl) rfl)
set_option maxRecDepth 100000 in
theorem mk_se318 : Jvm.Cond.selects (mc_M 318).1.cls (mc_M 318).1 (mc_M 318).1 ∈ ms_tb := mk_tb (mk_pr9 (w := (⟨"InvariantDeskModel", "sum", "(I)I"⟩, 70)) (List.mem_of_getElem? (i := 7) rfl))
set_option maxRecDepth 100000 in
theorem mk_ca319 : ms_callee mc_M 319 1 := ⟨mk_sub10 (List.mem_of_getElem? (i := 153) rfl) rfl, mk_tb (mk_sub1 (List.mem_of_getElem? (i := 14) rfl) rfl), by decide +kernel, by decide +kernel, by decide +kernel, by decide +kernel, by decide +kernel⟩
set_option maxRecDepth 100000 in
theorem mk_im319 : Jvm.Cond.instanceMethod (mc_M 319).1 ∈ ms_tb := mk_tb (mk_sub10 (List.mem_of_getElem? (i := 152) rfl) rfl)
set_option maxRecDepth 100000 in
theorem mk_se319 : Jvm.Cond.selects (mc_M 319).1.cls (mc_M 319).1 (mc_M 319).1 ∈ ms_tb := mk_tb (mk_pr9 (w := (⟨"InvariantDeskModel", "term", "(I)I"⟩, 70)) (List.mem_of_getElem? (i := 8) rfl))
set_option maxRecDepth 100000 in
theorem mk_ca320 : ms_callee mc_M 320 1 := ⟨mk_sub10 (List.mem_of_getElem? (i := 157) rfl) rfl, mk_tb (mk_sub1 (List.mem_of_getElem? (i := 14) rfl) rfl), by decide +kernel, by decide +kernel, by decide +kernel, by decide +kernel, by decide +kernel⟩
set_option maxRecDepth 100000 in
theorem mk_im320 : Jvm.Cond.instanceMethod (mc_M 320).1 ∈ ms_tb := mk_tb (mk_sub10 (List.mem_of_getElem? (i := 156) rfl) rfl)
set_option maxRecDepth 100000 in
theorem mk_se320 : Jvm.Cond.selects (mc_M 320).1.cls (mc_M 320).1 (mc_M 320).1 ∈ ms_tb := mk_tb (mk_pr9 (w := (⟨"InvariantDeskModel", "factor", "(I)I"⟩, 70)) (List.mem_of_getElem? (i := 9) rfl))
set_option maxRecDepth 100000 in
theorem mk_ca321 : ms_callee mc_M 321 1 := ⟨mk_sub10 (List.mem_of_getElem? (i := 169) rfl) rfl, mk_tb (mk_sub1 (List.mem_of_getElem? (i := 14) rfl) rfl), by decide +kernel, by decide +kernel, by decide +kernel, by decide +kernel, by decide +kernel⟩
set_option maxRecDepth 100000 in
theorem mk_im321 : Jvm.Cond.instanceMethod (mc_M 321).1 ∈ ms_tb := mk_tb (mk_sub10 (List.mem_of_getElem? (i := 168) rfl) rfl)
set_option maxRecDepth 100000 in
theorem mk_se321 : Jvm.Cond.selects (mc_M 321).1.cls (mc_M 321).1 (mc_M 321).1 ∈ ms_tb := mk_tb (mk_pr9 (w := (⟨"InvariantDeskModel", "cond", "(I)I"⟩, 70)) (List.mem_of_getElem? (i := 12) rfl))
set_option maxRecDepth 100000 in
theorem mk_ca322 : ms_callee mc_M 322 2 := ⟨mk_sub10 (List.mem_of_getElem? (i := 173) rfl) rfl, mk_tb (mk_sub1 (List.mem_of_getElem? (i := 14) rfl) rfl), by decide +kernel, by decide +kernel, by decide +kernel, by decide +kernel, by decide +kernel⟩
set_option maxRecDepth 100000 in
theorem mk_im322 : Jvm.Cond.instanceMethod (mc_M 322).1 ∈ ms_tb := mk_tb (mk_sub10 (List.mem_of_getElem? (i := 172) rfl) rfl)
set_option maxRecDepth 100000 in
theorem mk_se322 : Jvm.Cond.selects (mc_M 322).1.cls (mc_M 322).1 (mc_M 322).1 ∈ ms_tb := mk_tb (mk_pr9 (w := (⟨"InvariantDeskModel", "tests", "(II)I"⟩, 70)) (List.mem_of_getElem? (i := 13) rfl))
set_option maxRecDepth 100000 in
theorem mk_ca323 : ms_callee mc_M 323 1 := ⟨mk_sub10 (List.mem_of_getElem? (i := 177) rfl) rfl, mk_tb (mk_sub1 (List.mem_of_getElem? (i := 14) rfl) rfl), by decide +kernel, by decide +kernel, by decide +kernel, by decide +kernel, by decide +kernel⟩
set_option maxRecDepth 100000 in
theorem mk_im323 : Jvm.Cond.instanceMethod (mc_M 323).1 ∈ ms_tb := mk_tb (mk_sub10 (List.mem_of_getElem? (i := 176) rfl) rfl)
set_option maxRecDepth 100000 in
theorem mk_se323 : Jvm.Cond.selects (mc_M 323).1.cls (mc_M 323).1 (mc_M 323).1 ∈ ms_tb := mk_tb (mk_pr9 (w := (⟨"InvariantDeskModel", "test", "(I)I"⟩, 70)) (List.mem_of_getElem? (i := 14) rfl))
set_option maxRecDepth 100000 in
theorem mk_ca324 : ms_callee mc_M 324 1 := ⟨mk_sub10 (List.mem_of_getElem? (i := 133) rfl) rfl, mk_tb (mk_sub1 (List.mem_of_getElem? (i := 14) rfl) rfl), by decide +kernel, by decide +kernel, by decide +kernel, by decide +kernel, by decide +kernel⟩
set_option maxRecDepth 100000 in
theorem mk_im324 : Jvm.Cond.instanceMethod (mc_M 324).1 ∈ ms_tb := mk_tb (mk_sub10 (List.mem_of_getElem? (i := 132) rfl) rfl)
set_option maxRecDepth 100000 in
theorem mk_se324 : Jvm.Cond.selects (mc_M 324).1.cls (mc_M 324).1 (mc_M 324).1 ∈ ms_tb := mk_tb (mk_pr9 (w := (⟨"InvariantDeskModel", "block", "(I)I"⟩, 70)) (List.mem_of_getElem? (i := 3) rfl))
set_option maxRecDepth 100000 in
theorem mk_ca325 : ms_callee mc_M 325 2 := ⟨mk_sub10 (List.mem_of_getElem? (i := 165) rfl) rfl, mk_tb (mk_sub1 (List.mem_of_getElem? (i := 14) rfl) rfl), by decide +kernel, by decide +kernel, by decide +kernel, by decide +kernel, by decide +kernel⟩
set_option maxRecDepth 100000 in
theorem mk_im325 : Jvm.Cond.instanceMethod (mc_M 325).1 ∈ ms_tb := mk_tb (mk_sub10 (List.mem_of_getElem? (i := 164) rfl) rfl)
set_option maxRecDepth 100000 in
theorem mk_se325 : Jvm.Cond.selects (mc_M 325).1.cls (mc_M 325).1 (mc_M 325).1 ∈ ms_tb := mk_tb (mk_pr9 (w := (⟨"InvariantDeskModel", "sums", "(II)V"⟩, 70)) (List.mem_of_getElem? (i := 11) rfl))
set_option maxRecDepth 100000 in
theorem mk_ca326 : ms_callee mc_M 326 1 := ⟨mk_sub10 (List.mem_of_getElem? (i := 141) rfl) rfl, mk_tb (mk_sub1 (List.mem_of_getElem? (i := 14) rfl) rfl), by decide +kernel, by decide +kernel, by decide +kernel, by decide +kernel, by decide +kernel⟩
set_option maxRecDepth 100000 in
theorem mk_im326 : Jvm.Cond.instanceMethod (mc_M 326).1 ∈ ms_tb := mk_tb (mk_sub10 (List.mem_of_getElem? (i := 140) rfl) rfl)
set_option maxRecDepth 100000 in
theorem mk_se326 : Jvm.Cond.selects (mc_M 326).1.cls (mc_M 326).1 (mc_M 326).1 ∈ ms_tb := mk_tb (mk_pr9 (w := (⟨"InvariantDeskModel", "statement", "(I)I"⟩, 70)) (List.mem_of_getElem? (i := 5) rfl))
set_option maxRecDepth 100000 in
theorem mk_ca327 : ms_callee mc_M 327 2 := ⟨mk_sub10 (List.mem_of_getElem? (i := 161) rfl) rfl, mk_tb (mk_sub1 (List.mem_of_getElem? (i := 14) rfl) rfl), by decide +kernel, by decide +kernel, by decide +kernel, by decide +kernel, by decide +kernel⟩
set_option maxRecDepth 100000 in
theorem mk_im327 : Jvm.Cond.instanceMethod (mc_M 327).1 ∈ ms_tb := mk_tb (mk_sub10 (List.mem_of_getElem? (i := 160) rfl) rfl)
set_option maxRecDepth 100000 in
theorem mk_se327 : Jvm.Cond.selects (mc_M 327).1.cls (mc_M 327).1 (mc_M 327).1 ∈ ms_tb := mk_tb (mk_pr9 (w := (⟨"InvariantDeskModel", "named", "(II)I"⟩, 70)) (List.mem_of_getElem? (i := 10) rfl))
set_option maxRecDepth 100000 in
theorem mk_ca328 : ms_callee mc_M 328 0 := ⟨mk_sub10 (List.mem_of_getElem? (i := 105) rfl) rfl, mk_tb (mk_sub1 (List.mem_of_getElem? (i := 14) rfl) rfl), by decide +kernel, by decide +kernel, by decide +kernel, by decide +kernel, by decide +kernel⟩
set_option maxRecDepth 100000 in
theorem mk_im328 : Jvm.Cond.instanceMethod (mc_M 328).1 ∈ ms_tb := mk_tb (mk_sub10 (List.mem_of_getElem? (i := 104) rfl) rfl)
set_option maxRecDepth 100000 in
theorem mk_se328 : Jvm.Cond.selects (mc_M 328).1.cls (mc_M 328).1 (mc_M 328).1 ∈ ms_tb := mk_tb (mk_pr8 (w := (⟨"InvariantDeskModel", "function", "()I"⟩, 70)) (List.mem_of_getElem? (i := 12) rfl))
set_option maxRecDepth 100000 in
theorem mk_ca329 : ms_callee mc_M 329 1 := ⟨mk_sub10 (List.mem_of_getElem? (i := 185) rfl) rfl, mk_tb (mk_sub1 (List.mem_of_getElem? (i := 14) rfl) rfl), by decide +kernel, by decide +kernel, by decide +kernel, by decide +kernel, by decide +kernel⟩
set_option maxRecDepth 100000 in
theorem mk_im329 : Jvm.Cond.instanceMethod (mc_M 329).1 ∈ ms_tb := mk_tb (mk_sub10 (List.mem_of_getElem? (i := 184) rfl) rfl)
set_option maxRecDepth 100000 in
theorem mk_se329 : Jvm.Cond.selects (mc_M 329).1.cls (mc_M 329).1 (mc_M 329).1 ∈ ms_tb := mk_tb (mk_pr10 (w := (⟨"InvariantDeskModel", "nameOf", "(I)I"⟩, 70)) (List.mem_of_getElem? (i := 0) rfl))
set_option maxRecDepth 100000 in
theorem mk_ca330 : ms_callee mc_M 330 1 := ⟨mk_sub10 (List.mem_of_getElem? (i := 181) rfl) rfl, mk_tb (mk_sub1 (List.mem_of_getElem? (i := 14) rfl) rfl), by decide +kernel, by decide +kernel, by decide +kernel, by decide +kernel, by decide +kernel⟩
set_option maxRecDepth 100000 in
theorem mk_im330 : Jvm.Cond.instanceMethod (mc_M 330).1 ∈ ms_tb := mk_tb (mk_sub10 (List.mem_of_getElem? (i := 180) rfl) rfl)
set_option maxRecDepth 100000 in
theorem mk_se330 : Jvm.Cond.selects (mc_M 330).1.cls (mc_M 330).1 (mc_M 330).1 ∈ ms_tb := mk_tb (mk_pr9 (w := (⟨"InvariantDeskModel", "keep", "(I)V"⟩, 70)) (List.mem_of_getElem? (i := 15) rfl))
set_option maxRecDepth 100000 in
theorem mk_ca331 : ms_callee mc_M 331 1 := ⟨mk_sub10 (List.mem_of_getElem? (i := 62) rfl) rfl, mk_tb (mk_sub1 (List.mem_of_getElem? (i := 14) rfl) rfl), by decide +kernel, by decide +kernel, by decide +kernel, by decide +kernel, by decide +kernel⟩
set_option maxRecDepth 100000 in
theorem mk_im331 : Jvm.Cond.instanceMethod (mc_M 331).1 ∈ ms_tb := mk_tb (mk_sub10 (List.mem_of_getElem? (i := 60) rfl) rfl)
set_option maxRecDepth 100000 in
theorem mk_se331 : Jvm.Cond.selects (mc_M 331).1.cls (mc_M 331).1 (mc_M 331).1 ∈ ms_tb := mk_tb (mk_sub10 (List.mem_of_getElem? (i := 61) rfl) rfl)
set_option maxRecDepth 100000 in
theorem mk_ca332 : ms_callee mc_M 332 1 := ⟨mk_sub12 (List.mem_of_getElem? (i := 48) rfl) rfl, mk_tb (mk_sub1 (List.mem_of_getElem? (i := 14) rfl) rfl), by decide +kernel, by decide +kernel, by decide +kernel, by decide +kernel, by decide +kernel⟩
set_option maxRecDepth 100000 in
theorem mk_im332 : Jvm.Cond.instanceMethod (mc_M 332).1 ∈ ms_tb := mk_tb (mk_sub12 (List.mem_of_getElem? (i := 46) rfl) rfl)
set_option maxRecDepth 100000 in
theorem mk_se332 : Jvm.Cond.selects (mc_M 332).1.cls (mc_M 332).1 (mc_M 332).1 ∈ ms_tb := mk_tb (mk_sub12 (List.mem_of_getElem? (i := 47) rfl) rfl)
set_option maxRecDepth 100000 in
theorem mk_ca333 : ms_callee mc_M 333 1 := ⟨mk_sub10 (List.mem_of_getElem? (i := 193) rfl) rfl, mk_tb (mk_sub1 (List.mem_of_getElem? (i := 14) rfl) rfl), by decide +kernel, by decide +kernel, by decide +kernel, by decide +kernel, by decide +kernel⟩
set_option maxRecDepth 100000 in
theorem mk_im333 : Jvm.Cond.instanceMethod (mc_M 333).1 ∈ ms_tb := mk_tb (mk_sub10 (List.mem_of_getElem? (i := 192) rfl) rfl)
set_option maxRecDepth 100000 in
theorem mk_se333 : Jvm.Cond.selects (mc_M 333).1.cls (mc_M 333).1 (mc_M 333).1 ∈ ms_tb := mk_tb (mk_pr10 (w := (⟨"InvariantDeskModel", "behind", "(I)I"⟩, 70)) (List.mem_of_getElem? (i := 2) rfl))
set_option maxRecDepth 100000 in
theorem mk_ca334 : ms_callee mc_M 334 1 := ⟨mk_sub10 (List.mem_of_getElem? (i := 217) rfl) rfl, mk_tb (mk_sub1 (List.mem_of_getElem? (i := 14) rfl) rfl), by decide +kernel, by decide +kernel, by decide +kernel, by decide +kernel, by decide +kernel⟩
set_option maxRecDepth 100000 in
theorem mk_im334 : Jvm.Cond.instanceMethod (mc_M 334).1 ∈ ms_tb := mk_tb (mk_sub10 (List.mem_of_getElem? (i := 216) rfl) rfl)
set_option maxRecDepth 100000 in
theorem mk_se334 : Jvm.Cond.selects (mc_M 334).1.cls (mc_M 334).1 (mc_M 334).1 ∈ ms_tb := mk_tb (mk_pr10 (w := (⟨"InvariantDeskModel", "second", "(I)I"⟩, 70)) (List.mem_of_getElem? (i := 8) rfl))
set_option maxRecDepth 100000 in
theorem mk_ca335 : ms_callee mc_M 335 2 := ⟨mk_sub10 (List.mem_of_getElem? (i := 197) rfl) rfl, mk_tb (mk_sub1 (List.mem_of_getElem? (i := 14) rfl) rfl), by decide +kernel, by decide +kernel, by decide +kernel, by decide +kernel, by decide +kernel⟩
set_option maxRecDepth 100000 in
theorem mk_im335 : Jvm.Cond.instanceMethod (mc_M 335).1 ∈ ms_tb := mk_tb (mk_sub10 (List.mem_of_getElem? (i := 196) rfl) rfl)
set_option maxRecDepth 100000 in
theorem mk_se335 : Jvm.Cond.selects (mc_M 335).1.cls (mc_M 335).1 (mc_M 335).1 ∈ ms_tb := mk_tb (mk_pr10 (w := (⟨"InvariantDeskModel", "wrong", "(II)Z"⟩, 70)) (List.mem_of_getElem? (i := 3) rfl))
set_option maxRecDepth 100000 in
theorem mk_ca336 : ms_callee mc_M 336 1 := ⟨mk_sub11 (List.mem_of_getElem? (i := 13) rfl) rfl, mk_tb (mk_sub1 (List.mem_of_getElem? (i := 14) rfl) rfl), by decide +kernel, by decide +kernel, by decide +kernel, by decide +kernel, by decide +kernel⟩
set_option maxRecDepth 100000 in
theorem mk_im336 : Jvm.Cond.instanceMethod (mc_M 336).1 ∈ ms_tb := mk_tb (mk_sub11 (List.mem_of_getElem? (i := 12) rfl) rfl)
set_option maxRecDepth 100000 in
theorem mk_se336 : Jvm.Cond.selects (mc_M 336).1.cls (mc_M 336).1 (mc_M 336).1 ∈ ms_tb := mk_tb (mk_pr11 (w := (⟨"InvariantDeskModel", "lastStatement", "(I)I"⟩, 70)) (List.mem_of_getElem? (i := 1) rfl))
set_option maxRecDepth 100000 in
theorem mk_ca337 : ms_callee mc_M 337 1 := ⟨mk_sub10 (List.mem_of_getElem? (i := 201) rfl) rfl, mk_tb (mk_sub1 (List.mem_of_getElem? (i := 14) rfl) rfl), by decide +kernel, by decide +kernel, by decide +kernel, by decide +kernel, by decide +kernel⟩
set_option maxRecDepth 100000 in
theorem mk_im337 : Jvm.Cond.instanceMethod (mc_M 337).1 ∈ ms_tb := mk_tb (mk_sub10 (List.mem_of_getElem? (i := 200) rfl) rfl)
set_option maxRecDepth 100000 in
theorem mk_se337 : Jvm.Cond.selects (mc_M 337).1.cls (mc_M 337).1 (mc_M 337).1 ∈ ms_tb := mk_tb (mk_pr10 (w := (⟨"InvariantDeskModel", "blockOf", "(I)I"⟩, 70)) (List.mem_of_getElem? (i := 4) rfl))
set_option maxRecDepth 100000 in
theorem mk_ca338 : ms_callee mc_M 338 1 := ⟨mk_sub11 (List.mem_of_getElem? (i := 9) rfl) rfl, mk_tb (mk_sub1 (List.mem_of_getElem? (i := 14) rfl) rfl), by decide +kernel, by decide +kernel, by decide +kernel, by decide +kernel, by decide +kernel⟩
set_option maxRecDepth 100000 in
theorem mk_im338 : Jvm.Cond.instanceMethod (mc_M 338).1 ∈ ms_tb := mk_tb (mk_sub11 (List.mem_of_getElem? (i := 8) rfl) rfl)
set_option maxRecDepth 100000 in
theorem mk_se338 : Jvm.Cond.selects (mc_M 338).1.cls (mc_M 338).1 (mc_M 338).1 ∈ ms_tb := mk_tb (mk_pr11 (w := (⟨"InvariantDeskModel", "returns", "(I)Z"⟩, 70)) (List.mem_of_getElem? (i := 0) rfl))
set_option maxRecDepth 100000 in
theorem mk_ca339 : ms_callee mc_M 339 2 := ⟨mk_sub11 (List.mem_of_getElem? (i := 5) rfl) rfl, mk_tb (mk_sub1 (List.mem_of_getElem? (i := 14) rfl) rfl), by decide +kernel, by decide +kernel, by decide +kernel, by decide +kernel, by decide +kernel⟩
set_option maxRecDepth 100000 in
theorem mk_im339 : Jvm.Cond.instanceMethod (mc_M 339).1 ∈ ms_tb := mk_tb (mk_sub11 (List.mem_of_getElem? (i := 4) rfl) rfl)
set_option maxRecDepth 100000 in
theorem mk_se339 : Jvm.Cond.selects (mc_M 339).1.cls (mc_M 339).1 (mc_M 339).1 ∈ ms_tb := mk_tb (mk_pr10 (w := (⟨"InvariantDeskModel", "functionOf", "(II)I"⟩, 70)) (List.mem_of_getElem? (i := 15) rfl))
set_option maxRecDepth 100000 in
theorem mk_ca340 : ms_callee mc_M 340 1 := ⟨mk_sub10 (List.mem_of_getElem? (i := 229) rfl) rfl, mk_tb (mk_sub1 (List.mem_of_getElem? (i := 14) rfl) rfl), by decide +kernel, by decide +kernel, by decide +kernel, by decide +kernel, by decide +kernel⟩
set_option maxRecDepth 100000 in
theorem mk_im340 : Jvm.Cond.instanceMethod (mc_M 340).1 ∈ ms_tb := mk_tb (mk_sub10 (List.mem_of_getElem? (i := 228) rfl) rfl)
set_option maxRecDepth 100000 in
theorem mk_se340 : Jvm.Cond.selects (mc_M 340).1.cls (mc_M 340).1 (mc_M 340).1 ∈ ms_tb := mk_tb (mk_pr10 (w := (⟨"InvariantDeskModel", "meantNow", "(I)I"⟩, 70)) (List.mem_of_getElem? (i := 11) rfl))
set_option maxRecDepth 100000 in
theorem mk_ca341 : ms_callee mc_M 341 2 := ⟨mk_sub10 (List.mem_of_getElem? (i := 225) rfl) rfl, mk_tb (mk_sub1 (List.mem_of_getElem? (i := 14) rfl) rfl), by decide +kernel, by decide +kernel, by decide +kernel, by decide +kernel, by decide +kernel⟩
set_option maxRecDepth 100000 in
theorem mk_im341 : Jvm.Cond.instanceMethod (mc_M 341).1 ∈ ms_tb := mk_tb (mk_sub10 (List.mem_of_getElem? (i := 224) rfl) rfl)
set_option maxRecDepth 100000 in
theorem mk_se341 : Jvm.Cond.selects (mc_M 341).1.cls (mc_M 341).1 (mc_M 341).1 ∈ ms_tb := mk_tb (mk_pr10 (w := (⟨"InvariantDeskModel", "lookName", "(IZ)Z"⟩, 70)) (List.mem_of_getElem? (i := 10) rfl))
set_option maxRecDepth 100000 in
theorem mk_ca342 : ms_callee mc_M 342 1 := ⟨mk_sub10 (List.mem_of_getElem? (i := 221) rfl) rfl, mk_tb (mk_sub1 (List.mem_of_getElem? (i := 14) rfl) rfl), by decide +kernel, by decide +kernel, by decide +kernel, by decide +kernel, by decide +kernel⟩
set_option maxRecDepth 100000 in
theorem mk_im342 : Jvm.Cond.instanceMethod (mc_M 342).1 ∈ ms_tb := mk_tb (mk_sub10 (List.mem_of_getElem? (i := 220) rfl) rfl)
set_option maxRecDepth 100000 in
theorem mk_se342 : Jvm.Cond.selects (mc_M 342).1.cls (mc_M 342).1 (mc_M 342).1 ∈ ms_tb := mk_tb (mk_pr10 (w := (⟨"InvariantDeskModel", "lookAll", "(I)Z"⟩, 70)) (List.mem_of_getElem? (i := 9) rfl))
set_option maxRecDepth 100000 in
theorem mk_ca343 : ms_callee mc_M 343 2 := ⟨mk_sub10 (List.mem_of_getElem? (i := 213) rfl) rfl, mk_tb (mk_sub1 (List.mem_of_getElem? (i := 14) rfl) rfl), by decide +kernel, by decide +kernel, by decide +kernel, by decide +kernel, by decide +kernel⟩
set_option maxRecDepth 100000 in
theorem mk_im343 : Jvm.Cond.instanceMethod (mc_M 343).1 ∈ ms_tb := mk_tb (mk_sub10 (List.mem_of_getElem? (i := 212) rfl) rfl)
set_option maxRecDepth 100000 in
theorem mk_se343 : Jvm.Cond.selects (mc_M 343).1.cls (mc_M 343).1 (mc_M 343).1 ∈ ms_tb := mk_tb (mk_pr10 (w := (⟨"InvariantDeskModel", "isNew", "(II)Z"⟩, 70)) (List.mem_of_getElem? (i := 7) rfl))
set_option maxRecDepth 100000 in
theorem mk_ca344 : ms_callee mc_M 344 4 := ⟨mk_sub10 (List.mem_of_getElem? (i := 233) rfl) rfl, mk_tb (mk_sub1 (List.mem_of_getElem? (i := 14) rfl) rfl), by decide +kernel, by decide +kernel, by decide +kernel, by decide +kernel, by decide +kernel⟩
set_option maxRecDepth 100000 in
theorem mk_im344 : Jvm.Cond.instanceMethod (mc_M 344).1 ∈ ms_tb := mk_tb (mk_sub10 (List.mem_of_getElem? (i := 232) rfl) rfl)
set_option maxRecDepth 100000 in
theorem mk_se344 : Jvm.Cond.selects (mc_M 344).1.cls (mc_M 344).1 (mc_M 344).1 ∈ ms_tb := mk_tb (mk_pr10 (w := (⟨"InvariantDeskModel", "give", "(IIII)V"⟩, 70)) (List.mem_of_getElem? (i := 12) rfl))
set_option maxRecDepth 100000 in
theorem mk_ca345 : ms_callee mc_M 345 0 := ⟨mk_sub10 (List.mem_of_getElem? (i := 189) rfl) rfl, mk_tb (mk_sub1 (List.mem_of_getElem? (i := 14) rfl) rfl), by decide +kernel, by decide +kernel, by decide +kernel, by decide +kernel, by decide +kernel⟩
set_option maxRecDepth 100000 in
theorem mk_im345 : Jvm.Cond.instanceMethod (mc_M 345).1 ∈ ms_tb := mk_tb (mk_sub10 (List.mem_of_getElem? (i := 188) rfl) rfl)
set_option maxRecDepth 100000 in
theorem mk_se345 : Jvm.Cond.selects (mc_M 345).1.cls (mc_M 345).1 (mc_M 345).1 ∈ ms_tb := mk_tb (mk_pr10 (w := (⟨"InvariantDeskModel", "layout", "()V"⟩, 70)) (List.mem_of_getElem? (i := 1) rfl))
set_option maxRecDepth 100000 in
theorem mk_ca346 : ms_callee mc_M 346 4 := ⟨mk_sub10 (List.mem_of_getElem? (i := 205) rfl) rfl, mk_tb (mk_sub1 (List.mem_of_getElem? (i := 14) rfl) rfl), by decide +kernel, by decide +kernel, by decide +kernel, by decide +kernel, by decide +kernel⟩
set_option maxRecDepth 100000 in
theorem mk_im346 : Jvm.Cond.instanceMethod (mc_M 346).1 ∈ ms_tb := mk_tb (mk_sub10 (List.mem_of_getElem? (i := 204) rfl) rfl)
set_option maxRecDepth 100000 in
theorem mk_se346 : Jvm.Cond.selects (mc_M 346).1.cls (mc_M 346).1 (mc_M 346).1 ∈ ms_tb := mk_tb (mk_pr10 (w := (⟨"InvariantDeskModel", "block", "(IIII)V"⟩, 70)) (List.mem_of_getElem? (i := 5) rfl))
set_option maxRecDepth 100000 in
theorem mk_ca347 : ms_callee mc_M 347 5 := ⟨mk_sub10 (List.mem_of_getElem? (i := 209) rfl) rfl, mk_tb (mk_sub1 (List.mem_of_getElem? (i := 14) rfl) rfl), by decide +kernel, by decide +kernel, by decide +kernel, by decide +kernel, by decide +kernel⟩
set_option maxRecDepth 100000 in
theorem mk_im347 : Jvm.Cond.instanceMethod (mc_M 347).1 ∈ ms_tb := mk_tb (mk_sub10 (List.mem_of_getElem? (i := 208) rfl) rfl)
set_option maxRecDepth 100000 in
theorem mk_se347 : Jvm.Cond.selects (mc_M 347).1.cls (mc_M 347).1 (mc_M 347).1 ∈ ms_tb := mk_tb (mk_pr10 (w := (⟨"InvariantDeskModel", "statement", "(IIIII)V"⟩, 70)) (List.mem_of_getElem? (i := 6) rfl))
set_option maxRecDepth 100000 in
theorem mk_ca348 : ms_callee mc_M 348 2 := ⟨mk_sub10 (List.mem_of_getElem? (i := 237) rfl) rfl, mk_tb (mk_sub1 (List.mem_of_getElem? (i := 14) rfl) rfl), by decide +kernel, by decide +kernel, by decide +kernel, by decide +kernel, by decide +kernel⟩
set_option maxRecDepth 100000 in
theorem mk_im348 : Jvm.Cond.instanceMethod (mc_M 348).1 ∈ ms_tb := mk_tb (mk_sub10 (List.mem_of_getElem? (i := 236) rfl) rfl)
set_option maxRecDepth 100000 in
theorem mk_se348 : Jvm.Cond.selects (mc_M 348).1.cls (mc_M 348).1 (mc_M 348).1 ∈ ms_tb := mk_tb (mk_pr10 (w := (⟨"InvariantDeskModel", "call", "(II)V"⟩, 70)) (List.mem_of_getElem? (i := 13) rfl))
set_option maxRecDepth 100000 in
theorem mk_ca349 : ms_callee mc_M 349 1 := ⟨mk_sub11 (List.mem_of_getElem? (i := 1) rfl) rfl, mk_tb (mk_sub1 (List.mem_of_getElem? (i := 14) rfl) rfl), by decide +kernel, by decide +kernel, by decide +kernel, by decide +kernel, by decide +kernel⟩
set_option maxRecDepth 100000 in
theorem mk_im349 : Jvm.Cond.instanceMethod (mc_M 349).1 ∈ ms_tb := mk_tb (mk_sub11 (List.mem_of_getElem? (i := 0) rfl) rfl)
set_option maxRecDepth 100000 in
theorem mk_se349 : Jvm.Cond.selects (mc_M 349).1.cls (mc_M 349).1 (mc_M 349).1 ∈ ms_tb := mk_tb (mk_pr10 (w := (⟨"InvariantDeskModel", "whichFunction", "(I)I"⟩, 70)) (List.mem_of_getElem? (i := 14) rfl))
set_option maxRecDepth 100000 in
theorem mk_ca350 : ms_callee mc_M 350 0 := ⟨mk_sub12 (List.mem_of_getElem? (i := 52) rfl) rfl, mk_tb (mk_sub1 (List.mem_of_getElem? (i := 14) rfl) rfl), by decide +kernel, by decide +kernel, by decide +kernel, by decide +kernel, by decide +kernel⟩
set_option maxRecDepth 100000 in
theorem mk_im350 : Jvm.Cond.instanceMethod (mc_M 350).1 ∈ ms_tb := mk_tb (mk_sub12 (List.mem_of_getElem? (i := 50) rfl) rfl)
set_option maxRecDepth 100000 in
theorem mk_se350 : Jvm.Cond.selects (mc_M 350).1.cls (mc_M 350).1 (mc_M 350).1 ∈ ms_tb := mk_tb (mk_sub12 (List.mem_of_getElem? (i := 51) rfl) rfl)
set_option maxRecDepth 100000 in
theorem mk_ca351 : ms_callee mc_M 351 1 := ⟨mk_sub12 (List.mem_of_getElem? (i := 120) rfl) rfl, mk_tb (mk_sub1 (List.mem_of_getElem? (i := 14) rfl) rfl), by decide +kernel, by decide +kernel, by decide +kernel, by decide +kernel, by decide +kernel⟩
set_option maxRecDepth 100000 in
theorem mk_im351 : Jvm.Cond.instanceMethod (mc_M 351).1 ∈ ms_tb := mk_tb (mk_sub12 (List.mem_of_getElem? (i := 119) rfl) rfl)
set_option maxRecDepth 100000 in
theorem mk_se351 : Jvm.Cond.selects (mc_M 351).1.cls (mc_M 351).1 (mc_M 351).1 ∈ ms_tb := mk_tb (mk_pr14 (w := (⟨"InvariantDeskModel", "after", "(I)I"⟩, 70)) (List.mem_of_getElem? (i := 7) rfl))
set_option maxRecDepth 100000 in
theorem mk_ca352 : ms_callee mc_M 352 2 := ⟨mk_sub12 (List.mem_of_getElem? (i := 56) rfl) rfl, mk_tb (mk_sub1 (List.mem_of_getElem? (i := 14) rfl) rfl), by decide +kernel, by decide +kernel, by decide +kernel, by decide +kernel, by decide +kernel⟩
set_option maxRecDepth 100000 in
theorem mk_im352 : Jvm.Cond.instanceMethod (mc_M 352).1 ∈ ms_tb := mk_tb (mk_sub12 (List.mem_of_getElem? (i := 54) rfl) rfl)
set_option maxRecDepth 100000 in
theorem mk_se352 : Jvm.Cond.selects (mc_M 352).1.cls (mc_M 352).1 (mc_M 352).1 ∈ ms_tb := mk_tb (mk_sub12 (List.mem_of_getElem? (i := 55) rfl) rfl)
set_option maxRecDepth 100000 in
theorem mk_ca353 : ms_callee mc_M 353 1 := ⟨mk_sub12 (List.mem_of_getElem? (i := 60) rfl) rfl, mk_tb (mk_sub1 (List.mem_of_getElem? (i := 14) rfl) rfl), by decide +kernel, by decide +kernel, by decide +kernel, by decide +kernel, by decide +kernel⟩
set_option maxRecDepth 100000 in
theorem mk_im353 : Jvm.Cond.instanceMethod (mc_M 353).1 ∈ ms_tb := mk_tb (mk_sub12 (List.mem_of_getElem? (i := 58) rfl) rfl)
set_option maxRecDepth 100000 in
theorem mk_se353 : Jvm.Cond.selects (mc_M 353).1.cls (mc_M 353).1 (mc_M 353).1 ∈ ms_tb := mk_tb (mk_sub12 (List.mem_of_getElem? (i := 59) rfl) rfl)
set_option maxRecDepth 100000 in
theorem mk_ca354 : ms_callee mc_M 354 0 := ⟨mk_sub12 (List.mem_of_getElem? (i := 64) rfl) rfl, mk_tb (mk_sub1 (List.mem_of_getElem? (i := 14) rfl) rfl), by decide +kernel, by decide +kernel, by decide +kernel, by decide +kernel, by decide +kernel⟩
set_option maxRecDepth 100000 in
theorem mk_im354 : Jvm.Cond.instanceMethod (mc_M 354).1 ∈ ms_tb := mk_tb (mk_sub12 (List.mem_of_getElem? (i := 62) rfl) rfl)
set_option maxRecDepth 100000 in
theorem mk_se354 : Jvm.Cond.selects (mc_M 354).1.cls (mc_M 354).1 (mc_M 354).1 ∈ ms_tb := mk_tb (mk_sub12 (List.mem_of_getElem? (i := 63) rfl) rfl)
set_option maxRecDepth 100000 in
theorem mk_ca355 : ms_callee mc_M 355 1 := ⟨mk_sub12 (List.mem_of_getElem? (i := 95) rfl) rfl, mk_tb (mk_sub1 (List.mem_of_getElem? (i := 14) rfl) rfl), by decide +kernel, by decide +kernel, by decide +kernel, by decide +kernel, by decide +kernel⟩
set_option maxRecDepth 100000 in
theorem mk_im355 : Jvm.Cond.instanceMethod (mc_M 355).1 ∈ ms_tb := mk_tb (mk_sub12 (List.mem_of_getElem? (i := 94) rfl) rfl)
set_option maxRecDepth 100000 in
theorem mk_se355 : Jvm.Cond.selects (mc_M 355).1.cls (mc_M 355).1 (mc_M 355).1 ∈ ms_tb := mk_tb (mk_pr14 (w := (⟨"InvariantDeskModel", "meantAt", "(I)I"⟩, 70)) (List.mem_of_getElem? (i := 1) rfl))
set_option maxRecDepth 100000 in
theorem mk_ca356 : ms_callee mc_M 356 1 := ⟨mk_sub12 (List.mem_of_getElem? (i := 103) rfl) rfl, mk_tb (mk_sub1 (List.mem_of_getElem? (i := 14) rfl) rfl), by decide +kernel, by decide +kernel, by decide +kernel, by decide +kernel, by decide +kernel⟩
set_option maxRecDepth 100000 in
theorem mk_im356 : Jvm.Cond.instanceMethod (mc_M 356).1 ∈ ms_tb := mk_tb (mk_sub12 (List.mem_of_getElem? (i := 102) rfl) rfl)
set_option maxRecDepth 100000 in
theorem mk_se356 : Jvm.Cond.selects (mc_M 356).1.cls (mc_M 356).1 (mc_M 356).1 ∈ ms_tb := mk_tb (mk_pr14 (w := (⟨"InvariantDeskModel", "trapped", "(I)J"⟩, 70)) (List.mem_of_getElem? (i := 3) rfl))
set_option maxRecDepth 100000 in
theorem mk_ca357 : ms_callee mc_M 357 1 := ⟨mk_sub12 (List.mem_of_getElem? (i := 107) rfl) rfl, mk_tb (mk_sub1 (List.mem_of_getElem? (i := 14) rfl) rfl), by decide +kernel, by decide +kernel, by decide +kernel, by decide +kernel, by decide +kernel⟩
set_option maxRecDepth 100000 in
theorem mk_im357 : Jvm.Cond.instanceMethod (mc_M 357).1 ∈ ms_tb := mk_tb (mk_sub12 (List.mem_of_getElem? (i := 106) rfl) rfl)
set_option maxRecDepth 100000 in
theorem mk_se357 : Jvm.Cond.selects (mc_M 357).1.cls (mc_M 357).1 (mc_M 357).1 ∈ ms_tb := mk_tb (mk_pr14 (w := (⟨"InvariantDeskModel", "whole", "(J)J"⟩, 70)) (List.mem_of_getElem? (i := 4) rfl))
set_option maxRecDepth 100000 in
theorem mk_ca358 : ms_callee mc_M 358 0 := ⟨mk_sub12 (List.mem_of_getElem? (i := 112) rfl) rfl, mk_tb (mk_sub1 (List.mem_of_getElem? (i := 14) rfl) rfl), by decide +kernel, by decide +kernel, by decide +kernel, by decide +kernel, by decide +kernel⟩
set_option maxRecDepth 100000 in
theorem mk_im358 : Jvm.Cond.instanceMethod (mc_M 358).1 ∈ ms_tb := mk_tb (mk_sub12 (List.mem_of_getElem? (i := 111) rfl) rfl)
set_option maxRecDepth 100000 in
theorem mk_se358 : Jvm.Cond.selects (mc_M 358).1.cls (mc_M 358).1 (mc_M 358).1 ∈ ms_tb := mk_tb (mk_pr14 (w := (⟨"InvariantDeskModel", "next", "()I"⟩, 70)) (List.mem_of_getElem? (i := 5) rfl))
set_option maxRecDepth 100000 in
theorem mk_ca359 : ms_callee mc_M 359 2 := ⟨mk_sub12 (List.mem_of_getElem? (i := 99) rfl) rfl, mk_tb (mk_sub1 (List.mem_of_getElem? (i := 14) rfl) rfl), by decide +kernel, by decide +kernel, by decide +kernel, by decide +kernel, by decide +kernel⟩
set_option maxRecDepth 100000 in
theorem mk_im359 : Jvm.Cond.instanceMethod (mc_M 359).1 ∈ ms_tb := mk_tb (mk_sub12 (List.mem_of_getElem? (i := 98) rfl) rfl)
set_option maxRecDepth 100000 in
theorem mk_se359 : Jvm.Cond.selects (mc_M 359).1.cls (mc_M 359).1 (mc_M 359).1 ∈ ms_tb := mk_tb (mk_pr14 (w := (⟨"InvariantDeskModel", "placeOf", "(II)I"⟩, 70)) (List.mem_of_getElem? (i := 2) rfl))
set_option maxRecDepth 100000 in
theorem mk_ca360 : ms_callee mc_M 360 1 := ⟨mk_sub12 (List.mem_of_getElem? (i := 91) rfl) rfl, mk_tb (mk_sub1 (List.mem_of_getElem? (i := 14) rfl) rfl), by decide +kernel, by decide +kernel, by decide +kernel, by decide +kernel, by decide +kernel⟩
set_option maxRecDepth 100000 in
theorem mk_im360 : Jvm.Cond.instanceMethod (mc_M 360).1 ∈ ms_tb := mk_tb (mk_sub12 (List.mem_of_getElem? (i := 90) rfl) rfl)
set_option maxRecDepth 100000 in
theorem mk_se360 : Jvm.Cond.selects (mc_M 360).1.cls (mc_M 360).1 (mc_M 360).1 ∈ ms_tb := mk_tb (mk_pr14 (w := (⟨"InvariantDeskModel", "reckon", "(I)J"⟩, 70)) (List.mem_of_getElem? (i := 0) rfl))
set_option maxRecDepth 100000 in
theorem mk_ca361 : ms_callee mc_M 361 3 := ⟨mk_sub12 (List.mem_of_getElem? (i := 116) rfl) rfl, mk_tb (mk_sub1 (List.mem_of_getElem? (i := 14) rfl) rfl), by decide +kernel, by decide +kernel, by decide +kernel, by decide +kernel, by decide +kernel⟩
set_option maxRecDepth 100000 in
theorem mk_im361 : Jvm.Cond.instanceMethod (mc_M 361).1 ∈ ms_tb := mk_tb (mk_sub12 (List.mem_of_getElem? (i := 115) rfl) rfl)
set_option maxRecDepth 100000 in
theorem mk_se361 : Jvm.Cond.selects (mc_M 361).1.cls (mc_M 361).1 (mc_M 361).1 ∈ ms_tb := mk_tb (mk_pr14 (w := (⟨"InvariantDeskModel", "operated", "(IJJ)J"⟩, 70)) (List.mem_of_getElem? (i := 6) rfl))
set_option maxRecDepth 100000 in
theorem mk_ca362 : ms_callee mc_M 362 1 := ⟨mk_sub12 (List.mem_of_getElem? (i := 124) rfl) rfl, mk_tb (mk_sub1 (List.mem_of_getElem? (i := 14) rfl) rfl), by decide +kernel, by decide +kernel, by decide +kernel, by decide +kernel, by decide +kernel⟩
set_option maxRecDepth 100000 in
theorem mk_im362 : Jvm.Cond.instanceMethod (mc_M 362).1 ∈ ms_tb := mk_tb (mk_sub12 (List.mem_of_getElem? (i := 123) rfl) rfl)
set_option maxRecDepth 100000 in
theorem mk_se362 : Jvm.Cond.selects (mc_M 362).1.cls (mc_M 362).1 (mc_M 362).1 ∈ ms_tb := mk_tb (mk_pr14 (w := (⟨"InvariantDeskModel", "holds", "(I)Z"⟩, 70)) (List.mem_of_getElem? (i := 8) rfl))
set_option maxRecDepth 100000 in
theorem mk_ca363 : ms_callee mc_M 363 1 := ⟨mk_sub12 (List.mem_of_getElem? (i := 132) rfl) rfl, mk_tb (mk_sub1 (List.mem_of_getElem? (i := 14) rfl) rfl), by decide +kernel, by decide +kernel, by decide +kernel, by decide +kernel, by decide +kernel⟩
set_option maxRecDepth 100000 in
theorem mk_im363 : Jvm.Cond.instanceMethod (mc_M 363).1 ∈ ms_tb := mk_tb (mk_sub12 (List.mem_of_getElem? (i := 131) rfl) rfl)
set_option maxRecDepth 100000 in
theorem mk_se363 : Jvm.Cond.selects (mc_M 363).1.cls (mc_M 363).1 (mc_M 363).1 ∈ ms_tb := mk_tb (mk_pr14 (w := (⟨"InvariantDeskModel", "goal", "(I)I"⟩, 70)) (List.mem_of_getElem? (i := 10) rfl))
set_option maxRecDepth 100000 in
theorem mk_ca364 : ms_callee mc_M 364 0 := ⟨mk_sub12 (List.mem_of_getElem? (i := 87) rfl) rfl, mk_tb (mk_sub1 (List.mem_of_getElem? (i := 14) rfl) rfl), by decide +kernel, by decide +kernel, by decide +kernel, by decide +kernel, by decide +kernel⟩
set_option maxRecDepth 100000 in
theorem mk_im364 : Jvm.Cond.instanceMethod (mc_M 364).1 ∈ ms_tb := mk_tb (mk_sub12 (List.mem_of_getElem? (i := 86) rfl) rfl)
set_option maxRecDepth 100000 in
theorem mk_se364 : Jvm.Cond.selects (mc_M 364).1.cls (mc_M 364).1 (mc_M 364).1 ∈ ms_tb := mk_tb (mk_pr13 (w := (⟨"InvariantDeskModel", "step", "()I"⟩, 70)) (List.mem_of_getElem? (i := 15) rfl))
set_option maxRecDepth 100000 in
theorem mk_ca365 : ms_callee mc_M 365 1 := ⟨mk_sub12 (List.mem_of_getElem? (i := 128) rfl) rfl, mk_tb (mk_sub1 (List.mem_of_getElem? (i := 14) rfl) rfl), by decide +kernel, by decide +kernel, by decide +kernel, by decide +kernel, by decide +kernel⟩
set_option maxRecDepth 100000 in
theorem mk_im365 : Jvm.Cond.instanceMethod (mc_M 365).1 ∈ ms_tb := mk_tb (mk_sub12 (List.mem_of_getElem? (i := 127) rfl) rfl)
set_option maxRecDepth 100000 in
theorem mk_se365 : Jvm.Cond.selects (mc_M 365).1.cls (mc_M 365).1 (mc_M 365).1 ∈ ms_tb := mk_tb (mk_pr14 (w := (⟨"InvariantDeskModel", "otherBlock", "(I)I"⟩, 70)) (List.mem_of_getElem? (i := 9) rfl))
set_option maxRecDepth 100000 in
theorem mk_ca366 : ms_callee mc_M 366 1 := ⟨mk_sub12 (List.mem_of_getElem? (i := 68) rfl) rfl, mk_tb (mk_sub1 (List.mem_of_getElem? (i := 14) rfl) rfl), by decide +kernel, by decide +kernel, by decide +kernel, by decide +kernel, by decide +kernel⟩
set_option maxRecDepth 100000 in
theorem mk_im366 : Jvm.Cond.instanceMethod (mc_M 366).1 ∈ ms_tb := mk_tb (mk_sub12 (List.mem_of_getElem? (i := 66) rfl) rfl)
set_option maxRecDepth 100000 in
theorem mk_se366 : Jvm.Cond.selects (mc_M 366).1.cls (mc_M 366).1 (mc_M 366).1 ∈ ms_tb := mk_tb (mk_sub12 (List.mem_of_getElem? (i := 67) rfl) rfl)
set_option maxRecDepth 100000 in
theorem mk_ca367 : ms_callee mc_M 367 0 := ⟨mk_sub12 (List.mem_of_getElem? (i := 76) rfl) rfl, mk_tb (mk_sub1 (List.mem_of_getElem? (i := 14) rfl) rfl), by decide +kernel, by decide +kernel, by decide +kernel, by decide +kernel, by decide +kernel⟩
set_option maxRecDepth 100000 in
theorem mk_im367 : Jvm.Cond.instanceMethod (mc_M 367).1 ∈ ms_tb := mk_tb (mk_sub12 (List.mem_of_getElem? (i := 75) rfl) rfl)
set_option maxRecDepth 100000 in
theorem mk_se367 : Jvm.Cond.selects (mc_M 367).1.cls (mc_M 367).1 (mc_M 367).1 ∈ ms_tb := mk_tb (mk_pr13 (w := (⟨"InvariantDeskModel", "isOutside", "()Z"⟩, 70)) (List.mem_of_getElem? (i := 14) rfl))
set_option maxRecDepth 100000 in
theorem mk_ca368 : ms_callee mc_M 368 0 := ⟨mk_sub12 (List.mem_of_getElem? (i := 137) rfl) rfl, mk_tb (mk_sub1 (List.mem_of_getElem? (i := 14) rfl) rfl), by decide +kernel, by decide +kernel, by decide +kernel, by decide +kernel, by decide +kernel⟩
set_option maxRecDepth 100000 in
theorem mk_im368 : Jvm.Cond.instanceMethod (mc_M 368).1 ∈ ms_tb := mk_tb (mk_sub12 (List.mem_of_getElem? (i := 135) rfl) rfl)
set_option maxRecDepth 100000 in
theorem mk_se368 : Jvm.Cond.selects (mc_M 368).1.cls (mc_M 368).1 (mc_M 368).1 ∈ ms_tb := mk_tb (mk_sub12 (List.mem_of_getElem? (i := 136) rfl) rfl)
set_option maxRecDepth 100000 in
theorem mk_ca369 : ms_callee mc_M 369 1 := ⟨mk_sub12 (List.mem_of_getElem? (i := 141) rfl) rfl, mk_tb (mk_sub1 (List.mem_of_getElem? (i := 14) rfl) rfl), by decide +kernel, by decide +kernel, by decide +kernel, by decide +kernel, by decide +kernel⟩
set_option maxRecDepth 100000 in
theorem mk_im369 : Jvm.Cond.instanceMethod (mc_M 369).1 ∈ ms_tb := mk_tb (mk_sub12 (List.mem_of_getElem? (i := 139) rfl) rfl)
set_option maxRecDepth 100000 in
theorem mk_se369 : Jvm.Cond.selects (mc_M 369).1.cls (mc_M 369).1 (mc_M 369).1 ∈ ms_tb := mk_tb (mk_sub12 (List.mem_of_getElem? (i := 140) rfl) rfl)
set_option maxRecDepth 100000 in
theorem mk_ca370 : ms_callee mc_M 370 1 := ⟨mk_sub12 (List.mem_of_getElem? (i := 145) rfl) rfl, mk_tb (mk_sub1 (List.mem_of_getElem? (i := 14) rfl) rfl), by decide +kernel, by decide +kernel, by decide +kernel, by decide +kernel, by decide +kernel⟩
set_option maxRecDepth 100000 in
theorem mk_im370 : Jvm.Cond.instanceMethod (mc_M 370).1 ∈ ms_tb := mk_tb (mk_sub12 (List.mem_of_getElem? (i := 143) rfl) rfl)
set_option maxRecDepth 100000 in
theorem mk_se370 : Jvm.Cond.selects (mc_M 370).1.cls (mc_M 370).1 (mc_M 370).1 ∈ ms_tb := mk_tb (mk_sub12 (List.mem_of_getElem? (i := 144) rfl) rfl)
set_option maxRecDepth 100000 in
theorem mk_ca371 : ms_callee mc_M 371 2 := ⟨mk_sub12 (List.mem_of_getElem? (i := 149) rfl) rfl, mk_tb (mk_sub1 (List.mem_of_getElem? (i := 14) rfl) rfl), by decide +kernel, by decide +kernel, by decide +kernel, by decide +kernel, by decide +kernel⟩
set_option maxRecDepth 100000 in
theorem mk_im371 : Jvm.Cond.instanceMethod (mc_M 371).1 ∈ ms_tb := mk_tb (mk_sub12 (List.mem_of_getElem? (i := 147) rfl) rfl)
set_option maxRecDepth 100000 in
theorem mk_se371 : Jvm.Cond.selects (mc_M 371).1.cls (mc_M 371).1 (mc_M 371).1 ∈ ms_tb := mk_tb (mk_sub12 (List.mem_of_getElem? (i := 148) rfl) rfl)
set_option maxRecDepth 100000 in
theorem mk_ca372 : ms_callee mc_M 372 2 := ⟨mk_sub12 (List.mem_of_getElem? (i := 168) rfl) rfl, mk_tb (mk_sub1 (List.mem_of_getElem? (i := 14) rfl) rfl), by decide +kernel, by decide +kernel, by decide +kernel, by decide +kernel, by decide +kernel⟩
set_option maxRecDepth 100000 in
theorem mk_im372 : Jvm.Cond.instanceMethod (mc_M 372).1 ∈ ms_tb := mk_tb (mk_sub12 (List.mem_of_getElem? (i := 167) rfl) rfl)
set_option maxRecDepth 100000 in
theorem mk_se372 : Jvm.Cond.selects (mc_M 372).1.cls (mc_M 372).1 (mc_M 372).1 ∈ ms_tb := mk_tb (mk_pr14 (w := (⟨"InvariantDeskModel", "at", "(ZI)LInvariantDeskModel$Known;"⟩, 70)) (List.mem_of_getElem? (i := 13) rfl))
set_option maxRecDepth 100000 in
theorem mk_ca373 : ms_callee mc_M 373 1 := ⟨mk_sub12 (List.mem_of_getElem? (i := 161) rfl) rfl, mk_tb (mk_sub1 (List.mem_of_getElem? (i := 14) rfl) rfl), by decide +kernel, by decide +kernel, by decide +kernel, by decide +kernel, by decide +kernel⟩
set_option maxRecDepth 100000 in
theorem mk_im373 : Jvm.Cond.instanceMethod (mc_M 373).1 ∈ ms_tb := mk_tb (mk_sub12 (List.mem_of_getElem? (i := 160) rfl) rfl)
set_option maxRecDepth 100000 in
theorem mk_se373 : Jvm.Cond.selects (mc_M 373).1.cls (mc_M 373).1 (mc_M 373).1 ∈ ms_tb := mk_tb (mk_pr14 (w := (⟨"InvariantDeskModel", "hasPoint", "(I)Z"⟩, 70)) (List.mem_of_getElem? (i := 12) rfl))
set_option maxRecDepth 100000 in
theorem mk_ca374 : ms_callee mc_M 374 1 := ⟨mk_sub12 (List.mem_of_getElem? (i := 164) rfl) rfl, mk_tb (mk_sub1 (List.mem_of_getElem? (i := 14) rfl) rfl), by decide +kernel, by decide +kernel, by decide +kernel, by decide +kernel, by decide +kernel⟩
set_option maxRecDepth 100000 in
theorem mk_im374 : Jvm.Cond.static (mc_M 374).1 ∈ ms_tb := mk_tb (mk_sub12 (List.mem_of_getElem? (i := 163) rfl) rfl)
set_option maxRecDepth 100000 in
theorem mk_ca375 : ms_callee mc_M 375 5 := ⟨mk_sub12 (List.mem_of_getElem? (i := 157) rfl) rfl, mk_tb (mk_sub1 (List.mem_of_getElem? (i := 14) rfl) rfl), by decide +kernel, by decide +kernel, by decide +kernel, by decide +kernel, by decide +kernel⟩
set_option maxRecDepth 100000 in
theorem mk_im375 : Jvm.Cond.instanceMethod (mc_M 375).1 ∈ ms_tb := mk_tb (mk_sub12 (List.mem_of_getElem? (i := 156) rfl) rfl)
set_option maxRecDepth 100000 in
theorem mk_se375 : Jvm.Cond.selects (mc_M 375).1.cls (mc_M 375).1 (mc_M 375).1 ∈ ms_tb := mk_tb (mk_pr14 (w := (⟨"InvariantDeskModel", "areSlots", "(IIIII)Z"⟩, 70)) (List.mem_of_getElem? (i := 11) rfl))
set_option maxRecDepth 100000 in
theorem mk_ca376 : ms_callee mc_M 376 2 := ⟨mk_sub12 (List.mem_of_getElem? (i := 172) rfl) rfl, mk_tb (mk_sub1 (List.mem_of_getElem? (i := 14) rfl) rfl), by decide +kernel, by decide +kernel, by decide +kernel, by decide +kernel, by decide +kernel⟩
set_option maxRecDepth 100000 in
theorem mk_im376 : Jvm.Cond.static (mc_M 376).1 ∈ ms_tb := mk_tb (mk_sub12 (List.mem_of_getElem? (i := 171) rfl) rfl)
set_option maxRecDepth 100000 in
theorem mk_ca377 : ms_callee mc_M 377 6 := ⟨mk_sub12 (List.mem_of_getElem? (i := 153) rfl) rfl, mk_tb (mk_sub1 (List.mem_of_getElem? (i := 14) rfl) rfl), by decide +kernel, by decide +kernel, by decide +kernel, by decide +kernel, by decide +kernel⟩
set_option maxRecDepth 100000 in
theorem mk_im377 : Jvm.Cond.instanceMethod (mc_M 377).1 ∈ ms_tb := mk_tb (mk_sub12 (List.mem_of_getElem? (i := 151) rfl) rfl)
set_option maxRecDepth 100000 in
theorem mk_se377 : Jvm.Cond.selects (mc_M 377).1.cls (mc_M 377).1 (mc_M 377).1 ∈ ms_tb := mk_tb (mk_sub12 (List.mem_of_getElem? (i := 152) rfl) rfl)
set_option maxRecDepth 100000 in
theorem mk_ca378 : ms_callee mc_M 378 4 := ⟨mk_sub12 (List.mem_of_getElem? (i := 177) rfl) rfl, mk_tb (mk_sub1 (List.mem_of_getElem? (i := 14) rfl) rfl), by decide +kernel, by decide +kernel, by decide +kernel, by decide +kernel, by decide +kernel⟩
set_option maxRecDepth 100000 in
theorem mk_im378 : Jvm.Cond.instanceMethod (mc_M 378).1 ∈ ms_tb := mk_tb (mk_sub12 (List.mem_of_getElem? (i := 175) rfl) rfl)
set_option maxRecDepth 100000 in
theorem mk_se378 : Jvm.Cond.selects (mc_M 378).1.cls (mc_M 378).1 (mc_M 378).1 ∈ ms_tb := mk_tb (mk_sub12 (List.mem_of_getElem? (i := 176) rfl) rfl)
set_option maxRecDepth 100000 in
theorem mk_ca379 : ms_callee mc_M 379 6 := ⟨mk_sub12 (List.mem_of_getElem? (i := 181) rfl) rfl, mk_tb (mk_sub1 (List.mem_of_getElem? (i := 14) rfl) rfl), by decide +kernel, by decide +kernel, by decide +kernel, by decide +kernel, by decide +kernel⟩
set_option maxRecDepth 100000 in
theorem mk_im379 : Jvm.Cond.instanceMethod (mc_M 379).1 ∈ ms_tb := mk_tb (mk_sub12 (List.mem_of_getElem? (i := 179) rfl) rfl)
set_option maxRecDepth 100000 in
theorem mk_se379 : Jvm.Cond.selects (mc_M 379).1.cls (mc_M 379).1 (mc_M 379).1 ∈ ms_tb := mk_tb (mk_sub12 (List.mem_of_getElem? (i := 180) rfl) rfl)
set_option maxRecDepth 100000 in
theorem mk_ca380 : ms_callee mc_M 380 4 := ⟨mk_sub12 (List.mem_of_getElem? (i := 192) rfl) rfl, mk_tb (mk_sub1 (List.mem_of_getElem? (i := 14) rfl) rfl), by decide +kernel, by decide +kernel, by decide +kernel, by decide +kernel, by decide +kernel⟩
set_option maxRecDepth 100000 in
theorem mk_im380 : Jvm.Cond.instanceMethod (mc_M 380).1 ∈ ms_tb := mk_tb (mk_sub12 (List.mem_of_getElem? (i := 190) rfl) rfl)
set_option maxRecDepth 100000 in
theorem mk_se380 : Jvm.Cond.selects (mc_M 380).1.cls (mc_M 380).1 (mc_M 380).1 ∈ ms_tb := mk_tb (mk_sub12 (List.mem_of_getElem? (i := 191) rfl) rfl)
set_option maxRecDepth 100000 in
theorem mk_ca381 : ms_callee mc_M 381 1 := ⟨mk_sub12 (List.mem_of_getElem? (i := 196) rfl) rfl, mk_tb (mk_sub1 (List.mem_of_getElem? (i := 14) rfl) rfl), by decide +kernel, by decide +kernel, by decide +kernel, by decide +kernel, by decide +kernel⟩
set_option maxRecDepth 100000 in
theorem mk_im381 : Jvm.Cond.instanceMethod (mc_M 381).1 ∈ ms_tb := mk_tb (mk_sub12 (List.mem_of_getElem? (i := 194) rfl) rfl)
set_option maxRecDepth 100000 in
theorem mk_se381 : Jvm.Cond.selects (mc_M 381).1.cls (mc_M 381).1 (mc_M 381).1 ∈ ms_tb := mk_tb (mk_sub12 (List.mem_of_getElem? (i := 195) rfl) rfl)
set_option maxRecDepth 100000 in
theorem mk_ca382 : ms_callee mc_M 382 0 := ⟨mk_sub12 (List.mem_of_getElem? (i := 200) rfl) rfl, mk_tb (mk_sub1 (List.mem_of_getElem? (i := 14) rfl) rfl), by decide +kernel, by decide +kernel, by decide +kernel, by decide +kernel, by decide +kernel⟩
set_option maxRecDepth 100000 in
theorem mk_im382 : Jvm.Cond.instanceMethod (mc_M 382).1 ∈ ms_tb := mk_tb (mk_sub12 (List.mem_of_getElem? (i := 198) rfl) rfl)
set_option maxRecDepth 100000 in
theorem mk_se382 : Jvm.Cond.selects (mc_M 382).1.cls (mc_M 382).1 (mc_M 382).1 ∈ ms_tb := mk_tb (mk_sub12 (List.mem_of_getElem? (i := 199) rfl) rfl)
set_option maxRecDepth 100000 in
theorem mk_ca383 : ms_callee mc_M 383 0 := ⟨mk_sub12 (List.mem_of_getElem? (i := 205) rfl) rfl, mk_tb (mk_sub1 (List.mem_of_getElem? (i := 14) rfl) rfl), by decide +kernel, by decide +kernel, by decide +kernel, by decide +kernel, by decide +kernel⟩
set_option maxRecDepth 100000 in
theorem mk_im383 : Jvm.Cond.instanceMethod (mc_M 383).1 ∈ ms_tb := mk_tb (mk_sub12 (List.mem_of_getElem? (i := 203) rfl) rfl)
set_option maxRecDepth 100000 in
theorem mk_se383 : Jvm.Cond.selects (mc_M 383).1.cls (mc_M 383).1 (mc_M 383).1 ∈ ms_tb := mk_tb (mk_sub12 (List.mem_of_getElem? (i := 204) rfl) rfl)
set_option maxRecDepth 100000 in
theorem mk_ca384 : ms_callee mc_M 384 1 := ⟨mk_sub12 (List.mem_of_getElem? (i := 214) rfl) rfl, mk_tb (mk_sub1 (List.mem_of_getElem? (i := 14) rfl) rfl), by decide +kernel, by decide +kernel, by decide +kernel, by decide +kernel, by decide +kernel⟩
set_option maxRecDepth 100000 in
theorem mk_im384 : Jvm.Cond.instanceMethod (mc_M 384).1 ∈ ms_tb := mk_tb (mk_sub12 (List.mem_of_getElem? (i := 213) rfl) rfl)
set_option maxRecDepth 100000 in
theorem mk_se384 : Jvm.Cond.selects (mc_M 384).1.cls (mc_M 384).1 (mc_M 384).1 ∈ ms_tb := mk_tb (mk_pr14 (w := (⟨"InvariantDeskModel", "text", "(Ljava/lang/String;)V"⟩, 70)) (List.mem_of_getElem? (i := 14) rfl))
set_option maxRecDepth 100000 in
theorem mk_ca385 : ms_callee mc_M 385 1 := ⟨mk_sub12 (List.mem_of_getElem? (i := 218) rfl) rfl, mk_tb (mk_sub1 (List.mem_of_getElem? (i := 14) rfl) rfl), by decide +kernel, by decide +kernel, by decide +kernel, by decide +kernel, by decide +kernel⟩
set_option maxRecDepth 100000 in
theorem mk_im385 : Jvm.Cond.instanceMethod (mc_M 385).1 ∈ ms_tb := mk_tb (mk_sub12 (List.mem_of_getElem? (i := 217) rfl) rfl)
set_option maxRecDepth 100000 in
theorem mk_se385 : Jvm.Cond.selects (mc_M 385).1.cls (mc_M 385).1 (mc_M 385).1 ∈ ms_tb := mk_tb (mk_pr14 (w := (⟨"InvariantDeskModel", "put", "(I)V"⟩, 70)) (List.mem_of_getElem? (i := 15) rfl))
set_option maxRecDepth 100000 in
theorem mk_ca386 : ms_callee mc_M 386 0 := ⟨mk_sub12 (List.mem_of_getElem? (i := 222) rfl) rfl, mk_tb (mk_sub1 (List.mem_of_getElem? (i := 14) rfl) rfl), by decide +kernel, by decide +kernel, by decide +kernel, by decide +kernel, by decide +kernel⟩
set_option maxRecDepth 100000 in
theorem mk_im386 : Jvm.Cond.instanceMethod (mc_M 386).1 ∈ ms_tb := mk_tb (mk_sub12 (List.mem_of_getElem? (i := 221) rfl) rfl)
set_option maxRecDepth 100000 in
theorem mk_se386 : Jvm.Cond.selects (mc_M 386).1.cls (mc_M 386).1 (mc_M 386).1 ∈ ms_tb := mk_tb (mk_pr15 (w := (⟨"InvariantDeskModel", "comma", "()V"⟩, 70)) (List.mem_of_getElem? (i := 0) rfl))
set_option maxRecDepth 100000 in
theorem mk_ca387 : ms_callee mc_M 387 1 := ⟨mk_sub12 (List.mem_of_getElem? (i := 227) rfl) rfl, mk_tb (mk_sub1 (List.mem_of_getElem? (i := 14) rfl) rfl), by decide +kernel, by decide +kernel, by decide +kernel, by decide +kernel, by decide +kernel⟩
set_option maxRecDepth 100000 in
theorem mk_im387 : Jvm.Cond.instanceMethod (mc_M 387).1 ∈ ms_tb := mk_tb (mk_sub12 (List.mem_of_getElem? (i := 226) rfl) rfl)
set_option maxRecDepth 100000 in
theorem mk_se387 : Jvm.Cond.selects (mc_M 387).1.cls (mc_M 387).1 (mc_M 387).1 ∈ ms_tb := mk_tb (mk_pr15 (w := (⟨"InvariantDeskModel", "spell", "(I)V"⟩, 70)) (List.mem_of_getElem? (i := 1) rfl))
set_option maxRecDepth 100000 in
theorem mk_ca388 : ms_callee mc_M 388 1 := ⟨mk_sub12 (List.mem_of_getElem? (i := 233) rfl) rfl, mk_tb (mk_sub1 (List.mem_of_getElem? (i := 14) rfl) rfl), by decide +kernel, by decide +kernel, by decide +kernel, by decide +kernel, by decide +kernel⟩
set_option maxRecDepth 100000 in
theorem mk_im388 : Jvm.Cond.instanceMethod (mc_M 388).1 ∈ ms_tb := mk_tb (mk_sub12 (List.mem_of_getElem? (i := 232) rfl) rfl)
set_option maxRecDepth 100000 in
theorem mk_se388 : Jvm.Cond.selects (mc_M 388).1.cls (mc_M 388).1 (mc_M 388).1 ∈ ms_tb := mk_tb (mk_pr15 (w := (⟨"InvariantDeskModel", "number", "(J)V"⟩, 70)) (List.mem_of_getElem? (i := 2) rfl))
set_option maxRecDepth 100000 in
theorem mk_ca389 : ms_callee mc_M 389 4 := ⟨mk_sub13 (List.mem_of_getElem? (i := 3) rfl) rfl, mk_tb (mk_sub1 (List.mem_of_getElem? (i := 14) rfl) rfl), by decide +kernel, by decide +kernel, by decide +kernel, by decide +kernel, by decide +kernel⟩
set_option maxRecDepth 100000 in
theorem mk_im389 : Jvm.Cond.instanceMethod (mc_M 389).1 ∈ ms_tb := mk_tb (mk_sub13 (List.mem_of_getElem? (i := 2) rfl) rfl)
set_option maxRecDepth 100000 in
theorem mk_se389 : Jvm.Cond.selects (mc_M 389).1.cls (mc_M 389).1 (mc_M 389).1 ∈ ms_tb := mk_tb (mk_pr15 (w := (⟨"InvariantDeskModel", "two", "(LInvariantDeskModel$Known;III)V"⟩, 70)) (List.mem_of_getElem? (i := 3) rfl))
set_option maxRecDepth 100000 in
theorem mk_ca390 : ms_callee mc_M 390 2 := ⟨mk_sub12 (List.mem_of_getElem? (i := 209) rfl) rfl, mk_tb (mk_sub1 (List.mem_of_getElem? (i := 14) rfl) rfl), by decide +kernel, by decide +kernel, by decide +kernel, by decide +kernel, by decide +kernel⟩
set_option maxRecDepth 100000 in
theorem mk_im390 : Jvm.Cond.instanceMethod (mc_M 390).1 ∈ ms_tb := mk_tb (mk_sub12 (List.mem_of_getElem? (i := 207) rfl) rfl)
set_option maxRecDepth 100000 in
theorem mk_se390 : Jvm.Cond.selects (mc_M 390).1.cls (mc_M 390).1 (mc_M 390).1 ∈ ms_tb := mk_tb (mk_sub12 (List.mem_of_getElem? (i := 208) rfl) rfl)
set_option maxRecDepth 100000 in
theorem mk_ca391 : ms_callee mc_M 391 1 := ⟨mk_sub13 (List.mem_of_getElem? (i := 12) rfl) rfl, mk_tb (mk_sub1 (List.mem_of_getElem? (i := 14) rfl) rfl), by decide +kernel, by decide +kernel, by decide +kernel, by decide +kernel, by decide +kernel⟩
set_option maxRecDepth 100000 in
theorem mk_im391 : Jvm.Cond.instanceMethod (mc_M 391).1 ∈ ms_tb := mk_tb (mk_sub13 (List.mem_of_getElem? (i := 10) rfl) rfl)
set_option maxRecDepth 100000 in
theorem mk_se391 : Jvm.Cond.selects (mc_M 391).1.cls (mc_M 391).1 (mc_M 391).1 ∈ ms_tb := mk_tb (mk_sub13 (List.mem_of_getElem? (i := 11) rfl) rfl)
set_option maxRecDepth 100000 in
theorem mk_ca392 : ms_callee mc_M 392 2 := ⟨mk_sub1 (List.mem_of_getElem? (i := 46) rfl) rfl, mk_tb (mk_sub1 (List.mem_of_getElem? (i := 4) rfl) rfl), by decide +kernel, by decide +kernel, by decide +kernel, by decide +kernel, by decide +kernel⟩
set_option maxRecDepth 100000 in
theorem mk_im392 : Jvm.Cond.static (mc_M 392).1 ∈ ms_tb := mk_tb (mk_sub1 (List.mem_of_getElem? (i := 45) rfl) rfl)
set_option maxRecDepth 100000 in
theorem mk_ca393 : ms_callee mc_M 393 2 := ⟨mk_sub4 (List.mem_of_getElem? (i := 124) rfl) rfl, mk_tb (mk_sub1 (List.mem_of_getElem? (i := 4) rfl) rfl), by decide +kernel, by decide +kernel, by decide +kernel, by decide +kernel, by decide +kernel⟩
set_option maxRecDepth 100000 in
theorem mk_im393 : Jvm.Cond.static (mc_M 393).1 ∈ ms_tb := mk_tb (mk_sub4 (List.mem_of_getElem? (i := 123) rfl) rfl)
set_option maxRecDepth 100000 in
theorem mk_ca394 : ms_callee mc_M 394 0 := ⟨mk_sub5 (List.mem_of_getElem? (i := 88) rfl) rfl, mk_tb (mk_sub1 (List.mem_of_getElem? (i := 17) rfl) rfl), by decide +kernel, by decide +kernel, by decide +kernel, by decide +kernel, by decide +kernel⟩
set_option maxRecDepth 100000 in
theorem mk_im394 : Jvm.Cond.instanceMethod (mc_M 394).1 ∈ ms_tb := mk_tb (mk_sub5 (List.mem_of_getElem? (i := 86) rfl) rfl)
set_option maxRecDepth 100000 in
theorem mk_se394 : Jvm.Cond.selects (mc_M 394).1.cls (mc_M 394).1 (mc_M 394).1 ∈ ms_tb := mk_tb (mk_sub5 (List.mem_of_getElem? (i := 87) rfl) rfl)
set_option maxRecDepth 100000 in
theorem mk_ca395 : ms_callee mc_M 395 0 := ⟨mk_sub5 (List.mem_of_getElem? (i := 92) rfl) rfl, mk_tb (mk_sub1 (List.mem_of_getElem? (i := 17) rfl) rfl), by decide +kernel, by decide +kernel, by decide +kernel, by decide +kernel, by decide +kernel⟩
set_option maxRecDepth 100000 in
theorem mk_im395 : Jvm.Cond.instanceMethod (mc_M 395).1 ∈ ms_tb := mk_tb (mk_sub5 (List.mem_of_getElem? (i := 90) rfl) rfl)
set_option maxRecDepth 100000 in
theorem mk_se395 : Jvm.Cond.selects (mc_M 395).1.cls (mc_M 395).1 (mc_M 395).1 ∈ ms_tb := mk_tb (mk_sub5 (List.mem_of_getElem? (i := 91) rfl) rfl)
set_option maxRecDepth 100000 in
theorem mk_ca396 : ms_callee mc_M 396 0 := ⟨mk_sub5 (List.mem_of_getElem? (i := 82) rfl) rfl, mk_tb (mk_sub1 (List.mem_of_getElem? (i := 17) rfl) rfl), by decide +kernel, by decide +kernel, by decide +kernel, by decide +kernel, by decide +kernel⟩
set_option maxRecDepth 100000 in
theorem mk_im396 : Jvm.Cond.instanceMethod (mc_M 396).1 ∈ ms_tb := mk_tb (mk_sub5 (List.mem_of_getElem? (i := 80) rfl) rfl)
set_option maxRecDepth 100000 in
theorem mk_se396 : Jvm.Cond.selects (mc_M 396).1.cls (mc_M 396).1 (mc_M 396).1 ∈ ms_tb := mk_tb (mk_sub5 (List.mem_of_getElem? (i := 81) rfl) rfl)
set_option maxRecDepth 100000 in
theorem mk_ca397 : ms_callee mc_M 397 1 := ⟨mk_sub5 (List.mem_of_getElem? (i := 172) rfl) rfl, mk_tb (mk_sub1 (List.mem_of_getElem? (i := 17) rfl) rfl), by decide +kernel, by decide +kernel, by decide +kernel, by decide +kernel, by decide +kernel⟩
set_option maxRecDepth 100000 in
theorem mk_im397 : Jvm.Cond.instanceMethod (mc_M 397).1 ∈ ms_tb := mk_tb (mk_sub5 (List.mem_of_getElem? (i := 170) rfl) rfl)
set_option maxRecDepth 100000 in
theorem mk_se397 : Jvm.Cond.selects (mc_M 397).1.cls (mc_M 397).1 (mc_M 397).1 ∈ ms_tb := mk_tb (mk_sub5 (List.mem_of_getElem? (i := 171) rfl) rfl)
set_option maxRecDepth 100000 in
theorem mk_ca398 : ms_callee mc_M 398 2 := ⟨mk_sub5 (List.mem_of_getElem? (i := 178) rfl) rfl, mk_tb (mk_sub1 (List.mem_of_getElem? (i := 17) rfl) rfl), by decide +kernel, by decide +kernel, by decide +kernel, by decide +kernel, by decide +kernel⟩
set_option maxRecDepth 100000 in
theorem mk_im398 : Jvm.Cond.static (mc_M 398).1 ∈ ms_tb := mk_tb (mk_sub5 (List.mem_of_getElem? (i := 177) rfl) rfl)
set_option maxRecDepth 100000 in
theorem mk_ca399 : ms_callee mc_M 399 1 := ⟨mk_sub5 (List.mem_of_getElem? (i := 74) rfl) rfl, mk_tb (mk_sub1 (List.mem_of_getElem? (i := 17) rfl) rfl), by decide +kernel, by decide +kernel, by decide +kernel, by decide +kernel, by decide +kernel⟩
set_option maxRecDepth 100000 in
theorem mk_im399 : Jvm.Cond.instanceMethod (mc_M 399).1 ∈ ms_tb := mk_tb (mk_sub5 (List.mem_of_getElem? (i := 72) rfl) rfl)
set_option maxRecDepth 100000 in
theorem mk_se399 : Jvm.Cond.selects (mc_M 399).1.cls (mc_M 399).1 (mc_M 399).1 ∈ ms_tb := mk_tb (mk_sub5 (List.mem_of_getElem? (i := 73) rfl) rfl)
set_option maxRecDepth 100000 in
theorem mk_ca400 : ms_callee mc_M 400 2 := ⟨mk_sub5 (List.mem_of_getElem? (i := 78) rfl) rfl, mk_tb (mk_sub1 (List.mem_of_getElem? (i := 17) rfl) rfl), by decide +kernel, by decide +kernel, by decide +kernel, by decide +kernel, by decide +kernel⟩
set_option maxRecDepth 100000 in
theorem mk_im400 : Jvm.Cond.instanceMethod (mc_M 400).1 ∈ ms_tb := mk_tb (mk_sub5 (List.mem_of_getElem? (i := 76) rfl) rfl)
set_option maxRecDepth 100000 in
theorem mk_se400 : Jvm.Cond.selects (mc_M 400).1.cls (mc_M 400).1 (mc_M 400).1 ∈ ms_tb := mk_tb (mk_sub5 (List.mem_of_getElem? (i := 77) rfl) rfl)
set_option maxRecDepth 100000 in
theorem mk_ca401 : ms_callee mc_M 401 2 := ⟨mk_sub5 (List.mem_of_getElem? (i := 175) rfl) rfl, mk_tb (mk_sub1 (List.mem_of_getElem? (i := 18) rfl) rfl), by decide +kernel, by decide +kernel, by decide +kernel, by decide +kernel, by decide +kernel⟩
set_option maxRecDepth 100000 in
theorem mk_im401 : Jvm.Cond.static (mc_M 401).1 ∈ ms_tb := mk_tb (mk_sub5 (List.mem_of_getElem? (i := 174) rfl) rfl)
set_option maxRecDepth 100000 in
theorem mk_ca402 : ms_callee mc_M 402 4 := ⟨mk_sub5 (List.mem_of_getElem? (i := 95) rfl) rfl, mk_tb (mk_sub1 (List.mem_of_getElem? (i := 18) rfl) rfl), by decide +kernel, by decide +kernel, by decide +kernel, by decide +kernel, by decide +kernel⟩
set_option maxRecDepth 100000 in
theorem mk_im402 : Jvm.Cond.static (mc_M 402).1 ∈ ms_tb := mk_tb (mk_sub5 (List.mem_of_getElem? (i := 94) rfl) rfl)
set_option maxRecDepth 100000 in
theorem mk_ca403 : ms_callee mc_M 403 1 := ⟨mk_sub5 (List.mem_of_getElem? (i := 98) rfl) rfl, mk_tb (mk_sub1 (List.mem_of_getElem? (i := 18) rfl) rfl), by decide +kernel, by decide +kernel, by decide +kernel, by decide +kernel, by decide +kernel⟩
set_option maxRecDepth 100000 in
theorem mk_im403 : Jvm.Cond.static (mc_M 403).1 ∈ ms_tb := mk_tb (mk_sub5 (List.mem_of_getElem? (i := 97) rfl) rfl)
set_option maxRecDepth 100000 in
theorem mk_ca404 : ms_callee mc_M 404 4 := ⟨mk_sub5 (List.mem_of_getElem? (i := 105) rfl) rfl, mk_tb (mk_sub1 (List.mem_of_getElem? (i := 18) rfl) rfl), by decide +kernel, by decide +kernel, by decide +kernel, by decide +kernel, by decide +kernel⟩
set_option maxRecDepth 100000 in
theorem mk_im404 : Jvm.Cond.static (mc_M 404).1 ∈ ms_tb := mk_tb (mk_sub5 (List.mem_of_getElem? (i := 104) rfl) rfl)
set_option maxRecDepth 100000 in
theorem mk_ca405 : ms_callee mc_M 405 3 := ⟨mk_sub5 (List.mem_of_getElem? (i := 181) rfl) rfl, mk_tb (mk_sub1 (List.mem_of_getElem? (i := 20) rfl) rfl), by decide +kernel, by decide +kernel, by decide +kernel, by decide +kernel, by decide +kernel⟩
set_option maxRecDepth 100000 in
theorem mk_im405 : Jvm.Cond.static (mc_M 405).1 ∈ ms_tb := mk_tb (mk_sub5 (List.mem_of_getElem? (i := 180) rfl) rfl)
def mk_F : List (Nat × Nat × Nat × Nat) := [(0, 11, 0, 0), (0, 17, 0, 1), (0, 22, 0, 6), (0, 26, 0, 8), (0, 29, 0, 10), (0, 32, 0, 11), (0, 35, 0, 12), (0, 38, 0, 13), (0, 41, 0, 14), (0, 44, 0, 15), (0, 47, 0, 16), (0, 50, 0, 4), (0, 54, 0, 5), (0, 58, 0, 2), (0, 62, 0, 3), (0, 66, 0, 7), (0, 69, 0, 9), (0, 75, 4, 2), (0, 88, 8, 0), (0, 106, 4, 3), (0, 110, 9, 0), (0, 115, 4, 8), (0, 118, 4, 9), (0, 146, 1, 8), (0, 148, 1, 2), (0, 151, 1, 3), (0, 182, 1, 7), (1, 12, 1, 1), (1, 21, 1, 2), (1, 25, 1, 3), (1, 28, 1, 4), (1, 31, 1, 5), (1, 35, 1, 7), (1, 39, 1, 0), (1, 43, 4, 3), (1, 57, 9, 0), (1, 67, 9, 9), (1, 70, 9, 11), (1, 77, 9, 10), (1, 84, 4, 4), (1, 88, 9, 8), (1, 91, 4, 5), (1, 98, 8, 0), (1, 112, 5, 4), (1, 115, 1, 8), (1, 119, 8, 1), (1, 133, 5, 5), (1, 136, 5, 6), (1, 139, 8, 4), (1, 160, 5, 11), (1, 167, 5, 17), (1, 171, 5, 18), (1, 181, 4, 1), (1, 185, 1, 6), (1, 188, 9, 12), (1, 191, 9, 13), (1, 194, 7, 9), (1, 210, 7, 10), (2, 9, 2, 1), (2, 15, 2, 6), (2, 18, 2, 7), (2, 21, 2, 8), (2, 24, 2, 11), (2, 27, 2, 0), (2, 31, 2, 2), (2, 35, 2, 4), (2, 38, 2, 5), (2, 41, 2, 3), (2, 47, 2, 10), (2, 50, 4, 2), (2, 59, 4, 3), (2, 67, 0, 3), (2, 73, 0, 1), (2, 76, 2, 9), (2, 79, 0, 0), (2, 89, 4, 4), (2, 92, 4, 10), (2, 95, 9, 0), (2, 103, 9, 8), (2, 106, 9, 10), (2, 120, 9, 11), (2, 133, 4, 11), (2, 140, 9, 9), (2, 146, 4, 5), (2, 149, 4, 1), (2, 153, 9, 12), (2, 156, 9, 13), (2, 159, 7, 9), (2, 166, 7, 10), (2, 179, 2, 12), (2, 182, 7, 6), (2, 185, 7, 0), (3, 9, 3, 7), (3, 15, 3, 9), (3, 19, 3, 0), (3, 23, 3, 1), (3, 32, 3, 2), (3, 36, 10, 0), (3, 48, 3, 3), (3, 56, 3, 4), (3, 92, 10, 1), (3, 95, 3, 5), (3, 98, 10, 4), (3, 101, 10, 2), (3, 114, 3, 6), (3, 117, 3, 8), (3, 121, 9, 5), (3, 129, 9, 6), (3, 159, 6, 7), (3, 162, 6, 8), (3, 181, 3, 10), (3, 184, 9, 1), (3, 197, 9, 8), (3, 209, 9, 9), (3, 212, 3, 12), (3, 218, 9, 14), (3, 224, 3, 13), (3, 228, 7, 15), (3, 244, 9, 7), (3, 262, 9, 11), (3, 265, 7, 11), (3, 268, 9, 13), (3, 271, 6, 6), (3, 277, 9, 2), (3, 280, 7, 12), (3, 284, 7, 13), (3, 285, 9, 15), (3, 288, 9, 16), (3, 294, 7, 5), (3, 330, 3, 11), (3, 333, 7, 8), (4, 14, 4, 0), (4, 25, 4, 1), (4, 31, 4, 3), (4, 35, 4, 4), (4, 39, 4, 5), (4, 42, 4, 6), (4, 45, 4, 7), (4, 48, 4, 8), (4, 51, 4, 9), (4, 54, 4, 10), (4, 57, 4, 11), (4, 60, 4, 12), (4, 63, 4, 13), (4, 66, 4, 14), (4, 69, 4, 15), (4, 79, 4, 2), (4, 83, 9, 3), (4, 86, 9, 4), (4, 89, 9, 8), (4, 92, 4, 16), (4, 95, 4, 17), (4, 98, 4, 18), (4, 101, 7, 15), (4, 108, 10, 2), (4, 120, 7, 12), (4, 134, 4, 19), (4, 137, 9, 0), (4, 140, 9, 14), (4, 143, 9, 15), (4, 145, 9, 16), (4, 147, 9, 1), (4, 167, 9, 2), (4, 170, 9, 5), (4, 171, 9, 6), (4, 172, 9, 9), (4, 181, 9, 7), (4, 184, 9, 11), (5, 9, 5, 5), (5, 15, 5, 6), (5, 18, 5, 7), (5, 22, 5, 9), (5, 25, 5, 10), (5, 28, 5, 11), (5, 31, 4, 1), (5, 37, 5, 0), (5, 38, 4, 4), (5, 41, 5, 2), (5, 44, 4, 5), (5, 47, 5, 3), (5, 49, 5, 1), (5, 53, 5, 4), (5, 56, 7, 5), (5, 61, 5, 8), (5, 64, 7, 7), (5, 67, 7, 6), (5, 70, 7, 0), (5, 97, 7, 2), (5, 114, 8, 4), (5, 145, 5, 13), (5, 148, 5, 14), (5, 152, 5, 15), (5, 155, 5, 16), (5, 158, 7, 3), (5, 161, 7, 4), (5, 164, 5, 12), (5, 170, 5, 17), (5, 173, 5, 18), (6, 9, 6, 5), (6, 15, 6, 0), (6, 19, 10, 0), (6, 25, 6, 1), (6, 28, 6, 2), (6, 31, 6, 3), (6, 34, 6, 6), (6, 38, 6, 4), (6, 41, 6, 7), (6, 44, 6, 8), (7, 9, 7, 0), (7, 15, 7, 2), (7, 18, 7, 3), (7, 21, 7, 4), (7, 24, 7, 6), (7, 27, 7, 7), (7, 30, 7, 9), (7, 33, 7, 10), (7, 38, 7, 12), (7, 42, 7, 14), (7, 45, 7, 1), (7, 49, 7, 5), (7, 56, 7, 8), (7, 59, 7, 11), (7, 68, 7, 13), (7, 74, 9, 10), (7, 77, 9, 12), (7, 80, 7, 15), (7, 86, 9, 5), (7, 89, 9, 2), (7, 92, 9, 6), (8, 11, 8, 3), (8, 15, 8, 4), (8, 26, 8, 1), (8, 30, 8, 0), (8, 34, 8, 2), (8, 37, 8, 5), (9, 9, 9, 8), (9, 15, 9, 0), (9, 18, 9, 1), (9, 21, 9, 2), (9, 24, 9, 3), (9, 27, 9, 4), (10, 15, 10, 0), (10, 21, 10, 1), (10, 25, 10, 2), (10, 28, 10, 3), (10, 46, 10, 4), (11, 9, 11, 0), (11, 16, 11, 2), (11, 25, 11, 3), (11, 34, 11, 4), (11, 41, 11, 5), (11, 47, 11, 6), (11, 51, 11, 13), (11, 60, 11, 1), (11, 89, 11, 8), (11, 92, 11, 9), (11, 102, 4, 18), (11, 103, 4, 19), (11, 107, 11, 7), (11, 111, 0, 3), (11, 114, 4, 2), (11, 118, 0, 0), (11, 125, 11, 10), (11, 128, 11, 11), (11, 131, 0, 2), (11, 138, 4, 3), (11, 142, 9, 0), (11, 147, 9, 2), (11, 150, 0, 1), (11, 161, 8, 0), (11, 186, 8, 4), (11, 194, 1, 7), (11, 211, 11, 12), (11, 231, 4, 11), (11, 234, 1, 3), (11, 245, 4, 10), (11, 248, 1, 2), (11, 254, 2, 2), (11, 261, 2, 4), (11, 264, 2, 5), (11, 267, 2, 3), (11, 270, 2, 6), (11, 273, 2, 8), (11, 276, 2, 7), (11, 279, 2, 9), (11, 282, 11, 14), (11, 290, 8, 1), (11, 293, 8, 2), (11, 348, 4, 0), (12, 11, 12, 4), (12, 15, 12, 5), (12, 18, 12, 6), (12, 22, 12, 10), (12, 25, 12, 12), (12, 28, 12, 15), (12, 31, 12, 16), (12, 34, 12, 17), (12, 38, 12, 27), (12, 41, 12, 28), (12, 44, 12, 29), (12, 47, 12, 30), (12, 50, 12, 31), (12, 54, 12, 32), (12, 57, 12, 36), (12, 60, 12, 37), (12, 64, 12, 11), (12, 76, 12, 2), (12, 79, 12, 18), (12, 82, 12, 1), (12, 85, 12, 21), (12, 88, 12, 20), (12, 91, 12, 25), (12, 95, 12, 26), (12, 98, 12, 24), (12, 114, 12, 0), (12, 126, 12, 23), (12, 141, 13, 4), (12, 144, 13, 5), (12, 157, 13, 6), (12, 194, 12, 33), (12, 217, 13, 0), (12, 277, 12, 14), (12, 289, 12, 9), (12, 299, 12, 34), (12, 302, 12, 8), (12, 309, 12, 35), (12, 347, 13, 1), (12, 351, 13, 2), (12, 356, 12, 22), (12, 362, 12, 19), (12, 378, 12, 3), (12, 381, 12, 13), (12, 384, 12, 7), (13, 9, 13, 3), (13, 13, 13, 4), (13, 16, 13, 5), (13, 19, 13, 6), (13, 35, 13, 0), (13, 39, 13, 1), (13, 43, 13, 2), (14, 9, 14, 1), (14, 13, 14, 4), (14, 16, 14, 5), (14, 19, 14, 6), (14, 22, 14, 10), (14, 27, 14, 11), (14, 30, 14, 12), (14, 33, 14, 13), (14, 36, 14, 14), (14, 39, 14, 15), (14, 42, 14, 16), (14, 45, 14, 18), (14, 48, 14, 19), (14, 52, 14, 20), (14, 55, 14, 21), (14, 58, 14, 22), (14, 61, 14, 23), (14, 64, 14, 25), (14, 67, 14, 26), (14, 70, 14, 28), (14, 73, 14, 29), (14, 76, 14, 30), (14, 79, 14, 31), (14, 82, 14, 32), (14, 85, 14, 34), (14, 88, 14, 35), (14, 91, 14, 36), (14, 94, 14, 37), (14, 97, 14, 38), (14, 100, 14, 39), (14, 103, 14, 40), (14, 106, 14, 41), (14, 109, 14, 49), (14, 112, 14, 50), (14, 115, 14, 51), (14, 121, 14, 52), (14, 128, 14, 53), (14, 132, 14, 56), (14, 135, 14, 58), (14, 138, 14, 59), (14, 141, 14, 61), (14, 144, 14, 62), (14, 147, 14, 63), (14, 169, 14, 0), (14, 176, 14, 33), (14, 179, 14, 64), (14, 182, 14, 65), (14, 185, 14, 66), (14, 191, 14, 24), (14, 194, 14, 2), (14, 197, 14, 3), (14, 227, 14, 7), (14, 242, 14, 9), (14, 246, 14, 8), (14, 256, 14, 17), (14, 309, 14, 27), (14, 328, 14, 47), (14, 331, 14, 48), (14, 345, 12, 8), (14, 357, 14, 42), (14, 360, 14, 43), (14, 373, 14, 44), (14, 376, 14, 45), (14, 379, 14, 46), (14, 412, 12, 4), (14, 416, 12, 5), (14, 419, 13, 0), (14, 421, 12, 6), (14, 424, 14, 60), (14, 427, 14, 68), (14, 436, 14, 67), (14, 472, 14, 55), (14, 475, 14, 54), (14, 515, 13, 5), (14, 518, 13, 4), (14, 550, 14, 69), (14, 598, 14, 57)]
set_option maxRecDepth 100000 in
theorem mk_F0 : ∃ q, mt_cl[0]? = some q ∧ Jvm.Cond.fieldLink (mk_nm 0) 11 (q.2.1 0).1 (q.2.1 0).2.1 (q.2.1 0).2.2.1 ∈ ms_tb := ⟨_, rfl, mk_tb (mk_sub3 (List.mem_of_getElem? (i := 23) rfl) rfl)⟩
set_option maxRecDepth 100000 in
theorem mk_F1 : ∃ q, mt_cl[0]? = some q ∧ Jvm.Cond.fieldLink (mk_nm 0) 17 (q.2.1 1).1 (q.2.1 1).2.1 (q.2.1 1).2.2.1 ∈ ms_tb := ⟨_, rfl, mk_tb (mk_sub3 (List.mem_of_getElem? (i := 26) rfl) rfl)⟩
set_option maxRecDepth 100000 in
theorem mk_F2 : ∃ q, mt_cl[0]? = some q ∧ Jvm.Cond.fieldLink (mk_nm 0) 22 (q.2.1 6).1 (q.2.1 6).2.1 (q.2.1 6).2.2.1 ∈ ms_tb := ⟨_, rfl, mk_tb (mk_sub3 (List.mem_of_getElem? (i := 36) rfl) rfl)⟩
set_option maxRecDepth 100000 in
theorem mk_F3 : ∃ q, mt_cl[0]? = some q ∧ Jvm.Cond.fieldLink (mk_nm 0) 26 (q.2.1 8).1 (q.2.1 8).2.1 (q.2.1 8).2.2.1 ∈ ms_tb := ⟨_, rfl, mk_tb (mk_sub3 (List.mem_of_getElem? (i := 38) rfl) rfl)⟩
set_option maxRecDepth 100000 in
theorem mk_F4 : ∃ q, mt_cl[0]? = some q ∧ Jvm.Cond.fieldLink (mk_nm 0) 29 (q.2.1 10).1 (q.2.1 10).2.1 (q.2.1 10).2.2.1 ∈ ms_tb := ⟨_, rfl, mk_tb (mk_sub3 (List.mem_of_getElem? (i := 40) rfl) rfl)⟩
set_option maxRecDepth 100000 in
theorem mk_F5 : ∃ q, mt_cl[0]? = some q ∧ Jvm.Cond.fieldLink (mk_nm 0) 32 (q.2.1 11).1 (q.2.1 11).2.1 (q.2.1 11).2.2.1 ∈ ms_tb := ⟨_, rfl, mk_tb (mk_sub3 (List.mem_of_getElem? (i := 41) rfl) rfl)⟩
set_option maxRecDepth 100000 in
theorem mk_F6 : ∃ q, mt_cl[0]? = some q ∧ Jvm.Cond.fieldLink (mk_nm 0) 35 (q.2.1 12).1 (q.2.1 12).2.1 (q.2.1 12).2.2.1 ∈ ms_tb := ⟨_, rfl, mk_tb (mk_sub3 (List.mem_of_getElem? (i := 42) rfl) rfl)⟩
set_option maxRecDepth 100000 in
theorem mk_F7 : ∃ q, mt_cl[0]? = some q ∧ Jvm.Cond.fieldLink (mk_nm 0) 38 (q.2.1 13).1 (q.2.1 13).2.1 (q.2.1 13).2.2.1 ∈ ms_tb := ⟨_, rfl, mk_tb (mk_sub3 (List.mem_of_getElem? (i := 43) rfl) rfl)⟩
set_option maxRecDepth 100000 in
theorem mk_F8 : ∃ q, mt_cl[0]? = some q ∧ Jvm.Cond.fieldLink (mk_nm 0) 41 (q.2.1 14).1 (q.2.1 14).2.1 (q.2.1 14).2.2.1 ∈ ms_tb := ⟨_, rfl, mk_tb (mk_sub3 (List.mem_of_getElem? (i := 44) rfl) rfl)⟩
set_option maxRecDepth 100000 in
theorem mk_F9 : ∃ q, mt_cl[0]? = some q ∧ Jvm.Cond.fieldLink (mk_nm 0) 44 (q.2.1 15).1 (q.2.1 15).2.1 (q.2.1 15).2.2.1 ∈ ms_tb := ⟨_, rfl, mk_tb (mk_sub3 (List.mem_of_getElem? (i := 45) rfl) rfl)⟩
set_option maxRecDepth 100000 in
theorem mk_F10 : ∃ q, mt_cl[0]? = some q ∧ Jvm.Cond.fieldLink (mk_nm 0) 47 (q.2.1 16).1 (q.2.1 16).2.1 (q.2.1 16).2.2.1 ∈ ms_tb := ⟨_, rfl, mk_tb (mk_sub3 (List.mem_of_getElem? (i := 46) rfl) rfl)⟩
set_option maxRecDepth 100000 in
theorem mk_F11 : ∃ q, mt_cl[0]? = some q ∧ Jvm.Cond.fieldLink (mk_nm 0) 50 (q.2.1 4).1 (q.2.1 4).2.1 (q.2.1 4).2.2.1 ∈ ms_tb := ⟨_, rfl, mk_tb (mk_sub3 (List.mem_of_getElem? (i := 34) rfl) rfl)⟩
set_option maxRecDepth 100000 in
theorem mk_F12 : ∃ q, mt_cl[0]? = some q ∧ Jvm.Cond.fieldLink (mk_nm 0) 54 (q.2.1 5).1 (q.2.1 5).2.1 (q.2.1 5).2.2.1 ∈ ms_tb := ⟨_, rfl, mk_tb (mk_sub3 (List.mem_of_getElem? (i := 35) rfl) rfl)⟩
set_option maxRecDepth 100000 in
theorem mk_F13 : ∃ q, mt_cl[0]? = some q ∧ Jvm.Cond.fieldLink (mk_nm 0) 58 (q.2.1 2).1 (q.2.1 2).2.1 (q.2.1 2).2.2.1 ∈ ms_tb := ⟨_, rfl, mk_tb (mk_sub3 (List.mem_of_getElem? (i := 29) rfl) rfl)⟩
set_option maxRecDepth 100000 in
theorem mk_F14 : ∃ q, mt_cl[0]? = some q ∧ Jvm.Cond.fieldLink (mk_nm 0) 62 (q.2.1 3).1 (q.2.1 3).2.1 (q.2.1 3).2.2.1 ∈ ms_tb := ⟨_, rfl, mk_tb (mk_sub3 (List.mem_of_getElem? (i := 31) rfl) rfl)⟩
set_option maxRecDepth 100000 in
theorem mk_F15 : ∃ q, mt_cl[0]? = some q ∧ Jvm.Cond.fieldLink (mk_nm 0) 66 (q.2.1 7).1 (q.2.1 7).2.1 (q.2.1 7).2.2.1 ∈ ms_tb := ⟨_, rfl, mk_tb (mk_sub3 (List.mem_of_getElem? (i := 37) rfl) rfl)⟩
set_option maxRecDepth 100000 in
theorem mk_F16 : ∃ q, mt_cl[0]? = some q ∧ Jvm.Cond.fieldLink (mk_nm 0) 69 (q.2.1 9).1 (q.2.1 9).2.1 (q.2.1 9).2.2.1 ∈ ms_tb := ⟨_, rfl, mk_tb (mk_sub3 (List.mem_of_getElem? (i := 39) rfl) rfl)⟩
set_option maxRecDepth 100000 in
theorem mk_F17 : ∃ q, mt_cl[4]? = some q ∧ Jvm.Cond.fieldLink (mk_nm 0) 75 (q.2.1 2).1 (q.2.1 2).2.1 (q.2.1 2).2.2.1 ∈ ms_tb := ⟨_, rfl, mk_tb (mk_sub2 (List.mem_of_getElem? (i := 29) rfl) rfl)⟩
set_option maxRecDepth 100000 in
theorem mk_F18 : ∃ q, mt_cl[8]? = some q ∧ Jvm.Cond.fieldLink (mk_nm 0) 88 (q.2.1 0).1 (q.2.1 0).2.1 (q.2.1 0).2.2.1 ∈ ms_tb := ⟨_, rfl, mk_tb (mk_sub2 (List.mem_of_getElem? (i := 191) rfl) rfl)⟩
set_option maxRecDepth 100000 in
theorem mk_F19 : ∃ q, mt_cl[4]? = some q ∧ Jvm.Cond.fieldLink (mk_nm 0) 106 (q.2.1 3).1 (q.2.1 3).2.1 (q.2.1 3).2.2.1 ∈ ms_tb := ⟨_, rfl, mk_tb (mk_sub2 (List.mem_of_getElem? (i := 34) rfl) rfl)⟩
set_option maxRecDepth 100000 in
theorem mk_F20 : ∃ q, mt_cl[9]? = some q ∧ Jvm.Cond.fieldLink (mk_nm 0) 110 (q.2.1 0).1 (q.2.1 0).2.1 (q.2.1 0).2.2.1 ∈ ms_tb := ⟨_, rfl, mk_tb (mk_sub1 (List.mem_of_getElem? (i := 174) rfl) rfl)⟩
set_option maxRecDepth 100000 in
theorem mk_F21 : ∃ q, mt_cl[4]? = some q ∧ Jvm.Cond.fieldLink (mk_nm 0) 115 (q.2.1 8).1 (q.2.1 8).2.1 (q.2.1 8).2.2.1 ∈ ms_tb := ⟨_, rfl, mk_tb (mk_sub2 (List.mem_of_getElem? (i := 48) rfl) rfl)⟩
set_option maxRecDepth 100000 in
theorem mk_F22 : ∃ q, mt_cl[4]? = some q ∧ Jvm.Cond.fieldLink (mk_nm 0) 118 (q.2.1 9).1 (q.2.1 9).2.1 (q.2.1 9).2.2.1 ∈ ms_tb := ⟨_, rfl, mk_tb (mk_sub2 (List.mem_of_getElem? (i := 50) rfl) rfl)⟩
set_option maxRecDepth 100000 in
theorem mk_F23 : ∃ q, mt_cl[1]? = some q ∧ Jvm.Cond.fieldLink (mk_nm 0) 146 (q.2.1 8).1 (q.2.1 8).2.1 (q.2.1 8).2.2.1 ∈ ms_tb := ⟨_, rfl, mk_tb (mk_sub2 (List.mem_of_getElem? (i := 235) rfl) rfl)⟩
set_option maxRecDepth 100000 in
theorem mk_F24 : ∃ q, mt_cl[1]? = some q ∧ Jvm.Cond.fieldLink (mk_nm 0) 148 (q.2.1 2).1 (q.2.1 2).2.1 (q.2.1 2).2.2.1 ∈ ms_tb := ⟨_, rfl, mk_tb (mk_sub2 (List.mem_of_getElem? (i := 223) rfl) rfl)⟩
set_option maxRecDepth 100000 in
theorem mk_F25 : ∃ q, mt_cl[1]? = some q ∧ Jvm.Cond.fieldLink (mk_nm 0) 151 (q.2.1 3).1 (q.2.1 3).2.1 (q.2.1 3).2.2.1 ∈ ms_tb := ⟨_, rfl, mk_tb (mk_sub2 (List.mem_of_getElem? (i := 226) rfl) rfl)⟩
set_option maxRecDepth 100000 in
theorem mk_F26 : ∃ q, mt_cl[1]? = some q ∧ Jvm.Cond.fieldLink (mk_nm 0) 182 (q.2.1 7).1 (q.2.1 7).2.1 (q.2.1 7).2.2.1 ∈ ms_tb := ⟨_, rfl, mk_tb (mk_sub2 (List.mem_of_getElem? (i := 232) rfl) rfl)⟩
set_option maxRecDepth 100000 in
theorem mk_F27 : ∃ q, mt_cl[1]? = some q ∧ Jvm.Cond.fieldLink (mk_nm 1) 12 (q.2.1 1).1 (q.2.1 1).2.1 (q.2.1 1).2.2.1 ∈ ms_tb := ⟨_, rfl, mk_tb (mk_sub2 (List.mem_of_getElem? (i := 221) rfl) rfl)⟩
set_option maxRecDepth 100000 in
theorem mk_F28 : ∃ q, mt_cl[1]? = some q ∧ Jvm.Cond.fieldLink (mk_nm 1) 21 (q.2.1 2).1 (q.2.1 2).2.1 (q.2.1 2).2.2.1 ∈ ms_tb := ⟨_, rfl, mk_tb (mk_sub2 (List.mem_of_getElem? (i := 222) rfl) rfl)⟩
set_option maxRecDepth 100000 in
theorem mk_F29 : ∃ q, mt_cl[1]? = some q ∧ Jvm.Cond.fieldLink (mk_nm 1) 25 (q.2.1 3).1 (q.2.1 3).2.1 (q.2.1 3).2.2.1 ∈ ms_tb := ⟨_, rfl, mk_tb (mk_sub2 (List.mem_of_getElem? (i := 225) rfl) rfl)⟩
set_option maxRecDepth 100000 in
theorem mk_F30 : ∃ q, mt_cl[1]? = some q ∧ Jvm.Cond.fieldLink (mk_nm 1) 28 (q.2.1 4).1 (q.2.1 4).2.1 (q.2.1 4).2.2.1 ∈ ms_tb := ⟨_, rfl, mk_tb (mk_sub2 (List.mem_of_getElem? (i := 228) rfl) rfl)⟩
set_option maxRecDepth 100000 in
theorem mk_F31 : ∃ q, mt_cl[1]? = some q ∧ Jvm.Cond.fieldLink (mk_nm 1) 31 (q.2.1 5).1 (q.2.1 5).2.1 (q.2.1 5).2.2.1 ∈ ms_tb := ⟨_, rfl, mk_tb (mk_sub2 (List.mem_of_getElem? (i := 229) rfl) rfl)⟩
set_option maxRecDepth 100000 in
theorem mk_F32 : ∃ q, mt_cl[1]? = some q ∧ Jvm.Cond.fieldLink (mk_nm 1) 35 (q.2.1 7).1 (q.2.1 7).2.1 (q.2.1 7).2.2.1 ∈ ms_tb := ⟨_, rfl, mk_tb (mk_sub2 (List.mem_of_getElem? (i := 231) rfl) rfl)⟩
set_option maxRecDepth 100000 in
theorem mk_F33 : ∃ q, mt_cl[1]? = some q ∧ Jvm.Cond.fieldLink (mk_nm 1) 39 (q.2.1 0).1 (q.2.1 0).2.1 (q.2.1 0).2.2.1 ∈ ms_tb := ⟨_, rfl, mk_tb (mk_sub2 (List.mem_of_getElem? (i := 220) rfl) rfl)⟩
set_option maxRecDepth 100000 in
theorem mk_F34 : ∃ q, mt_cl[4]? = some q ∧ Jvm.Cond.fieldLink (mk_nm 1) 43 (q.2.1 3).1 (q.2.1 3).2.1 (q.2.1 3).2.2.1 ∈ ms_tb := ⟨_, rfl, mk_tb (mk_sub2 (List.mem_of_getElem? (i := 33) rfl) rfl)⟩
set_option maxRecDepth 100000 in
theorem mk_F35 : ∃ q, mt_cl[9]? = some q ∧ Jvm.Cond.fieldLink (mk_nm 1) 57 (q.2.1 0).1 (q.2.1 0).2.1 (q.2.1 0).2.2.1 ∈ ms_tb := ⟨_, rfl, mk_tb (mk_sub1 (List.mem_of_getElem? (i := 173) rfl) rfl)⟩
set_option maxRecDepth 100000 in
theorem mk_F36 : ∃ q, mt_cl[9]? = some q ∧ Jvm.Cond.fieldLink (mk_nm 1) 67 (q.2.1 9).1 (q.2.1 9).2.1 (q.2.1 9).2.2.1 ∈ ms_tb := ⟨_, rfl, mk_tb (mk_sub1 (List.mem_of_getElem? (i := 203) rfl) rfl)⟩
set_option maxRecDepth 100000 in
theorem mk_F37 : ∃ q, mt_cl[9]? = some q ∧ Jvm.Cond.fieldLink (mk_nm 1) 70 (q.2.1 11).1 (q.2.1 11).2.1 (q.2.1 11).2.2.1 ∈ ms_tb := ⟨_, rfl, mk_tb (mk_sub1 (List.mem_of_getElem? (i := 210) rfl) rfl)⟩
set_option maxRecDepth 100000 in
theorem mk_F38 : ∃ q, mt_cl[9]? = some q ∧ Jvm.Cond.fieldLink (mk_nm 1) 77 (q.2.1 10).1 (q.2.1 10).2.1 (q.2.1 10).2.2.1 ∈ ms_tb := ⟨_, rfl, mk_tb (mk_sub1 (List.mem_of_getElem? (i := 207) rfl) rfl)⟩
set_option maxRecDepth 100000 in
theorem mk_F39 : ∃ q, mt_cl[4]? = some q ∧ Jvm.Cond.fieldLink (mk_nm 1) 84 (q.2.1 4).1 (q.2.1 4).2.1 (q.2.1 4).2.2.1 ∈ ms_tb := ⟨_, rfl, mk_tb (mk_sub2 (List.mem_of_getElem? (i := 39) rfl) rfl)⟩
set_option maxRecDepth 100000 in
theorem mk_F40 : ∃ q, mt_cl[9]? = some q ∧ Jvm.Cond.fieldLink (mk_nm 1) 88 (q.2.1 8).1 (q.2.1 8).2.1 (q.2.1 8).2.2.1 ∈ ms_tb := ⟨_, rfl, mk_tb (mk_sub1 (List.mem_of_getElem? (i := 199) rfl) rfl)⟩
set_option maxRecDepth 100000 in
theorem mk_F41 : ∃ q, mt_cl[4]? = some q ∧ Jvm.Cond.fieldLink (mk_nm 1) 91 (q.2.1 5).1 (q.2.1 5).2.1 (q.2.1 5).2.2.1 ∈ ms_tb := ⟨_, rfl, mk_tb (mk_sub2 (List.mem_of_getElem? (i := 43) rfl) rfl)⟩
set_option maxRecDepth 100000 in
theorem mk_F42 : ∃ q, mt_cl[8]? = some q ∧ Jvm.Cond.fieldLink (mk_nm 1) 98 (q.2.1 0).1 (q.2.1 0).2.1 (q.2.1 0).2.2.1 ∈ ms_tb := ⟨_, rfl, mk_tb (mk_sub2 (List.mem_of_getElem? (i := 192) rfl) rfl)⟩
set_option maxRecDepth 100000 in
theorem mk_F43 : ∃ q, mt_cl[5]? = some q ∧ Jvm.Cond.fieldLink (mk_nm 1) 112 (q.2.1 4).1 (q.2.1 4).2.1 (q.2.1 4).2.2.1 ∈ ms_tb := ⟨_, rfl, mk_tb (mk_sub2 (List.mem_of_getElem? (i := 125) rfl) rfl)⟩
set_option maxRecDepth 100000 in
theorem mk_F44 : ∃ q, mt_cl[1]? = some q ∧ Jvm.Cond.fieldLink (mk_nm 1) 115 (q.2.1 8).1 (q.2.1 8).2.1 (q.2.1 8).2.2.1 ∈ ms_tb := ⟨_, rfl, mk_tb (mk_sub2 (List.mem_of_getElem? (i := 234) rfl) rfl)⟩
set_option maxRecDepth 100000 in
theorem mk_F45 : ∃ q, mt_cl[8]? = some q ∧ Jvm.Cond.fieldLink (mk_nm 1) 119 (q.2.1 1).1 (q.2.1 1).2.1 (q.2.1 1).2.2.1 ∈ ms_tb := ⟨_, rfl, mk_tb (mk_sub2 (List.mem_of_getElem? (i := 195) rfl) rfl)⟩
set_option maxRecDepth 100000 in
theorem mk_F46 : ∃ q, mt_cl[5]? = some q ∧ Jvm.Cond.fieldLink (mk_nm 1) 133 (q.2.1 5).1 (q.2.1 5).2.1 (q.2.1 5).2.2.1 ∈ ms_tb := ⟨_, rfl, mk_tb (mk_sub2 (List.mem_of_getElem? (i := 127) rfl) rfl)⟩
set_option maxRecDepth 100000 in
theorem mk_F47 : ∃ q, mt_cl[5]? = some q ∧ Jvm.Cond.fieldLink (mk_nm 1) 136 (q.2.1 6).1 (q.2.1 6).2.1 (q.2.1 6).2.2.1 ∈ ms_tb := ⟨_, rfl, mk_tb (mk_sub2 (List.mem_of_getElem? (i := 129) rfl) rfl)⟩
set_option maxRecDepth 100000 in
theorem mk_F48 : ∃ q, mt_cl[8]? = some q ∧ Jvm.Cond.fieldLink (mk_nm 1) 139 (q.2.1 4).1 (q.2.1 4).2.1 (q.2.1 4).2.2.1 ∈ ms_tb := ⟨_, rfl, mk_tb (mk_sub2 (List.mem_of_getElem? (i := 202) rfl) rfl)⟩
set_option maxRecDepth 100000 in
theorem mk_F49 : ∃ q, mt_cl[5]? = some q ∧ Jvm.Cond.fieldLink (mk_nm 1) 160 (q.2.1 11).1 (q.2.1 11).2.1 (q.2.1 11).2.2.1 ∈ ms_tb := ⟨_, rfl, mk_tb (mk_sub2 (List.mem_of_getElem? (i := 135) rfl) rfl)⟩
set_option maxRecDepth 100000 in
theorem mk_F50 : ∃ q, mt_cl[5]? = some q ∧ Jvm.Cond.fieldLink (mk_nm 1) 167 (q.2.1 17).1 (q.2.1 17).2.1 (q.2.1 17).2.2.1 ∈ ms_tb := ⟨_, rfl, mk_tb (mk_sub2 (List.mem_of_getElem? (i := 141) rfl) rfl)⟩
set_option maxRecDepth 100000 in
theorem mk_F51 : ∃ q, mt_cl[5]? = some q ∧ Jvm.Cond.fieldLink (mk_nm 1) 171 (q.2.1 18).1 (q.2.1 18).2.1 (q.2.1 18).2.2.1 ∈ ms_tb := ⟨_, rfl, mk_tb (mk_sub2 (List.mem_of_getElem? (i := 143) rfl) rfl)⟩
set_option maxRecDepth 100000 in
theorem mk_F52 : ∃ q, mt_cl[4]? = some q ∧ Jvm.Cond.fieldLink (mk_nm 1) 181 (q.2.1 1).1 (q.2.1 1).2.1 (q.2.1 1).2.2.1 ∈ ms_tb := ⟨_, rfl, mk_tb (mk_sub2 (List.mem_of_getElem? (i := 26) rfl) rfl)⟩
set_option maxRecDepth 100000 in
theorem mk_F53 : ∃ q, mt_cl[1]? = some q ∧ Jvm.Cond.fieldLink (mk_nm 1) 185 (q.2.1 6).1 (q.2.1 6).2.1 (q.2.1 6).2.2.1 ∈ ms_tb := ⟨_, rfl, mk_tb (mk_sub2 (List.mem_of_getElem? (i := 230) rfl) rfl)⟩
set_option maxRecDepth 100000 in
theorem mk_F54 : ∃ q, mt_cl[9]? = some q ∧ Jvm.Cond.fieldLink (mk_nm 1) 188 (q.2.1 12).1 (q.2.1 12).2.1 (q.2.1 12).2.2.1 ∈ ms_tb := ⟨_, rfl, mk_tb (mk_sub1 (List.mem_of_getElem? (i := 214) rfl) rfl)⟩
set_option maxRecDepth 100000 in
theorem mk_F55 : ∃ q, mt_cl[9]? = some q ∧ Jvm.Cond.fieldLink (mk_nm 1) 191 (q.2.1 13).1 (q.2.1 13).2.1 (q.2.1 13).2.2.1 ∈ ms_tb := ⟨_, rfl, mk_tb (mk_sub1 (List.mem_of_getElem? (i := 217) rfl) rfl)⟩
set_option maxRecDepth 100000 in
theorem mk_F56 : ∃ q, mt_cl[7]? = some q ∧ Jvm.Cond.fieldLink (mk_nm 1) 194 (q.2.1 9).1 (q.2.1 9).2.1 (q.2.1 9).2.2.1 ∈ ms_tb := ⟨_, rfl, mk_tb (mk_sub1 (List.mem_of_getElem? (i := 113) rfl) rfl)⟩
set_option maxRecDepth 100000 in
theorem mk_F57 : ∃ q, mt_cl[7]? = some q ∧ Jvm.Cond.fieldLink (mk_nm 1) 210 (q.2.1 10).1 (q.2.1 10).2.1 (q.2.1 10).2.2.1 ∈ ms_tb := ⟨_, rfl, mk_tb (mk_sub1 (List.mem_of_getElem? (i := 116) rfl) rfl)⟩
set_option maxRecDepth 100000 in
theorem mk_F58 : ∃ q, mt_cl[2]? = some q ∧ Jvm.Cond.fieldLink (mk_nm 2) 9 (q.2.1 1).1 (q.2.1 1).2.1 (q.2.1 1).2.2.1 ∈ ms_tb := ⟨_, rfl, mk_tb (mk_sub3 (List.mem_of_getElem? (i := 89) rfl) rfl)⟩
set_option maxRecDepth 100000 in
theorem mk_F59 : ∃ q, mt_cl[2]? = some q ∧ Jvm.Cond.fieldLink (mk_nm 2) 15 (q.2.1 6).1 (q.2.1 6).2.1 (q.2.1 6).2.2.1 ∈ ms_tb := ⟨_, rfl, mk_tb (mk_sub3 (List.mem_of_getElem? (i := 98) rfl) rfl)⟩
set_option maxRecDepth 100000 in
theorem mk_F60 : ∃ q, mt_cl[2]? = some q ∧ Jvm.Cond.fieldLink (mk_nm 2) 18 (q.2.1 7).1 (q.2.1 7).2.1 (q.2.1 7).2.2.1 ∈ ms_tb := ⟨_, rfl, mk_tb (mk_sub3 (List.mem_of_getElem? (i := 100) rfl) rfl)⟩
set_option maxRecDepth 100000 in
theorem mk_F61 : ∃ q, mt_cl[2]? = some q ∧ Jvm.Cond.fieldLink (mk_nm 2) 21 (q.2.1 8).1 (q.2.1 8).2.1 (q.2.1 8).2.2.1 ∈ ms_tb := ⟨_, rfl, mk_tb (mk_sub3 (List.mem_of_getElem? (i := 102) rfl) rfl)⟩
set_option maxRecDepth 100000 in
theorem mk_F62 : ∃ q, mt_cl[2]? = some q ∧ Jvm.Cond.fieldLink (mk_nm 2) 24 (q.2.1 11).1 (q.2.1 11).2.1 (q.2.1 11).2.2.1 ∈ ms_tb := ⟨_, rfl, mk_tb (mk_sub3 (List.mem_of_getElem? (i := 107) rfl) rfl)⟩
set_option maxRecDepth 100000 in
theorem mk_F63 : ∃ q, mt_cl[2]? = some q ∧ Jvm.Cond.fieldLink (mk_nm 2) 27 (q.2.1 0).1 (q.2.1 0).2.1 (q.2.1 0).2.2.1 ∈ ms_tb := ⟨_, rfl, mk_tb (mk_sub3 (List.mem_of_getElem? (i := 88) rfl) rfl)⟩
set_option maxRecDepth 100000 in
theorem mk_F64 : ∃ q, mt_cl[2]? = some q ∧ Jvm.Cond.fieldLink (mk_nm 2) 31 (q.2.1 2).1 (q.2.1 2).2.1 (q.2.1 2).2.2.1 ∈ ms_tb := ⟨_, rfl, mk_tb (mk_sub3 (List.mem_of_getElem? (i := 90) rfl) rfl)⟩
set_option maxRecDepth 100000 in
theorem mk_F65 : ∃ q, mt_cl[2]? = some q ∧ Jvm.Cond.fieldLink (mk_nm 2) 35 (q.2.1 4).1 (q.2.1 4).2.1 (q.2.1 4).2.2.1 ∈ ms_tb := ⟨_, rfl, mk_tb (mk_sub3 (List.mem_of_getElem? (i := 94) rfl) rfl)⟩
set_option maxRecDepth 100000 in
theorem mk_F66 : ∃ q, mt_cl[2]? = some q ∧ Jvm.Cond.fieldLink (mk_nm 2) 38 (q.2.1 5).1 (q.2.1 5).2.1 (q.2.1 5).2.2.1 ∈ ms_tb := ⟨_, rfl, mk_tb (mk_sub3 (List.mem_of_getElem? (i := 96) rfl) rfl)⟩
set_option maxRecDepth 100000 in
theorem mk_F67 : ∃ q, mt_cl[2]? = some q ∧ Jvm.Cond.fieldLink (mk_nm 2) 41 (q.2.1 3).1 (q.2.1 3).2.1 (q.2.1 3).2.2.1 ∈ ms_tb := ⟨_, rfl, mk_tb (mk_sub3 (List.mem_of_getElem? (i := 92) rfl) rfl)⟩
set_option maxRecDepth 100000 in
theorem mk_F68 : ∃ q, mt_cl[2]? = some q ∧ Jvm.Cond.fieldLink (mk_nm 2) 47 (q.2.1 10).1 (q.2.1 10).2.1 (q.2.1 10).2.2.1 ∈ ms_tb := ⟨_, rfl, mk_tb (mk_sub3 (List.mem_of_getElem? (i := 106) rfl) rfl)⟩
set_option maxRecDepth 100000 in
theorem mk_F69 : ∃ q, mt_cl[4]? = some q ∧ Jvm.Cond.fieldLink (mk_nm 2) 50 (q.2.1 2).1 (q.2.1 2).2.1 (q.2.1 2).2.2.1 ∈ ms_tb := ⟨_, rfl, mk_tb (mk_sub2 (List.mem_of_getElem? (i := 30) rfl) rfl)⟩
set_option maxRecDepth 100000 in
theorem mk_F70 : ∃ q, mt_cl[4]? = some q ∧ Jvm.Cond.fieldLink (mk_nm 2) 59 (q.2.1 3).1 (q.2.1 3).2.1 (q.2.1 3).2.2.1 ∈ ms_tb := ⟨_, rfl, mk_tb (mk_sub2 (List.mem_of_getElem? (i := 35) rfl) rfl)⟩
set_option maxRecDepth 100000 in
theorem mk_F71 : ∃ q, mt_cl[0]? = some q ∧ Jvm.Cond.fieldLink (mk_nm 2) 67 (q.2.1 3).1 (q.2.1 3).2.1 (q.2.1 3).2.2.1 ∈ ms_tb := ⟨_, rfl, mk_tb (mk_sub3 (List.mem_of_getElem? (i := 32) rfl) rfl)⟩
set_option maxRecDepth 100000 in
theorem mk_F72 : ∃ q, mt_cl[0]? = some q ∧ Jvm.Cond.fieldLink (mk_nm 2) 73 (q.2.1 1).1 (q.2.1 1).2.1 (q.2.1 1).2.2.1 ∈ ms_tb := ⟨_, rfl, mk_tb (mk_sub3 (List.mem_of_getElem? (i := 27) rfl) rfl)⟩
set_option maxRecDepth 100000 in
theorem mk_F73 : ∃ q, mt_cl[2]? = some q ∧ Jvm.Cond.fieldLink (mk_nm 2) 76 (q.2.1 9).1 (q.2.1 9).2.1 (q.2.1 9).2.2.1 ∈ ms_tb := ⟨_, rfl, mk_tb (mk_sub3 (List.mem_of_getElem? (i := 104) rfl) rfl)⟩
set_option maxRecDepth 100000 in
theorem mk_F74 : ∃ q, mt_cl[0]? = some q ∧ Jvm.Cond.fieldLink (mk_nm 2) 79 (q.2.1 0).1 (q.2.1 0).2.1 (q.2.1 0).2.2.1 ∈ ms_tb := ⟨_, rfl, mk_tb (mk_sub3 (List.mem_of_getElem? (i := 24) rfl) rfl)⟩
set_option maxRecDepth 100000 in
theorem mk_F75 : ∃ q, mt_cl[4]? = some q ∧ Jvm.Cond.fieldLink (mk_nm 2) 89 (q.2.1 4).1 (q.2.1 4).2.1 (q.2.1 4).2.2.1 ∈ ms_tb := ⟨_, rfl, mk_tb (mk_sub2 (List.mem_of_getElem? (i := 40) rfl) rfl)⟩
set_option maxRecDepth 100000 in
theorem mk_F76 : ∃ q, mt_cl[4]? = some q ∧ Jvm.Cond.fieldLink (mk_nm 2) 92 (q.2.1 10).1 (q.2.1 10).2.1 (q.2.1 10).2.2.1 ∈ ms_tb := ⟨_, rfl, mk_tb (mk_sub2 (List.mem_of_getElem? (i := 52) rfl) rfl)⟩
set_option maxRecDepth 100000 in
theorem mk_F77 : ∃ q, mt_cl[9]? = some q ∧ Jvm.Cond.fieldLink (mk_nm 2) 95 (q.2.1 0).1 (q.2.1 0).2.1 (q.2.1 0).2.2.1 ∈ ms_tb := ⟨_, rfl, mk_tb (mk_sub1 (List.mem_of_getElem? (i := 175) rfl) rfl)⟩
set_option maxRecDepth 100000 in
theorem mk_F78 : ∃ q, mt_cl[9]? = some q ∧ Jvm.Cond.fieldLink (mk_nm 2) 103 (q.2.1 8).1 (q.2.1 8).2.1 (q.2.1 8).2.2.1 ∈ ms_tb := ⟨_, rfl, mk_tb (mk_sub1 (List.mem_of_getElem? (i := 200) rfl) rfl)⟩
set_option maxRecDepth 100000 in
theorem mk_F79 : ∃ q, mt_cl[9]? = some q ∧ Jvm.Cond.fieldLink (mk_nm 2) 106 (q.2.1 10).1 (q.2.1 10).2.1 (q.2.1 10).2.2.1 ∈ ms_tb := ⟨_, rfl, mk_tb (mk_sub1 (List.mem_of_getElem? (i := 208) rfl) rfl)⟩
set_option maxRecDepth 100000 in
theorem mk_F80 : ∃ q, mt_cl[9]? = some q ∧ Jvm.Cond.fieldLink (mk_nm 2) 120 (q.2.1 11).1 (q.2.1 11).2.1 (q.2.1 11).2.2.1 ∈ ms_tb := ⟨_, rfl, mk_tb (mk_sub1 (List.mem_of_getElem? (i := 211) rfl) rfl)⟩
set_option maxRecDepth 100000 in
theorem mk_F81 : ∃ q, mt_cl[4]? = some q ∧ Jvm.Cond.fieldLink (mk_nm 2) 133 (q.2.1 11).1 (q.2.1 11).2.1 (q.2.1 11).2.2.1 ∈ ms_tb := ⟨_, rfl, mk_tb (mk_sub2 (List.mem_of_getElem? (i := 55) rfl) rfl)⟩
set_option maxRecDepth 100000 in
theorem mk_F82 : ∃ q, mt_cl[9]? = some q ∧ Jvm.Cond.fieldLink (mk_nm 2) 140 (q.2.1 9).1 (q.2.1 9).2.1 (q.2.1 9).2.2.1 ∈ ms_tb := ⟨_, rfl, mk_tb (mk_sub1 (List.mem_of_getElem? (i := 204) rfl) rfl)⟩
set_option maxRecDepth 100000 in
theorem mk_F83 : ∃ q, mt_cl[4]? = some q ∧ Jvm.Cond.fieldLink (mk_nm 2) 146 (q.2.1 5).1 (q.2.1 5).2.1 (q.2.1 5).2.2.1 ∈ ms_tb := ⟨_, rfl, mk_tb (mk_sub2 (List.mem_of_getElem? (i := 44) rfl) rfl)⟩
set_option maxRecDepth 100000 in
theorem mk_F84 : ∃ q, mt_cl[4]? = some q ∧ Jvm.Cond.fieldLink (mk_nm 2) 149 (q.2.1 1).1 (q.2.1 1).2.1 (q.2.1 1).2.2.1 ∈ ms_tb := ⟨_, rfl, mk_tb (mk_sub2 (List.mem_of_getElem? (i := 27) rfl) rfl)⟩
set_option maxRecDepth 100000 in
theorem mk_F85 : ∃ q, mt_cl[9]? = some q ∧ Jvm.Cond.fieldLink (mk_nm 2) 153 (q.2.1 12).1 (q.2.1 12).2.1 (q.2.1 12).2.2.1 ∈ ms_tb := ⟨_, rfl, mk_tb (mk_sub1 (List.mem_of_getElem? (i := 216) rfl) rfl)⟩
set_option maxRecDepth 100000 in
theorem mk_F86 : ∃ q, mt_cl[9]? = some q ∧ Jvm.Cond.fieldLink (mk_nm 2) 156 (q.2.1 13).1 (q.2.1 13).2.1 (q.2.1 13).2.2.1 ∈ ms_tb := ⟨_, rfl, mk_tb (mk_sub1 (List.mem_of_getElem? (i := 218) rfl) rfl)⟩
set_option maxRecDepth 100000 in
theorem mk_F87 : ∃ q, mt_cl[7]? = some q ∧ Jvm.Cond.fieldLink (mk_nm 2) 159 (q.2.1 9).1 (q.2.1 9).2.1 (q.2.1 9).2.2.1 ∈ ms_tb := ⟨_, rfl, mk_tb (mk_sub1 (List.mem_of_getElem? (i := 114) rfl) rfl)⟩
set_option maxRecDepth 100000 in
theorem mk_F88 : ∃ q, mt_cl[7]? = some q ∧ Jvm.Cond.fieldLink (mk_nm 2) 166 (q.2.1 10).1 (q.2.1 10).2.1 (q.2.1 10).2.2.1 ∈ ms_tb := ⟨_, rfl, mk_tb (mk_sub1 (List.mem_of_getElem? (i := 117) rfl) rfl)⟩
set_option maxRecDepth 100000 in
theorem mk_F89 : ∃ q, mt_cl[2]? = some q ∧ Jvm.Cond.fieldLink (mk_nm 2) 179 (q.2.1 12).1 (q.2.1 12).2.1 (q.2.1 12).2.2.1 ∈ ms_tb := ⟨_, rfl, mk_tb (mk_sub3 (List.mem_of_getElem? (i := 108) rfl) rfl)⟩
set_option maxRecDepth 100000 in
theorem mk_F90 : ∃ q, mt_cl[7]? = some q ∧ Jvm.Cond.fieldLink (mk_nm 2) 182 (q.2.1 6).1 (q.2.1 6).2.1 (q.2.1 6).2.2.1 ∈ ms_tb := ⟨_, rfl, mk_tb (mk_sub1 (List.mem_of_getElem? (i := 107) rfl) rfl)⟩
set_option maxRecDepth 100000 in
theorem mk_F91 : ∃ q, mt_cl[7]? = some q ∧ Jvm.Cond.fieldLink (mk_nm 2) 185 (q.2.1 0).1 (q.2.1 0).2.1 (q.2.1 0).2.2.1 ∈ ms_tb := ⟨_, rfl, mk_tb (mk_sub1 (List.mem_of_getElem? (i := 94) rfl) rfl)⟩
set_option maxRecDepth 100000 in
theorem mk_F92 : ∃ q, mt_cl[3]? = some q ∧ Jvm.Cond.fieldLink (mk_nm 3) 9 (q.2.1 7).1 (q.2.1 7).2.1 (q.2.1 7).2.2.1 ∈ ms_tb := ⟨_, rfl, mk_tb (mk_sub6 (List.mem_of_getElem? (i := 13) rfl) rfl)⟩
set_option maxRecDepth 100000 in
theorem mk_F93 : ∃ q, mt_cl[3]? = some q ∧ Jvm.Cond.fieldLink (mk_nm 3) 15 (q.2.1 9).1 (q.2.1 9).2.1 (q.2.1 9).2.2.1 ∈ ms_tb := ⟨_, rfl, mk_tb (mk_sub6 (List.mem_of_getElem? (i := 15) rfl) rfl)⟩
set_option maxRecDepth 100000 in
theorem mk_F94 : ∃ q, mt_cl[3]? = some q ∧ Jvm.Cond.fieldLink (mk_nm 3) 19 (q.2.1 0).1 (q.2.1 0).2.1 (q.2.1 0).2.2.1 ∈ ms_tb := ⟨_, rfl, mk_tb (mk_sub6 (List.mem_of_getElem? (i := 6) rfl) rfl)⟩
set_option maxRecDepth 100000 in
theorem mk_F95 : ∃ q, mt_cl[3]? = some q ∧ Jvm.Cond.fieldLink (mk_nm 3) 23 (q.2.1 1).1 (q.2.1 1).2.1 (q.2.1 1).2.2.1 ∈ ms_tb := ⟨_, rfl, mk_tb (mk_sub6 (List.mem_of_getElem? (i := 7) rfl) rfl)⟩
set_option maxRecDepth 100000 in
theorem mk_F96 : ∃ q, mt_cl[3]? = some q ∧ Jvm.Cond.fieldLink (mk_nm 3) 32 (q.2.1 2).1 (q.2.1 2).2.1 (q.2.1 2).2.2.1 ∈ ms_tb := ⟨_, rfl, mk_tb (mk_sub6 (List.mem_of_getElem? (i := 8) rfl) rfl)⟩
set_option maxRecDepth 100000 in
theorem mk_F97 : ∃ q, mt_cl[10]? = some q ∧ Jvm.Cond.fieldLink (mk_nm 3) 36 (q.2.1 0).1 (q.2.1 0).2.1 (q.2.1 0).2.2.1 ∈ ms_tb := ⟨_, rfl, mk_tb (mk_sub1 (List.mem_of_getElem? (i := 62) rfl) rfl)⟩
set_option maxRecDepth 100000 in
theorem mk_F98 : ∃ q, mt_cl[3]? = some q ∧ Jvm.Cond.fieldLink (mk_nm 3) 48 (q.2.1 3).1 (q.2.1 3).2.1 (q.2.1 3).2.2.1 ∈ ms_tb := ⟨_, rfl, mk_tb (mk_sub6 (List.mem_of_getElem? (i := 9) rfl) rfl)⟩
set_option maxRecDepth 100000 in
theorem mk_F99 : ∃ q, mt_cl[3]? = some q ∧ Jvm.Cond.fieldLink (mk_nm 3) 56 (q.2.1 4).1 (q.2.1 4).2.1 (q.2.1 4).2.2.1 ∈ ms_tb := ⟨_, rfl, mk_tb (mk_sub6 (List.mem_of_getElem? (i := 10) rfl) rfl)⟩
set_option maxRecDepth 100000 in
theorem mk_F100 : ∃ q, mt_cl[10]? = some q ∧ Jvm.Cond.fieldLink (mk_nm 3) 92 (q.2.1 1).1 (q.2.1 1).2.1 (q.2.1 1).2.2.1 ∈ ms_tb := ⟨_, rfl, mk_tb (mk_sub1 (List.mem_of_getElem? (i := 64) rfl) rfl)⟩
set_option maxRecDepth 100000 in
theorem mk_F101 : ∃ q, mt_cl[3]? = some q ∧ Jvm.Cond.fieldLink (mk_nm 3) 95 (q.2.1 5).1 (q.2.1 5).2.1 (q.2.1 5).2.2.1 ∈ ms_tb := ⟨_, rfl, mk_tb (mk_sub6 (List.mem_of_getElem? (i := 11) rfl) rfl)⟩
set_option maxRecDepth 100000 in
theorem mk_F102 : ∃ q, mt_cl[10]? = some q ∧ Jvm.Cond.fieldLink (mk_nm 3) 98 (q.2.1 4).1 (q.2.1 4).2.1 (q.2.1 4).2.2.1 ∈ ms_tb := ⟨_, rfl, mk_tb (mk_sub1 (List.mem_of_getElem? (i := 70) rfl) rfl)⟩
set_option maxRecDepth 100000 in
theorem mk_F103 : ∃ q, mt_cl[10]? = some q ∧ Jvm.Cond.fieldLink (mk_nm 3) 101 (q.2.1 2).1 (q.2.1 2).2.1 (q.2.1 2).2.2.1 ∈ ms_tb := ⟨_, rfl, mk_tb (mk_sub1 (List.mem_of_getElem? (i := 66) rfl) rfl)⟩
set_option maxRecDepth 100000 in
theorem mk_F104 : ∃ q, mt_cl[3]? = some q ∧ Jvm.Cond.fieldLink (mk_nm 3) 114 (q.2.1 6).1 (q.2.1 6).2.1 (q.2.1 6).2.2.1 ∈ ms_tb := ⟨_, rfl, mk_tb (mk_sub6 (List.mem_of_getElem? (i := 12) rfl) rfl)⟩
set_option maxRecDepth 100000 in
theorem mk_F105 : ∃ q, mt_cl[3]? = some q ∧ Jvm.Cond.fieldLink (mk_nm 3) 117 (q.2.1 8).1 (q.2.1 8).2.1 (q.2.1 8).2.2.1 ∈ ms_tb := ⟨_, rfl, mk_tb (mk_sub6 (List.mem_of_getElem? (i := 14) rfl) rfl)⟩
set_option maxRecDepth 100000 in
theorem mk_F106 : ∃ q, mt_cl[9]? = some q ∧ Jvm.Cond.fieldLink (mk_nm 3) 121 (q.2.1 5).1 (q.2.1 5).2.1 (q.2.1 5).2.2.1 ∈ ms_tb := ⟨_, rfl, mk_tb (mk_sub1 (List.mem_of_getElem? (i := 190) rfl) rfl)⟩
set_option maxRecDepth 100000 in
theorem mk_F107 : ∃ q, mt_cl[9]? = some q ∧ Jvm.Cond.fieldLink (mk_nm 3) 129 (q.2.1 6).1 (q.2.1 6).2.1 (q.2.1 6).2.2.1 ∈ ms_tb := ⟨_, rfl, mk_tb (mk_sub1 (List.mem_of_getElem? (i := 193) rfl) rfl)⟩
set_option maxRecDepth 100000 in
theorem mk_F108 : ∃ q, mt_cl[6]? = some q ∧ Jvm.Cond.fieldLink (mk_nm 3) 159 (q.2.1 7).1 (q.2.1 7).2.1 (q.2.1 7).2.2.1 ∈ ms_tb := ⟨_, rfl, mk_tb (mk_sub5 (List.mem_of_getElem? (i := 223) rfl) rfl)⟩
set_option maxRecDepth 100000 in
theorem mk_F109 : ∃ q, mt_cl[6]? = some q ∧ Jvm.Cond.fieldLink (mk_nm 3) 162 (q.2.1 8).1 (q.2.1 8).2.1 (q.2.1 8).2.2.1 ∈ ms_tb := ⟨_, rfl, mk_tb (mk_sub5 (List.mem_of_getElem? (i := 225) rfl) rfl)⟩
set_option maxRecDepth 100000 in
theorem mk_F110 : ∃ q, mt_cl[3]? = some q ∧ Jvm.Cond.fieldLink (mk_nm 3) 181 (q.2.1 10).1 (q.2.1 10).2.1 (q.2.1 10).2.2.1 ∈ ms_tb := ⟨_, rfl, mk_tb (mk_sub6 (List.mem_of_getElem? (i := 16) rfl) rfl)⟩
set_option maxRecDepth 100000 in
theorem mk_F111 : ∃ q, mt_cl[9]? = some q ∧ Jvm.Cond.fieldLink (mk_nm 3) 184 (q.2.1 1).1 (q.2.1 1).2.1 (q.2.1 1).2.2.1 ∈ ms_tb := ⟨_, rfl, mk_tb (mk_sub1 (List.mem_of_getElem? (i := 180) rfl) rfl)⟩
set_option maxRecDepth 100000 in
theorem mk_F112 : ∃ q, mt_cl[9]? = some q ∧ Jvm.Cond.fieldLink (mk_nm 3) 197 (q.2.1 8).1 (q.2.1 8).2.1 (q.2.1 8).2.2.1 ∈ ms_tb := ⟨_, rfl, mk_tb (mk_sub1 (List.mem_of_getElem? (i := 202) rfl) rfl)⟩
set_option maxRecDepth 100000 in
theorem mk_F113 : ∃ q, mt_cl[9]? = some q ∧ Jvm.Cond.fieldLink (mk_nm 3) 209 (q.2.1 9).1 (q.2.1 9).2.1 (q.2.1 9).2.2.1 ∈ ms_tb := ⟨_, rfl, mk_tb (mk_sub1 (List.mem_of_getElem? (i := 206) rfl) rfl)⟩
set_option maxRecDepth 100000 in
theorem mk_F114 : ∃ q, mt_cl[3]? = some q ∧ Jvm.Cond.fieldLink (mk_nm 3) 212 (q.2.1 12).1 (q.2.1 12).2.1 (q.2.1 12).2.2.1 ∈ ms_tb := ⟨_, rfl, mk_tb (mk_sub6 (List.mem_of_getElem? (i := 18) rfl) rfl)⟩
set_option maxRecDepth 100000 in
theorem mk_F115 : ∃ q, mt_cl[9]? = some q ∧ Jvm.Cond.fieldLink (mk_nm 3) 218 (q.2.1 14).1 (q.2.1 14).2.1 (q.2.1 14).2.2.1 ∈ ms_tb := ⟨_, rfl, mk_tb (mk_sub1 (List.mem_of_getElem? (i := 221) rfl) rfl)⟩
set_option maxRecDepth 100000 in
theorem mk_F116 : ∃ q, mt_cl[3]? = some q ∧ Jvm.Cond.fieldLink (mk_nm 3) 224 (q.2.1 13).1 (q.2.1 13).2.1 (q.2.1 13).2.2.1 ∈ ms_tb := ⟨_, rfl, mk_tb (mk_sub6 (List.mem_of_getElem? (i := 19) rfl) rfl)⟩
set_option maxRecDepth 100000 in
theorem mk_F117 : ∃ q, mt_cl[7]? = some q ∧ Jvm.Cond.fieldLink (mk_nm 3) 228 (q.2.1 15).1 (q.2.1 15).2.1 (q.2.1 15).2.2.1 ∈ ms_tb := ⟨_, rfl, mk_tb (mk_sub1 (List.mem_of_getElem? (i := 128) rfl) rfl)⟩
set_option maxRecDepth 100000 in
theorem mk_F118 : ∃ q, mt_cl[9]? = some q ∧ Jvm.Cond.fieldLink (mk_nm 3) 244 (q.2.1 7).1 (q.2.1 7).2.1 (q.2.1 7).2.2.1 ∈ ms_tb := ⟨_, rfl, mk_tb (mk_sub1 (List.mem_of_getElem? (i := 197) rfl) rfl)⟩
set_option maxRecDepth 100000 in
theorem mk_F119 : ∃ q, mt_cl[9]? = some q ∧ Jvm.Cond.fieldLink (mk_nm 3) 262 (q.2.1 11).1 (q.2.1 11).2.1 (q.2.1 11).2.2.1 ∈ ms_tb := ⟨_, rfl, mk_tb (mk_sub1 (List.mem_of_getElem? (i := 213) rfl) rfl)⟩
set_option maxRecDepth 100000 in
theorem mk_F120 : ∃ q, mt_cl[7]? = some q ∧ Jvm.Cond.fieldLink (mk_nm 3) 265 (q.2.1 11).1 (q.2.1 11).2.1 (q.2.1 11).2.2.1 ∈ ms_tb := ⟨_, rfl, mk_tb (mk_sub1 (List.mem_of_getElem? (i := 119) rfl) rfl)⟩
set_option maxRecDepth 100000 in
theorem mk_F121 : ∃ q, mt_cl[9]? = some q ∧ Jvm.Cond.fieldLink (mk_nm 3) 268 (q.2.1 13).1 (q.2.1 13).2.1 (q.2.1 13).2.2.1 ∈ ms_tb := ⟨_, rfl, mk_tb (mk_sub1 (List.mem_of_getElem? (i := 219) rfl) rfl)⟩
set_option maxRecDepth 100000 in
theorem mk_F122 : ∃ q, mt_cl[6]? = some q ∧ Jvm.Cond.fieldLink (mk_nm 3) 271 (q.2.1 6).1 (q.2.1 6).2.1 (q.2.1 6).2.2.1 ∈ ms_tb := ⟨_, rfl, mk_tb (mk_sub5 (List.mem_of_getElem? (i := 221) rfl) rfl)⟩
set_option maxRecDepth 100000 in
theorem mk_F123 : ∃ q, mt_cl[9]? = some q ∧ Jvm.Cond.fieldLink (mk_nm 3) 277 (q.2.1 2).1 (q.2.1 2).2.1 (q.2.1 2).2.2.1 ∈ ms_tb := ⟨_, rfl, mk_tb (mk_sub1 (List.mem_of_getElem? (i := 185) rfl) rfl)⟩
set_option maxRecDepth 100000 in
theorem mk_F124 : ∃ q, mt_cl[7]? = some q ∧ Jvm.Cond.fieldLink (mk_nm 3) 280 (q.2.1 12).1 (q.2.1 12).2.1 (q.2.1 12).2.2.1 ∈ ms_tb := ⟨_, rfl, mk_tb (mk_sub1 (List.mem_of_getElem? (i := 122) rfl) rfl)⟩
set_option maxRecDepth 100000 in
theorem mk_F125 : ∃ q, mt_cl[7]? = some q ∧ Jvm.Cond.fieldLink (mk_nm 3) 284 (q.2.1 13).1 (q.2.1 13).2.1 (q.2.1 13).2.2.1 ∈ ms_tb := ⟨_, rfl, mk_tb (mk_sub1 (List.mem_of_getElem? (i := 124) rfl) rfl)⟩
set_option maxRecDepth 100000 in
theorem mk_F126 : ∃ q, mt_cl[9]? = some q ∧ Jvm.Cond.fieldLink (mk_nm 3) 285 (q.2.1 15).1 (q.2.1 15).2.1 (q.2.1 15).2.2.1 ∈ ms_tb := ⟨_, rfl, mk_tb (mk_sub1 (List.mem_of_getElem? (i := 223) rfl) rfl)⟩
set_option maxRecDepth 100000 in
theorem mk_F127 : ∃ q, mt_cl[9]? = some q ∧ Jvm.Cond.fieldLink (mk_nm 3) 288 (q.2.1 16).1 (q.2.1 16).2.1 (q.2.1 16).2.2.1 ∈ ms_tb := ⟨_, rfl, mk_tb (mk_sub1 (List.mem_of_getElem? (i := 225) rfl) rfl)⟩
set_option maxRecDepth 100000 in
theorem mk_F128 : ∃ q, mt_cl[7]? = some q ∧ Jvm.Cond.fieldLink (mk_nm 3) 294 (q.2.1 5).1 (q.2.1 5).2.1 (q.2.1 5).2.2.1 ∈ ms_tb := ⟨_, rfl, mk_tb (mk_sub1 (List.mem_of_getElem? (i := 104) rfl) rfl)⟩
set_option maxRecDepth 100000 in
theorem mk_F129 : ∃ q, mt_cl[3]? = some q ∧ Jvm.Cond.fieldLink (mk_nm 3) 330 (q.2.1 11).1 (q.2.1 11).2.1 (q.2.1 11).2.2.1 ∈ ms_tb := ⟨_, rfl, mk_tb (mk_sub6 (List.mem_of_getElem? (i := 17) rfl) rfl)⟩
set_option maxRecDepth 100000 in
theorem mk_F130 : ∃ q, mt_cl[7]? = some q ∧ Jvm.Cond.fieldLink (mk_nm 3) 333 (q.2.1 8).1 (q.2.1 8).2.1 (q.2.1 8).2.2.1 ∈ ms_tb := ⟨_, rfl, mk_tb (mk_sub1 (List.mem_of_getElem? (i := 111) rfl) rfl)⟩
set_option maxRecDepth 100000 in
theorem mk_F131 : ∃ q, mt_cl[4]? = some q ∧ Jvm.Cond.fieldLink (mk_nm 4) 14 (q.2.1 0).1 (q.2.1 0).2.1 (q.2.1 0).2.2.1 ∈ ms_tb := ⟨_, rfl, mk_tb (mk_sub2 (List.mem_of_getElem? (i := 22) rfl) rfl)⟩
set_option maxRecDepth 100000 in
theorem mk_F132 : ∃ q, mt_cl[4]? = some q ∧ Jvm.Cond.fieldLink (mk_nm 4) 25 (q.2.1 1).1 (q.2.1 1).2.1 (q.2.1 1).2.2.1 ∈ ms_tb := ⟨_, rfl, mk_tb (mk_sub2 (List.mem_of_getElem? (i := 24) rfl) rfl)⟩
set_option maxRecDepth 100000 in
theorem mk_F133 : ∃ q, mt_cl[4]? = some q ∧ Jvm.Cond.fieldLink (mk_nm 4) 31 (q.2.1 3).1 (q.2.1 3).2.1 (q.2.1 3).2.2.1 ∈ ms_tb := ⟨_, rfl, mk_tb (mk_sub2 (List.mem_of_getElem? (i := 32) rfl) rfl)⟩
set_option maxRecDepth 100000 in
theorem mk_F134 : ∃ q, mt_cl[4]? = some q ∧ Jvm.Cond.fieldLink (mk_nm 4) 35 (q.2.1 4).1 (q.2.1 4).2.1 (q.2.1 4).2.2.1 ∈ ms_tb := ⟨_, rfl, mk_tb (mk_sub2 (List.mem_of_getElem? (i := 37) rfl) rfl)⟩
set_option maxRecDepth 100000 in
theorem mk_F135 : ∃ q, mt_cl[4]? = some q ∧ Jvm.Cond.fieldLink (mk_nm 4) 39 (q.2.1 5).1 (q.2.1 5).2.1 (q.2.1 5).2.2.1 ∈ ms_tb := ⟨_, rfl, mk_tb (mk_sub2 (List.mem_of_getElem? (i := 41) rfl) rfl)⟩
set_option maxRecDepth 100000 in
theorem mk_F136 : ∃ q, mt_cl[4]? = some q ∧ Jvm.Cond.fieldLink (mk_nm 4) 42 (q.2.1 6).1 (q.2.1 6).2.1 (q.2.1 6).2.2.1 ∈ ms_tb := ⟨_, rfl, mk_tb (mk_sub2 (List.mem_of_getElem? (i := 45) rfl) rfl)⟩
set_option maxRecDepth 100000 in
theorem mk_F137 : ∃ q, mt_cl[4]? = some q ∧ Jvm.Cond.fieldLink (mk_nm 4) 45 (q.2.1 7).1 (q.2.1 7).2.1 (q.2.1 7).2.2.1 ∈ ms_tb := ⟨_, rfl, mk_tb (mk_sub2 (List.mem_of_getElem? (i := 46) rfl) rfl)⟩
set_option maxRecDepth 100000 in
theorem mk_F138 : ∃ q, mt_cl[4]? = some q ∧ Jvm.Cond.fieldLink (mk_nm 4) 48 (q.2.1 8).1 (q.2.1 8).2.1 (q.2.1 8).2.2.1 ∈ ms_tb := ⟨_, rfl, mk_tb (mk_sub2 (List.mem_of_getElem? (i := 47) rfl) rfl)⟩
set_option maxRecDepth 100000 in
theorem mk_F139 : ∃ q, mt_cl[4]? = some q ∧ Jvm.Cond.fieldLink (mk_nm 4) 51 (q.2.1 9).1 (q.2.1 9).2.1 (q.2.1 9).2.2.1 ∈ ms_tb := ⟨_, rfl, mk_tb (mk_sub2 (List.mem_of_getElem? (i := 49) rfl) rfl)⟩
set_option maxRecDepth 100000 in
theorem mk_F140 : ∃ q, mt_cl[4]? = some q ∧ Jvm.Cond.fieldLink (mk_nm 4) 54 (q.2.1 10).1 (q.2.1 10).2.1 (q.2.1 10).2.2.1 ∈ ms_tb := ⟨_, rfl, mk_tb (mk_sub2 (List.mem_of_getElem? (i := 51) rfl) rfl)⟩
set_option maxRecDepth 100000 in
theorem mk_F141 : ∃ q, mt_cl[4]? = some q ∧ Jvm.Cond.fieldLink (mk_nm 4) 57 (q.2.1 11).1 (q.2.1 11).2.1 (q.2.1 11).2.2.1 ∈ ms_tb := ⟨_, rfl, mk_tb (mk_sub2 (List.mem_of_getElem? (i := 54) rfl) rfl)⟩
set_option maxRecDepth 100000 in
theorem mk_F142 : ∃ q, mt_cl[4]? = some q ∧ Jvm.Cond.fieldLink (mk_nm 4) 60 (q.2.1 12).1 (q.2.1 12).2.1 (q.2.1 12).2.2.1 ∈ ms_tb := ⟨_, rfl, mk_tb (mk_sub2 (List.mem_of_getElem? (i := 57) rfl) rfl)⟩
set_option maxRecDepth 100000 in
theorem mk_F143 : ∃ q, mt_cl[4]? = some q ∧ Jvm.Cond.fieldLink (mk_nm 4) 63 (q.2.1 13).1 (q.2.1 13).2.1 (q.2.1 13).2.2.1 ∈ ms_tb := ⟨_, rfl, mk_tb (mk_sub2 (List.mem_of_getElem? (i := 58) rfl) rfl)⟩
set_option maxRecDepth 100000 in
theorem mk_F144 : ∃ q, mt_cl[4]? = some q ∧ Jvm.Cond.fieldLink (mk_nm 4) 66 (q.2.1 14).1 (q.2.1 14).2.1 (q.2.1 14).2.2.1 ∈ ms_tb := ⟨_, rfl, mk_tb (mk_sub2 (List.mem_of_getElem? (i := 59) rfl) rfl)⟩
set_option maxRecDepth 100000 in
theorem mk_F145 : ∃ q, mt_cl[4]? = some q ∧ Jvm.Cond.fieldLink (mk_nm 4) 69 (q.2.1 15).1 (q.2.1 15).2.1 (q.2.1 15).2.2.1 ∈ ms_tb := ⟨_, rfl, mk_tb (mk_sub2 (List.mem_of_getElem? (i := 60) rfl) rfl)⟩
set_option maxRecDepth 100000 in
theorem mk_F146 : ∃ q, mt_cl[4]? = some q ∧ Jvm.Cond.fieldLink (mk_nm 4) 79 (q.2.1 2).1 (q.2.1 2).2.1 (q.2.1 2).2.2.1 ∈ ms_tb := ⟨_, rfl, mk_tb (mk_sub2 (List.mem_of_getElem? (i := 28) rfl) rfl)⟩
set_option maxRecDepth 100000 in
theorem mk_F147 : ∃ q, mt_cl[9]? = some q ∧ Jvm.Cond.fieldLink (mk_nm 4) 83 (q.2.1 3).1 (q.2.1 3).2.1 (q.2.1 3).2.2.1 ∈ ms_tb := ⟨_, rfl, mk_tb (mk_sub1 (List.mem_of_getElem? (i := 187) rfl) rfl)⟩
set_option maxRecDepth 100000 in
theorem mk_F148 : ∃ q, mt_cl[9]? = some q ∧ Jvm.Cond.fieldLink (mk_nm 4) 86 (q.2.1 4).1 (q.2.1 4).2.1 (q.2.1 4).2.2.1 ∈ ms_tb := ⟨_, rfl, mk_tb (mk_sub1 (List.mem_of_getElem? (i := 189) rfl) rfl)⟩
set_option maxRecDepth 100000 in
theorem mk_F149 : ∃ q, mt_cl[9]? = some q ∧ Jvm.Cond.fieldLink (mk_nm 4) 89 (q.2.1 8).1 (q.2.1 8).2.1 (q.2.1 8).2.2.1 ∈ ms_tb := ⟨_, rfl, mk_tb (mk_sub1 (List.mem_of_getElem? (i := 201) rfl) rfl)⟩
set_option maxRecDepth 100000 in
theorem mk_F150 : ∃ q, mt_cl[4]? = some q ∧ Jvm.Cond.fieldLink (mk_nm 4) 92 (q.2.1 16).1 (q.2.1 16).2.1 (q.2.1 16).2.2.1 ∈ ms_tb := ⟨_, rfl, mk_tb (mk_sub2 (List.mem_of_getElem? (i := 61) rfl) rfl)⟩
set_option maxRecDepth 100000 in
theorem mk_F151 : ∃ q, mt_cl[4]? = some q ∧ Jvm.Cond.fieldLink (mk_nm 4) 95 (q.2.1 17).1 (q.2.1 17).2.1 (q.2.1 17).2.2.1 ∈ ms_tb := ⟨_, rfl, mk_tb (mk_sub2 (List.mem_of_getElem? (i := 62) rfl) rfl)⟩
set_option maxRecDepth 100000 in
theorem mk_F152 : ∃ q, mt_cl[4]? = some q ∧ Jvm.Cond.fieldLink (mk_nm 4) 98 (q.2.1 18).1 (q.2.1 18).2.1 (q.2.1 18).2.2.1 ∈ ms_tb := ⟨_, rfl, mk_tb (mk_sub2 (List.mem_of_getElem? (i := 64) rfl) rfl)⟩
set_option maxRecDepth 100000 in
theorem mk_F153 : ∃ q, mt_cl[7]? = some q ∧ Jvm.Cond.fieldLink (mk_nm 4) 101 (q.2.1 15).1 (q.2.1 15).2.1 (q.2.1 15).2.2.1 ∈ ms_tb := ⟨_, rfl, mk_tb (mk_sub1 (List.mem_of_getElem? (i := 126) rfl) rfl)⟩
set_option maxRecDepth 100000 in
theorem mk_F154 : ∃ q, mt_cl[10]? = some q ∧ Jvm.Cond.fieldLink (mk_nm 4) 108 (q.2.1 2).1 (q.2.1 2).2.1 (q.2.1 2).2.2.1 ∈ ms_tb := ⟨_, rfl, mk_tb (mk_sub1 (List.mem_of_getElem? (i := 67) rfl) rfl)⟩
set_option maxRecDepth 100000 in
theorem mk_F155 : ∃ q, mt_cl[7]? = some q ∧ Jvm.Cond.fieldLink (mk_nm 4) 120 (q.2.1 12).1 (q.2.1 12).2.1 (q.2.1 12).2.2.1 ∈ ms_tb := ⟨_, rfl, mk_tb (mk_sub1 (List.mem_of_getElem? (i := 121) rfl) rfl)⟩
set_option maxRecDepth 100000 in
theorem mk_F156 : ∃ q, mt_cl[4]? = some q ∧ Jvm.Cond.fieldLink (mk_nm 4) 134 (q.2.1 19).1 (q.2.1 19).2.1 (q.2.1 19).2.2.1 ∈ ms_tb := ⟨_, rfl, mk_tb (mk_sub2 (List.mem_of_getElem? (i := 66) rfl) rfl)⟩
set_option maxRecDepth 100000 in
theorem mk_F157 : ∃ q, mt_cl[9]? = some q ∧ Jvm.Cond.fieldLink (mk_nm 4) 137 (q.2.1 0).1 (q.2.1 0).2.1 (q.2.1 0).2.2.1 ∈ ms_tb := ⟨_, rfl, mk_tb (mk_sub1 (List.mem_of_getElem? (i := 177) rfl) rfl)⟩
set_option maxRecDepth 100000 in
theorem mk_F158 : ∃ q, mt_cl[9]? = some q ∧ Jvm.Cond.fieldLink (mk_nm 4) 140 (q.2.1 14).1 (q.2.1 14).2.1 (q.2.1 14).2.2.1 ∈ ms_tb := ⟨_, rfl, mk_tb (mk_sub1 (List.mem_of_getElem? (i := 220) rfl) rfl)⟩
set_option maxRecDepth 100000 in
theorem mk_F159 : ∃ q, mt_cl[9]? = some q ∧ Jvm.Cond.fieldLink (mk_nm 4) 143 (q.2.1 15).1 (q.2.1 15).2.1 (q.2.1 15).2.2.1 ∈ ms_tb := ⟨_, rfl, mk_tb (mk_sub1 (List.mem_of_getElem? (i := 222) rfl) rfl)⟩
set_option maxRecDepth 100000 in
theorem mk_F160 : ∃ q, mt_cl[9]? = some q ∧ Jvm.Cond.fieldLink (mk_nm 4) 145 (q.2.1 16).1 (q.2.1 16).2.1 (q.2.1 16).2.2.1 ∈ ms_tb := ⟨_, rfl, mk_tb (mk_sub1 (List.mem_of_getElem? (i := 224) rfl) rfl)⟩
set_option maxRecDepth 100000 in
theorem mk_F161 : ∃ q, mt_cl[9]? = some q ∧ Jvm.Cond.fieldLink (mk_nm 4) 147 (q.2.1 1).1 (q.2.1 1).2.1 (q.2.1 1).2.2.1 ∈ ms_tb := ⟨_, rfl, mk_tb (mk_sub1 (List.mem_of_getElem? (i := 179) rfl) rfl)⟩
set_option maxRecDepth 100000 in
theorem mk_F162 : ∃ q, mt_cl[9]? = some q ∧ Jvm.Cond.fieldLink (mk_nm 4) 167 (q.2.1 2).1 (q.2.1 2).2.1 (q.2.1 2).2.2.1 ∈ ms_tb := ⟨_, rfl, mk_tb (mk_sub1 (List.mem_of_getElem? (i := 183) rfl) rfl)⟩
set_option maxRecDepth 100000 in
theorem mk_F163 : ∃ q, mt_cl[9]? = some q ∧ Jvm.Cond.fieldLink (mk_nm 4) 170 (q.2.1 5).1 (q.2.1 5).2.1 (q.2.1 5).2.2.1 ∈ ms_tb := ⟨_, rfl, mk_tb (mk_sub1 (List.mem_of_getElem? (i := 191) rfl) rfl)⟩
set_option maxRecDepth 100000 in
theorem mk_F164 : ∃ q, mt_cl[9]? = some q ∧ Jvm.Cond.fieldLink (mk_nm 4) 171 (q.2.1 6).1 (q.2.1 6).2.1 (q.2.1 6).2.2.1 ∈ ms_tb := ⟨_, rfl, mk_tb (mk_sub1 (List.mem_of_getElem? (i := 194) rfl) rfl)⟩
set_option maxRecDepth 100000 in
theorem mk_F165 : ∃ q, mt_cl[9]? = some q ∧ Jvm.Cond.fieldLink (mk_nm 4) 172 (q.2.1 9).1 (q.2.1 9).2.1 (q.2.1 9).2.2.1 ∈ ms_tb := ⟨_, rfl, mk_tb (mk_sub1 (List.mem_of_getElem? (i := 205) rfl) rfl)⟩
set_option maxRecDepth 100000 in
theorem mk_F166 : ∃ q, mt_cl[9]? = some q ∧ Jvm.Cond.fieldLink (mk_nm 4) 181 (q.2.1 7).1 (q.2.1 7).2.1 (q.2.1 7).2.2.1 ∈ ms_tb := ⟨_, rfl, mk_tb (mk_sub1 (List.mem_of_getElem? (i := 196) rfl) rfl)⟩
set_option maxRecDepth 100000 in
theorem mk_F167 : ∃ q, mt_cl[9]? = some q ∧ Jvm.Cond.fieldLink (mk_nm 4) 184 (q.2.1 11).1 (q.2.1 11).2.1 (q.2.1 11).2.2.1 ∈ ms_tb := ⟨_, rfl, mk_tb (mk_sub1 (List.mem_of_getElem? (i := 212) rfl) rfl)⟩
set_option maxRecDepth 100000 in
theorem mk_F168 : ∃ q, mt_cl[5]? = some q ∧ Jvm.Cond.fieldLink (mk_nm 5) 9 (q.2.1 5).1 (q.2.1 5).2.1 (q.2.1 5).2.2.1 ∈ ms_tb := ⟨_, rfl, mk_tb (mk_sub2 (List.mem_of_getElem? (i := 126) rfl) rfl)⟩
set_option maxRecDepth 100000 in
theorem mk_F169 : ∃ q, mt_cl[5]? = some q ∧ Jvm.Cond.fieldLink (mk_nm 5) 15 (q.2.1 6).1 (q.2.1 6).2.1 (q.2.1 6).2.2.1 ∈ ms_tb := ⟨_, rfl, mk_tb (mk_sub2 (List.mem_of_getElem? (i := 128) rfl) rfl)⟩
set_option maxRecDepth 100000 in
theorem mk_F170 : ∃ q, mt_cl[5]? = some q ∧ Jvm.Cond.fieldLink (mk_nm 5) 18 (q.2.1 7).1 (q.2.1 7).2.1 (q.2.1 7).2.2.1 ∈ ms_tb := ⟨_, rfl, mk_tb (mk_sub2 (List.mem_of_getElem? (i := 130) rfl) rfl)⟩
set_option maxRecDepth 100000 in
theorem mk_F171 : ∃ q, mt_cl[5]? = some q ∧ Jvm.Cond.fieldLink (mk_nm 5) 22 (q.2.1 9).1 (q.2.1 9).2.1 (q.2.1 9).2.2.1 ∈ ms_tb := ⟨_, rfl, mk_tb (mk_sub2 (List.mem_of_getElem? (i := 132) rfl) rfl)⟩
set_option maxRecDepth 100000 in
theorem mk_F172 : ∃ q, mt_cl[5]? = some q ∧ Jvm.Cond.fieldLink (mk_nm 5) 25 (q.2.1 10).1 (q.2.1 10).2.1 (q.2.1 10).2.2.1 ∈ ms_tb := ⟨_, rfl, mk_tb (mk_sub2 (List.mem_of_getElem? (i := 133) rfl) rfl)⟩
set_option maxRecDepth 100000 in
theorem mk_F173 : ∃ q, mt_cl[5]? = some q ∧ Jvm.Cond.fieldLink (mk_nm 5) 28 (q.2.1 11).1 (q.2.1 11).2.1 (q.2.1 11).2.2.1 ∈ ms_tb := ⟨_, rfl, mk_tb (mk_sub2 (List.mem_of_getElem? (i := 134) rfl) rfl)⟩
set_option maxRecDepth 100000 in
theorem mk_F174 : ∃ q, mt_cl[4]? = some q ∧ Jvm.Cond.fieldLink (mk_nm 5) 31 (q.2.1 1).1 (q.2.1 1).2.1 (q.2.1 1).2.2.1 ∈ ms_tb := ⟨_, rfl, mk_tb (mk_sub2 (List.mem_of_getElem? (i := 25) rfl) rfl)⟩
set_option maxRecDepth 100000 in
theorem mk_F175 : ∃ q, mt_cl[5]? = some q ∧ Jvm.Cond.fieldLink (mk_nm 5) 37 (q.2.1 0).1 (q.2.1 0).2.1 (q.2.1 0).2.2.1 ∈ ms_tb := ⟨_, rfl, mk_tb (mk_sub2 (List.mem_of_getElem? (i := 120) rfl) rfl)⟩
set_option maxRecDepth 100000 in
theorem mk_F176 : ∃ q, mt_cl[4]? = some q ∧ Jvm.Cond.fieldLink (mk_nm 5) 38 (q.2.1 4).1 (q.2.1 4).2.1 (q.2.1 4).2.2.1 ∈ ms_tb := ⟨_, rfl, mk_tb (mk_sub2 (List.mem_of_getElem? (i := 38) rfl) rfl)⟩
set_option maxRecDepth 100000 in
theorem mk_F177 : ∃ q, mt_cl[5]? = some q ∧ Jvm.Cond.fieldLink (mk_nm 5) 41 (q.2.1 2).1 (q.2.1 2).2.1 (q.2.1 2).2.2.1 ∈ ms_tb := ⟨_, rfl, mk_tb (mk_sub2 (List.mem_of_getElem? (i := 122) rfl) rfl)⟩
set_option maxRecDepth 100000 in
theorem mk_F178 : ∃ q, mt_cl[4]? = some q ∧ Jvm.Cond.fieldLink (mk_nm 5) 44 (q.2.1 5).1 (q.2.1 5).2.1 (q.2.1 5).2.2.1 ∈ ms_tb := ⟨_, rfl, mk_tb (mk_sub2 (List.mem_of_getElem? (i := 42) rfl) rfl)⟩
set_option maxRecDepth 100000 in
theorem mk_F179 : ∃ q, mt_cl[5]? = some q ∧ Jvm.Cond.fieldLink (mk_nm 5) 47 (q.2.1 3).1 (q.2.1 3).2.1 (q.2.1 3).2.2.1 ∈ ms_tb := ⟨_, rfl, mk_tb (mk_sub2 (List.mem_of_getElem? (i := 123) rfl) rfl)⟩
set_option maxRecDepth 100000 in
theorem mk_F180 : ∃ q, mt_cl[5]? = some q ∧ Jvm.Cond.fieldLink (mk_nm 5) 49 (q.2.1 1).1 (q.2.1 1).2.1 (q.2.1 1).2.2.1 ∈ ms_tb := ⟨_, rfl, mk_tb (mk_sub2 (List.mem_of_getElem? (i := 121) rfl) rfl)⟩
set_option maxRecDepth 100000 in
theorem mk_F181 : ∃ q, mt_cl[5]? = some q ∧ Jvm.Cond.fieldLink (mk_nm 5) 53 (q.2.1 4).1 (q.2.1 4).2.1 (q.2.1 4).2.2.1 ∈ ms_tb := ⟨_, rfl, mk_tb (mk_sub2 (List.mem_of_getElem? (i := 124) rfl) rfl)⟩
set_option maxRecDepth 100000 in
theorem mk_F182 : ∃ q, mt_cl[7]? = some q ∧ Jvm.Cond.fieldLink (mk_nm 5) 56 (q.2.1 5).1 (q.2.1 5).2.1 (q.2.1 5).2.2.1 ∈ ms_tb := ⟨_, rfl, mk_tb (mk_sub1 (List.mem_of_getElem? (i := 102) rfl) rfl)⟩
set_option maxRecDepth 100000 in
theorem mk_F183 : ∃ q, mt_cl[5]? = some q ∧ Jvm.Cond.fieldLink (mk_nm 5) 61 (q.2.1 8).1 (q.2.1 8).2.1 (q.2.1 8).2.2.1 ∈ ms_tb := ⟨_, rfl, mk_tb (mk_sub2 (List.mem_of_getElem? (i := 131) rfl) rfl)⟩
set_option maxRecDepth 100000 in
theorem mk_F184 : ∃ q, mt_cl[7]? = some q ∧ Jvm.Cond.fieldLink (mk_nm 5) 64 (q.2.1 7).1 (q.2.1 7).2.1 (q.2.1 7).2.2.1 ∈ ms_tb := ⟨_, rfl, mk_tb (mk_sub1 (List.mem_of_getElem? (i := 109) rfl) rfl)⟩
set_option maxRecDepth 100000 in
theorem mk_F185 : ∃ q, mt_cl[7]? = some q ∧ Jvm.Cond.fieldLink (mk_nm 5) 67 (q.2.1 6).1 (q.2.1 6).2.1 (q.2.1 6).2.2.1 ∈ ms_tb := ⟨_, rfl, mk_tb (mk_sub1 (List.mem_of_getElem? (i := 106) rfl) rfl)⟩
set_option maxRecDepth 100000 in
theorem mk_F186 : ∃ q, mt_cl[7]? = some q ∧ Jvm.Cond.fieldLink (mk_nm 5) 70 (q.2.1 0).1 (q.2.1 0).2.1 (q.2.1 0).2.2.1 ∈ ms_tb := ⟨_, rfl, mk_tb (mk_sub1 (List.mem_of_getElem? (i := 93) rfl) rfl)⟩
set_option maxRecDepth 100000 in
theorem mk_F187 : ∃ q, mt_cl[7]? = some q ∧ Jvm.Cond.fieldLink (mk_nm 5) 97 (q.2.1 2).1 (q.2.1 2).2.1 (q.2.1 2).2.2.1 ∈ ms_tb := ⟨_, rfl, mk_tb (mk_sub1 (List.mem_of_getElem? (i := 97) rfl) rfl)⟩
set_option maxRecDepth 100000 in
theorem mk_F188 : ∃ q, mt_cl[8]? = some q ∧ Jvm.Cond.fieldLink (mk_nm 5) 114 (q.2.1 4).1 (q.2.1 4).2.1 (q.2.1 4).2.2.1 ∈ ms_tb := ⟨_, rfl, mk_tb (mk_sub2 (List.mem_of_getElem? (i := 203) rfl) rfl)⟩
set_option maxRecDepth 100000 in
theorem mk_F189 : ∃ q, mt_cl[5]? = some q ∧ Jvm.Cond.fieldLink (mk_nm 5) 145 (q.2.1 13).1 (q.2.1 13).2.1 (q.2.1 13).2.2.1 ∈ ms_tb := ⟨_, rfl, mk_tb (mk_sub2 (List.mem_of_getElem? (i := 137) rfl) rfl)⟩
set_option maxRecDepth 100000 in
theorem mk_F190 : ∃ q, mt_cl[5]? = some q ∧ Jvm.Cond.fieldLink (mk_nm 5) 148 (q.2.1 14).1 (q.2.1 14).2.1 (q.2.1 14).2.2.1 ∈ ms_tb := ⟨_, rfl, mk_tb (mk_sub2 (List.mem_of_getElem? (i := 138) rfl) rfl)⟩
set_option maxRecDepth 100000 in
theorem mk_F191 : ∃ q, mt_cl[5]? = some q ∧ Jvm.Cond.fieldLink (mk_nm 5) 152 (q.2.1 15).1 (q.2.1 15).2.1 (q.2.1 15).2.2.1 ∈ ms_tb := ⟨_, rfl, mk_tb (mk_sub2 (List.mem_of_getElem? (i := 139) rfl) rfl)⟩
set_option maxRecDepth 100000 in
theorem mk_F192 : ∃ q, mt_cl[5]? = some q ∧ Jvm.Cond.fieldLink (mk_nm 5) 155 (q.2.1 16).1 (q.2.1 16).2.1 (q.2.1 16).2.2.1 ∈ ms_tb := ⟨_, rfl, mk_tb (mk_sub2 (List.mem_of_getElem? (i := 140) rfl) rfl)⟩
set_option maxRecDepth 100000 in
theorem mk_F193 : ∃ q, mt_cl[7]? = some q ∧ Jvm.Cond.fieldLink (mk_nm 5) 158 (q.2.1 3).1 (q.2.1 3).2.1 (q.2.1 3).2.2.1 ∈ ms_tb := ⟨_, rfl, mk_tb (mk_sub1 (List.mem_of_getElem? (i := 99) rfl) rfl)⟩
set_option maxRecDepth 100000 in
theorem mk_F194 : ∃ q, mt_cl[7]? = some q ∧ Jvm.Cond.fieldLink (mk_nm 5) 161 (q.2.1 4).1 (q.2.1 4).2.1 (q.2.1 4).2.2.1 ∈ ms_tb := ⟨_, rfl, mk_tb (mk_sub1 (List.mem_of_getElem? (i := 101) rfl) rfl)⟩
set_option maxRecDepth 100000 in
theorem mk_F195 : ∃ q, mt_cl[5]? = some q ∧ Jvm.Cond.fieldLink (mk_nm 5) 164 (q.2.1 12).1 (q.2.1 12).2.1 (q.2.1 12).2.2.1 ∈ ms_tb := ⟨_, rfl, mk_tb (mk_sub2 (List.mem_of_getElem? (i := 136) rfl) rfl)⟩
set_option maxRecDepth 100000 in
theorem mk_F196 : ∃ q, mt_cl[5]? = some q ∧ Jvm.Cond.fieldLink (mk_nm 5) 170 (q.2.1 17).1 (q.2.1 17).2.1 (q.2.1 17).2.2.1 ∈ ms_tb := ⟨_, rfl, mk_tb (mk_sub2 (List.mem_of_getElem? (i := 142) rfl) rfl)⟩
set_option maxRecDepth 100000 in
theorem mk_F197 : ∃ q, mt_cl[5]? = some q ∧ Jvm.Cond.fieldLink (mk_nm 5) 173 (q.2.1 18).1 (q.2.1 18).2.1 (q.2.1 18).2.2.1 ∈ ms_tb := ⟨_, rfl, mk_tb (mk_sub2 (List.mem_of_getElem? (i := 144) rfl) rfl)⟩
set_option maxRecDepth 100000 in
theorem mk_F198 : ∃ q, mt_cl[6]? = some q ∧ Jvm.Cond.fieldLink (mk_nm 6) 9 (q.2.1 5).1 (q.2.1 5).2.1 (q.2.1 5).2.2.1 ∈ ms_tb := ⟨_, rfl, mk_tb (mk_sub5 (List.mem_of_getElem? (i := 219) rfl) rfl)⟩
set_option maxRecDepth 100000 in
theorem mk_F199 : ∃ q, mt_cl[6]? = some q ∧ Jvm.Cond.fieldLink (mk_nm 6) 15 (q.2.1 0).1 (q.2.1 0).2.1 (q.2.1 0).2.2.1 ∈ ms_tb := ⟨_, rfl, mk_tb (mk_sub5 (List.mem_of_getElem? (i := 214) rfl) rfl)⟩
set_option maxRecDepth 100000 in
theorem mk_F200 : ∃ q, mt_cl[10]? = some q ∧ Jvm.Cond.fieldLink (mk_nm 6) 19 (q.2.1 0).1 (q.2.1 0).2.1 (q.2.1 0).2.2.1 ∈ ms_tb := ⟨_, rfl, mk_tb (mk_sub1 (List.mem_of_getElem? (i := 61) rfl) rfl)⟩
set_option maxRecDepth 100000 in
theorem mk_F201 : ∃ q, mt_cl[6]? = some q ∧ Jvm.Cond.fieldLink (mk_nm 6) 25 (q.2.1 1).1 (q.2.1 1).2.1 (q.2.1 1).2.2.1 ∈ ms_tb := ⟨_, rfl, mk_tb (mk_sub5 (List.mem_of_getElem? (i := 215) rfl) rfl)⟩
set_option maxRecDepth 100000 in
theorem mk_F202 : ∃ q, mt_cl[6]? = some q ∧ Jvm.Cond.fieldLink (mk_nm 6) 28 (q.2.1 2).1 (q.2.1 2).2.1 (q.2.1 2).2.2.1 ∈ ms_tb := ⟨_, rfl, mk_tb (mk_sub5 (List.mem_of_getElem? (i := 216) rfl) rfl)⟩
set_option maxRecDepth 100000 in
theorem mk_F203 : ∃ q, mt_cl[6]? = some q ∧ Jvm.Cond.fieldLink (mk_nm 6) 31 (q.2.1 3).1 (q.2.1 3).2.1 (q.2.1 3).2.2.1 ∈ ms_tb := ⟨_, rfl, mk_tb (mk_sub5 (List.mem_of_getElem? (i := 217) rfl) rfl)⟩
set_option maxRecDepth 100000 in
theorem mk_F204 : ∃ q, mt_cl[6]? = some q ∧ Jvm.Cond.fieldLink (mk_nm 6) 34 (q.2.1 6).1 (q.2.1 6).2.1 (q.2.1 6).2.2.1 ∈ ms_tb := ⟨_, rfl, mk_tb (mk_sub5 (List.mem_of_getElem? (i := 220) rfl) rfl)⟩
set_option maxRecDepth 100000 in
theorem mk_F205 : ∃ q, mt_cl[6]? = some q ∧ Jvm.Cond.fieldLink (mk_nm 6) 38 (q.2.1 4).1 (q.2.1 4).2.1 (q.2.1 4).2.2.1 ∈ ms_tb := ⟨_, rfl, mk_tb (mk_sub5 (List.mem_of_getElem? (i := 218) rfl) rfl)⟩
set_option maxRecDepth 100000 in
theorem mk_F206 : ∃ q, mt_cl[6]? = some q ∧ Jvm.Cond.fieldLink (mk_nm 6) 41 (q.2.1 7).1 (q.2.1 7).2.1 (q.2.1 7).2.2.1 ∈ ms_tb := ⟨_, rfl, mk_tb (mk_sub5 (List.mem_of_getElem? (i := 222) rfl) rfl)⟩
set_option maxRecDepth 100000 in
theorem mk_F207 : ∃ q, mt_cl[6]? = some q ∧ Jvm.Cond.fieldLink (mk_nm 6) 44 (q.2.1 8).1 (q.2.1 8).2.1 (q.2.1 8).2.2.1 ∈ ms_tb := ⟨_, rfl, mk_tb (mk_sub5 (List.mem_of_getElem? (i := 224) rfl) rfl)⟩
set_option maxRecDepth 100000 in
theorem mk_F208 : ∃ q, mt_cl[7]? = some q ∧ Jvm.Cond.fieldLink (mk_nm 7) 9 (q.2.1 0).1 (q.2.1 0).2.1 (q.2.1 0).2.2.1 ∈ ms_tb := ⟨_, rfl, mk_tb (mk_sub1 (List.mem_of_getElem? (i := 92) rfl) rfl)⟩
set_option maxRecDepth 100000 in
theorem mk_F209 : ∃ q, mt_cl[7]? = some q ∧ Jvm.Cond.fieldLink (mk_nm 7) 15 (q.2.1 2).1 (q.2.1 2).2.1 (q.2.1 2).2.2.1 ∈ ms_tb := ⟨_, rfl, mk_tb (mk_sub1 (List.mem_of_getElem? (i := 96) rfl) rfl)⟩
set_option maxRecDepth 100000 in
theorem mk_F210 : ∃ q, mt_cl[7]? = some q ∧ Jvm.Cond.fieldLink (mk_nm 7) 18 (q.2.1 3).1 (q.2.1 3).2.1 (q.2.1 3).2.2.1 ∈ ms_tb := ⟨_, rfl, mk_tb (mk_sub1 (List.mem_of_getElem? (i := 98) rfl) rfl)⟩
set_option maxRecDepth 100000 in
theorem mk_F211 : ∃ q, mt_cl[7]? = some q ∧ Jvm.Cond.fieldLink (mk_nm 7) 21 (q.2.1 4).1 (q.2.1 4).2.1 (q.2.1 4).2.2.1 ∈ ms_tb := ⟨_, rfl, mk_tb (mk_sub1 (List.mem_of_getElem? (i := 100) rfl) rfl)⟩
set_option maxRecDepth 100000 in
theorem mk_F212 : ∃ q, mt_cl[7]? = some q ∧ Jvm.Cond.fieldLink (mk_nm 7) 24 (q.2.1 6).1 (q.2.1 6).2.1 (q.2.1 6).2.2.1 ∈ ms_tb := ⟨_, rfl, mk_tb (mk_sub1 (List.mem_of_getElem? (i := 105) rfl) rfl)⟩
set_option maxRecDepth 100000 in
theorem mk_F213 : ∃ q, mt_cl[7]? = some q ∧ Jvm.Cond.fieldLink (mk_nm 7) 27 (q.2.1 7).1 (q.2.1 7).2.1 (q.2.1 7).2.2.1 ∈ ms_tb := ⟨_, rfl, mk_tb (mk_sub1 (List.mem_of_getElem? (i := 108) rfl) rfl)⟩
set_option maxRecDepth 100000 in
theorem mk_F214 : ∃ q, mt_cl[7]? = some q ∧ Jvm.Cond.fieldLink (mk_nm 7) 30 (q.2.1 9).1 (q.2.1 9).2.1 (q.2.1 9).2.2.1 ∈ ms_tb := ⟨_, rfl, mk_tb (mk_sub1 (List.mem_of_getElem? (i := 112) rfl) rfl)⟩
set_option maxRecDepth 100000 in
theorem mk_F215 : ∃ q, mt_cl[7]? = some q ∧ Jvm.Cond.fieldLink (mk_nm 7) 33 (q.2.1 10).1 (q.2.1 10).2.1 (q.2.1 10).2.2.1 ∈ ms_tb := ⟨_, rfl, mk_tb (mk_sub1 (List.mem_of_getElem? (i := 115) rfl) rfl)⟩
set_option maxRecDepth 100000 in
theorem mk_F216 : ∃ q, mt_cl[7]? = some q ∧ Jvm.Cond.fieldLink (mk_nm 7) 38 (q.2.1 12).1 (q.2.1 12).2.1 (q.2.1 12).2.2.1 ∈ ms_tb := ⟨_, rfl, mk_tb (mk_sub1 (List.mem_of_getElem? (i := 120) rfl) rfl)⟩
set_option maxRecDepth 100000 in
theorem mk_F217 : ∃ q, mt_cl[7]? = some q ∧ Jvm.Cond.fieldLink (mk_nm 7) 42 (q.2.1 14).1 (q.2.1 14).2.1 (q.2.1 14).2.2.1 ∈ ms_tb := ⟨_, rfl, mk_tb (mk_sub1 (List.mem_of_getElem? (i := 125) rfl) rfl)⟩
set_option maxRecDepth 100000 in
theorem mk_F218 : ∃ q, mt_cl[7]? = some q ∧ Jvm.Cond.fieldLink (mk_nm 7) 45 (q.2.1 1).1 (q.2.1 1).2.1 (q.2.1 1).2.2.1 ∈ ms_tb := ⟨_, rfl, mk_tb (mk_sub1 (List.mem_of_getElem? (i := 95) rfl) rfl)⟩
set_option maxRecDepth 100000 in
theorem mk_F219 : ∃ q, mt_cl[7]? = some q ∧ Jvm.Cond.fieldLink (mk_nm 7) 49 (q.2.1 5).1 (q.2.1 5).2.1 (q.2.1 5).2.2.1 ∈ ms_tb := ⟨_, rfl, mk_tb (mk_sub1 (List.mem_of_getElem? (i := 103) rfl) rfl)⟩
set_option maxRecDepth 100000 in
theorem mk_F220 : ∃ q, mt_cl[7]? = some q ∧ Jvm.Cond.fieldLink (mk_nm 7) 56 (q.2.1 8).1 (q.2.1 8).2.1 (q.2.1 8).2.2.1 ∈ ms_tb := ⟨_, rfl, mk_tb (mk_sub1 (List.mem_of_getElem? (i := 110) rfl) rfl)⟩
set_option maxRecDepth 100000 in
theorem mk_F221 : ∃ q, mt_cl[7]? = some q ∧ Jvm.Cond.fieldLink (mk_nm 7) 59 (q.2.1 11).1 (q.2.1 11).2.1 (q.2.1 11).2.2.1 ∈ ms_tb := ⟨_, rfl, mk_tb (mk_sub1 (List.mem_of_getElem? (i := 118) rfl) rfl)⟩
set_option maxRecDepth 100000 in
theorem mk_F222 : ∃ q, mt_cl[7]? = some q ∧ Jvm.Cond.fieldLink (mk_nm 7) 68 (q.2.1 13).1 (q.2.1 13).2.1 (q.2.1 13).2.2.1 ∈ ms_tb := ⟨_, rfl, mk_tb (mk_sub1 (List.mem_of_getElem? (i := 123) rfl) rfl)⟩
set_option maxRecDepth 100000 in
theorem mk_F223 : ∃ q, mt_cl[9]? = some q ∧ Jvm.Cond.fieldLink (mk_nm 7) 74 (q.2.1 10).1 (q.2.1 10).2.1 (q.2.1 10).2.2.1 ∈ ms_tb := ⟨_, rfl, mk_tb (mk_sub1 (List.mem_of_getElem? (i := 209) rfl) rfl)⟩
set_option maxRecDepth 100000 in
theorem mk_F224 : ∃ q, mt_cl[9]? = some q ∧ Jvm.Cond.fieldLink (mk_nm 7) 77 (q.2.1 12).1 (q.2.1 12).2.1 (q.2.1 12).2.2.1 ∈ ms_tb := ⟨_, rfl, mk_tb (mk_sub1 (List.mem_of_getElem? (i := 215) rfl) rfl)⟩
set_option maxRecDepth 100000 in
theorem mk_F225 : ∃ q, mt_cl[7]? = some q ∧ Jvm.Cond.fieldLink (mk_nm 7) 80 (q.2.1 15).1 (q.2.1 15).2.1 (q.2.1 15).2.2.1 ∈ ms_tb := ⟨_, rfl, mk_tb (mk_sub1 (List.mem_of_getElem? (i := 127) rfl) rfl)⟩
set_option maxRecDepth 100000 in
theorem mk_F226 : ∃ q, mt_cl[9]? = some q ∧ Jvm.Cond.fieldLink (mk_nm 7) 86 (q.2.1 5).1 (q.2.1 5).2.1 (q.2.1 5).2.2.1 ∈ ms_tb := ⟨_, rfl, mk_tb (mk_sub1 (List.mem_of_getElem? (i := 192) rfl) rfl)⟩
set_option maxRecDepth 100000 in
theorem mk_F227 : ∃ q, mt_cl[9]? = some q ∧ Jvm.Cond.fieldLink (mk_nm 7) 89 (q.2.1 2).1 (q.2.1 2).2.1 (q.2.1 2).2.2.1 ∈ ms_tb := ⟨_, rfl, mk_tb (mk_sub1 (List.mem_of_getElem? (i := 184) rfl) rfl)⟩
set_option maxRecDepth 100000 in
theorem mk_F228 : ∃ q, mt_cl[9]? = some q ∧ Jvm.Cond.fieldLink (mk_nm 7) 92 (q.2.1 6).1 (q.2.1 6).2.1 (q.2.1 6).2.2.1 ∈ ms_tb := ⟨_, rfl, mk_tb (mk_sub1 (List.mem_of_getElem? (i := 195) rfl) rfl)⟩
set_option maxRecDepth 100000 in
theorem mk_F229 : ∃ q, mt_cl[8]? = some q ∧ Jvm.Cond.fieldLink (mk_nm 8) 11 (q.2.1 3).1 (q.2.1 3).2.1 (q.2.1 3).2.2.1 ∈ ms_tb := ⟨_, rfl, mk_tb (mk_sub2 (List.mem_of_getElem? (i := 200) rfl) rfl)⟩
set_option maxRecDepth 100000 in
theorem mk_F230 : ∃ q, mt_cl[8]? = some q ∧ Jvm.Cond.fieldLink (mk_nm 8) 15 (q.2.1 4).1 (q.2.1 4).2.1 (q.2.1 4).2.2.1 ∈ ms_tb := ⟨_, rfl, mk_tb (mk_sub2 (List.mem_of_getElem? (i := 201) rfl) rfl)⟩
set_option maxRecDepth 100000 in
theorem mk_F231 : ∃ q, mt_cl[8]? = some q ∧ Jvm.Cond.fieldLink (mk_nm 8) 26 (q.2.1 1).1 (q.2.1 1).2.1 (q.2.1 1).2.2.1 ∈ ms_tb := ⟨_, rfl, mk_tb (mk_sub2 (List.mem_of_getElem? (i := 196) rfl) rfl)⟩
set_option maxRecDepth 100000 in
theorem mk_F232 : ∃ q, mt_cl[8]? = some q ∧ Jvm.Cond.fieldLink (mk_nm 8) 30 (q.2.1 0).1 (q.2.1 0).2.1 (q.2.1 0).2.2.1 ∈ ms_tb := ⟨_, rfl, mk_tb (mk_sub2 (List.mem_of_getElem? (i := 193) rfl) rfl)⟩
set_option maxRecDepth 100000 in
theorem mk_F233 : ∃ q, mt_cl[8]? = some q ∧ Jvm.Cond.fieldLink (mk_nm 8) 34 (q.2.1 2).1 (q.2.1 2).2.1 (q.2.1 2).2.2.1 ∈ ms_tb := ⟨_, rfl, mk_tb (mk_sub2 (List.mem_of_getElem? (i := 198) rfl) rfl)⟩
set_option maxRecDepth 100000 in
theorem mk_F234 : ∃ q, mt_cl[8]? = some q ∧ Jvm.Cond.fieldLink (mk_nm 8) 37 (q.2.1 5).1 (q.2.1 5).2.1 (q.2.1 5).2.2.1 ∈ ms_tb := ⟨_, rfl, mk_tb (mk_sub2 (List.mem_of_getElem? (i := 205) rfl) rfl)⟩
set_option maxRecDepth 100000 in
theorem mk_F235 : ∃ q, mt_cl[9]? = some q ∧ Jvm.Cond.fieldLink (mk_nm 9) 9 (q.2.1 8).1 (q.2.1 8).2.1 (q.2.1 8).2.2.1 ∈ ms_tb := ⟨_, rfl, mk_tb (mk_sub1 (List.mem_of_getElem? (i := 198) rfl) rfl)⟩
set_option maxRecDepth 100000 in
theorem mk_F236 : ∃ q, mt_cl[9]? = some q ∧ Jvm.Cond.fieldLink (mk_nm 9) 15 (q.2.1 0).1 (q.2.1 0).2.1 (q.2.1 0).2.2.1 ∈ ms_tb := ⟨_, rfl, mk_tb (mk_sub1 (List.mem_of_getElem? (i := 172) rfl) rfl)⟩
set_option maxRecDepth 100000 in
theorem mk_F237 : ∃ q, mt_cl[9]? = some q ∧ Jvm.Cond.fieldLink (mk_nm 9) 18 (q.2.1 1).1 (q.2.1 1).2.1 (q.2.1 1).2.2.1 ∈ ms_tb := ⟨_, rfl, mk_tb (mk_sub1 (List.mem_of_getElem? (i := 178) rfl) rfl)⟩
set_option maxRecDepth 100000 in
theorem mk_F238 : ∃ q, mt_cl[9]? = some q ∧ Jvm.Cond.fieldLink (mk_nm 9) 21 (q.2.1 2).1 (q.2.1 2).2.1 (q.2.1 2).2.2.1 ∈ ms_tb := ⟨_, rfl, mk_tb (mk_sub1 (List.mem_of_getElem? (i := 181) rfl) rfl)⟩
set_option maxRecDepth 100000 in
theorem mk_F239 : ∃ q, mt_cl[9]? = some q ∧ Jvm.Cond.fieldLink (mk_nm 9) 24 (q.2.1 3).1 (q.2.1 3).2.1 (q.2.1 3).2.2.1 ∈ ms_tb := ⟨_, rfl, mk_tb (mk_sub1 (List.mem_of_getElem? (i := 186) rfl) rfl)⟩
set_option maxRecDepth 100000 in
theorem mk_F240 : ∃ q, mt_cl[9]? = some q ∧ Jvm.Cond.fieldLink (mk_nm 9) 27 (q.2.1 4).1 (q.2.1 4).2.1 (q.2.1 4).2.2.1 ∈ ms_tb := ⟨_, rfl, mk_tb (mk_sub1 (List.mem_of_getElem? (i := 188) rfl) rfl)⟩
set_option maxRecDepth 100000 in
theorem mk_F241 : ∃ q, mt_cl[10]? = some q ∧ Jvm.Cond.fieldLink (mk_nm 10) 15 (q.2.1 0).1 (q.2.1 0).2.1 (q.2.1 0).2.2.1 ∈ ms_tb := ⟨_, rfl, mk_tb (mk_sub1 (List.mem_of_getElem? (i := 60) rfl) rfl)⟩
set_option maxRecDepth 100000 in
theorem mk_F242 : ∃ q, mt_cl[10]? = some q ∧ Jvm.Cond.fieldLink (mk_nm 10) 21 (q.2.1 1).1 (q.2.1 1).2.1 (q.2.1 1).2.2.1 ∈ ms_tb := ⟨_, rfl, mk_tb (mk_sub1 (List.mem_of_getElem? (i := 63) rfl) rfl)⟩
set_option maxRecDepth 100000 in
theorem mk_F243 : ∃ q, mt_cl[10]? = some q ∧ Jvm.Cond.fieldLink (mk_nm 10) 25 (q.2.1 2).1 (q.2.1 2).2.1 (q.2.1 2).2.2.1 ∈ ms_tb := ⟨_, rfl, mk_tb (mk_sub1 (List.mem_of_getElem? (i := 65) rfl) rfl)⟩
set_option maxRecDepth 100000 in
theorem mk_F244 : ∃ q, mt_cl[10]? = some q ∧ Jvm.Cond.fieldLink (mk_nm 10) 28 (q.2.1 3).1 (q.2.1 3).2.1 (q.2.1 3).2.2.1 ∈ ms_tb := ⟨_, rfl, mk_tb (mk_sub1 (List.mem_of_getElem? (i := 68) rfl) rfl)⟩
set_option maxRecDepth 100000 in
theorem mk_F245 : ∃ q, mt_cl[10]? = some q ∧ Jvm.Cond.fieldLink (mk_nm 10) 46 (q.2.1 4).1 (q.2.1 4).2.1 (q.2.1 4).2.2.1 ∈ ms_tb := ⟨_, rfl, mk_tb (mk_sub1 (List.mem_of_getElem? (i := 69) rfl) rfl)⟩
set_option maxRecDepth 100000 in
theorem mk_F246 : ∃ q, mt_cl[11]? = some q ∧ Jvm.Cond.fieldLink (mk_nm 11) 9 (q.2.1 0).1 (q.2.1 0).2.1 (q.2.1 0).2.2.1 ∈ ms_tb := ⟨_, rfl, mk_tb (mk_sub4 (List.mem_of_getElem? (i := 210) rfl) rfl)⟩
set_option maxRecDepth 100000 in
theorem mk_F247 : ∃ q, mt_cl[11]? = some q ∧ Jvm.Cond.fieldLink (mk_nm 11) 16 (q.2.1 2).1 (q.2.1 2).2.1 (q.2.1 2).2.2.1 ∈ ms_tb := ⟨_, rfl, mk_tb (mk_sub4 (List.mem_of_getElem? (i := 212) rfl) rfl)⟩
set_option maxRecDepth 100000 in
theorem mk_F248 : ∃ q, mt_cl[11]? = some q ∧ Jvm.Cond.fieldLink (mk_nm 11) 25 (q.2.1 3).1 (q.2.1 3).2.1 (q.2.1 3).2.2.1 ∈ ms_tb := ⟨_, rfl, mk_tb (mk_sub4 (List.mem_of_getElem? (i := 213) rfl) rfl)⟩
set_option maxRecDepth 100000 in
theorem mk_F249 : ∃ q, mt_cl[11]? = some q ∧ Jvm.Cond.fieldLink (mk_nm 11) 34 (q.2.1 4).1 (q.2.1 4).2.1 (q.2.1 4).2.2.1 ∈ ms_tb := ⟨_, rfl, mk_tb (mk_sub4 (List.mem_of_getElem? (i := 214) rfl) rfl)⟩
set_option maxRecDepth 100000 in
theorem mk_F250 : ∃ q, mt_cl[11]? = some q ∧ Jvm.Cond.fieldLink (mk_nm 11) 41 (q.2.1 5).1 (q.2.1 5).2.1 (q.2.1 5).2.2.1 ∈ ms_tb := ⟨_, rfl, mk_tb (mk_sub4 (List.mem_of_getElem? (i := 215) rfl) rfl)⟩
set_option maxRecDepth 100000 in
theorem mk_F251 : ∃ q, mt_cl[11]? = some q ∧ Jvm.Cond.fieldLink (mk_nm 11) 47 (q.2.1 6).1 (q.2.1 6).2.1 (q.2.1 6).2.2.1 ∈ ms_tb := ⟨_, rfl, mk_tb (mk_sub4 (List.mem_of_getElem? (i := 216) rfl) rfl)⟩
set_option maxRecDepth 100000 in
theorem mk_F252 : ∃ q, mt_cl[11]? = some q ∧ Jvm.Cond.fieldLink (mk_nm 11) 51 (q.2.1 13).1 (q.2.1 13).2.1 (q.2.1 13).2.2.1 ∈ ms_tb := ⟨_, rfl, mk_tb (mk_sub4 (List.mem_of_getElem? (i := 223) rfl) rfl)⟩
set_option maxRecDepth 100000 in
theorem mk_F253 : ∃ q, mt_cl[11]? = some q ∧ Jvm.Cond.fieldLink (mk_nm 11) 60 (q.2.1 1).1 (q.2.1 1).2.1 (q.2.1 1).2.2.1 ∈ ms_tb := ⟨_, rfl, mk_tb (mk_sub4 (List.mem_of_getElem? (i := 211) rfl) rfl)⟩
set_option maxRecDepth 100000 in
theorem mk_F254 : ∃ q, mt_cl[11]? = some q ∧ Jvm.Cond.fieldLink (mk_nm 11) 89 (q.2.1 8).1 (q.2.1 8).2.1 (q.2.1 8).2.2.1 ∈ ms_tb := ⟨_, rfl, mk_tb (mk_sub4 (List.mem_of_getElem? (i := 218) rfl) rfl)⟩
set_option maxRecDepth 100000 in
theorem mk_F255 : ∃ q, mt_cl[11]? = some q ∧ Jvm.Cond.fieldLink (mk_nm 11) 92 (q.2.1 9).1 (q.2.1 9).2.1 (q.2.1 9).2.2.1 ∈ ms_tb := ⟨_, rfl, mk_tb (mk_sub4 (List.mem_of_getElem? (i := 219) rfl) rfl)⟩
set_option maxRecDepth 100000 in
theorem mk_F256 : ∃ q, mt_cl[4]? = some q ∧ Jvm.Cond.fieldLink (mk_nm 11) 102 (q.2.1 18).1 (q.2.1 18).2.1 (q.2.1 18).2.2.1 ∈ ms_tb := ⟨_, rfl, mk_tb (mk_sub2 (List.mem_of_getElem? (i := 63) rfl) rfl)⟩
set_option maxRecDepth 100000 in
theorem mk_F257 : ∃ q, mt_cl[4]? = some q ∧ Jvm.Cond.fieldLink (mk_nm 11) 103 (q.2.1 19).1 (q.2.1 19).2.1 (q.2.1 19).2.2.1 ∈ ms_tb := ⟨_, rfl, mk_tb (mk_sub2 (List.mem_of_getElem? (i := 65) rfl) rfl)⟩
set_option maxRecDepth 100000 in
theorem mk_F258 : ∃ q, mt_cl[11]? = some q ∧ Jvm.Cond.fieldLink (mk_nm 11) 107 (q.2.1 7).1 (q.2.1 7).2.1 (q.2.1 7).2.2.1 ∈ ms_tb := ⟨_, rfl, mk_tb (mk_sub4 (List.mem_of_getElem? (i := 217) rfl) rfl)⟩
set_option maxRecDepth 100000 in
theorem mk_F259 : ∃ q, mt_cl[0]? = some q ∧ Jvm.Cond.fieldLink (mk_nm 11) 111 (q.2.1 3).1 (q.2.1 3).2.1 (q.2.1 3).2.2.1 ∈ ms_tb := ⟨_, rfl, mk_tb (mk_sub3 (List.mem_of_getElem? (i := 33) rfl) rfl)⟩
set_option maxRecDepth 100000 in
theorem mk_F260 : ∃ q, mt_cl[4]? = some q ∧ Jvm.Cond.fieldLink (mk_nm 11) 114 (q.2.1 2).1 (q.2.1 2).2.1 (q.2.1 2).2.2.1 ∈ ms_tb := ⟨_, rfl, mk_tb (mk_sub2 (List.mem_of_getElem? (i := 31) rfl) rfl)⟩
set_option maxRecDepth 100000 in
theorem mk_F261 : ∃ q, mt_cl[0]? = some q ∧ Jvm.Cond.fieldLink (mk_nm 11) 118 (q.2.1 0).1 (q.2.1 0).2.1 (q.2.1 0).2.2.1 ∈ ms_tb := ⟨_, rfl, mk_tb (mk_sub3 (List.mem_of_getElem? (i := 25) rfl) rfl)⟩
set_option maxRecDepth 100000 in
theorem mk_F262 : ∃ q, mt_cl[11]? = some q ∧ Jvm.Cond.fieldLink (mk_nm 11) 125 (q.2.1 10).1 (q.2.1 10).2.1 (q.2.1 10).2.2.1 ∈ ms_tb := ⟨_, rfl, mk_tb (mk_sub4 (List.mem_of_getElem? (i := 220) rfl) rfl)⟩
set_option maxRecDepth 100000 in
theorem mk_F263 : ∃ q, mt_cl[11]? = some q ∧ Jvm.Cond.fieldLink (mk_nm 11) 128 (q.2.1 11).1 (q.2.1 11).2.1 (q.2.1 11).2.2.1 ∈ ms_tb := ⟨_, rfl, mk_tb (mk_sub4 (List.mem_of_getElem? (i := 221) rfl) rfl)⟩
set_option maxRecDepth 100000 in
theorem mk_F264 : ∃ q, mt_cl[0]? = some q ∧ Jvm.Cond.fieldLink (mk_nm 11) 131 (q.2.1 2).1 (q.2.1 2).2.1 (q.2.1 2).2.2.1 ∈ ms_tb := ⟨_, rfl, mk_tb (mk_sub3 (List.mem_of_getElem? (i := 30) rfl) rfl)⟩
set_option maxRecDepth 100000 in
theorem mk_F265 : ∃ q, mt_cl[4]? = some q ∧ Jvm.Cond.fieldLink (mk_nm 11) 138 (q.2.1 3).1 (q.2.1 3).2.1 (q.2.1 3).2.2.1 ∈ ms_tb := ⟨_, rfl, mk_tb (mk_sub2 (List.mem_of_getElem? (i := 36) rfl) rfl)⟩
set_option maxRecDepth 100000 in
theorem mk_F266 : ∃ q, mt_cl[9]? = some q ∧ Jvm.Cond.fieldLink (mk_nm 11) 142 (q.2.1 0).1 (q.2.1 0).2.1 (q.2.1 0).2.2.1 ∈ ms_tb := ⟨_, rfl, mk_tb (mk_sub1 (List.mem_of_getElem? (i := 176) rfl) rfl)⟩
set_option maxRecDepth 100000 in
theorem mk_F267 : ∃ q, mt_cl[9]? = some q ∧ Jvm.Cond.fieldLink (mk_nm 11) 147 (q.2.1 2).1 (q.2.1 2).2.1 (q.2.1 2).2.2.1 ∈ ms_tb := ⟨_, rfl, mk_tb (mk_sub1 (List.mem_of_getElem? (i := 182) rfl) rfl)⟩
set_option maxRecDepth 100000 in
theorem mk_F268 : ∃ q, mt_cl[0]? = some q ∧ Jvm.Cond.fieldLink (mk_nm 11) 150 (q.2.1 1).1 (q.2.1 1).2.1 (q.2.1 1).2.2.1 ∈ ms_tb := ⟨_, rfl, mk_tb (mk_sub3 (List.mem_of_getElem? (i := 28) rfl) rfl)⟩
set_option maxRecDepth 100000 in
theorem mk_F269 : ∃ q, mt_cl[8]? = some q ∧ Jvm.Cond.fieldLink (mk_nm 11) 161 (q.2.1 0).1 (q.2.1 0).2.1 (q.2.1 0).2.2.1 ∈ ms_tb := ⟨_, rfl, mk_tb (mk_sub2 (List.mem_of_getElem? (i := 194) rfl) rfl)⟩
set_option maxRecDepth 100000 in
theorem mk_F270 : ∃ q, mt_cl[8]? = some q ∧ Jvm.Cond.fieldLink (mk_nm 11) 186 (q.2.1 4).1 (q.2.1 4).2.1 (q.2.1 4).2.2.1 ∈ ms_tb := ⟨_, rfl, mk_tb (mk_sub2 (List.mem_of_getElem? (i := 204) rfl) rfl)⟩
set_option maxRecDepth 100000 in
theorem mk_F271 : ∃ q, mt_cl[1]? = some q ∧ Jvm.Cond.fieldLink (mk_nm 11) 194 (q.2.1 7).1 (q.2.1 7).2.1 (q.2.1 7).2.2.1 ∈ ms_tb := ⟨_, rfl, mk_tb (mk_sub2 (List.mem_of_getElem? (i := 233) rfl) rfl)⟩
set_option maxRecDepth 100000 in
theorem mk_F272 : ∃ q, mt_cl[11]? = some q ∧ Jvm.Cond.fieldLink (mk_nm 11) 211 (q.2.1 12).1 (q.2.1 12).2.1 (q.2.1 12).2.2.1 ∈ ms_tb := ⟨_, rfl, mk_tb (mk_sub4 (List.mem_of_getElem? (i := 222) rfl) rfl)⟩
set_option maxRecDepth 100000 in
theorem mk_F273 : ∃ q, mt_cl[4]? = some q ∧ Jvm.Cond.fieldLink (mk_nm 11) 231 (q.2.1 11).1 (q.2.1 11).2.1 (q.2.1 11).2.2.1 ∈ ms_tb := ⟨_, rfl, mk_tb (mk_sub2 (List.mem_of_getElem? (i := 56) rfl) rfl)⟩
set_option maxRecDepth 100000 in
theorem mk_F274 : ∃ q, mt_cl[1]? = some q ∧ Jvm.Cond.fieldLink (mk_nm 11) 234 (q.2.1 3).1 (q.2.1 3).2.1 (q.2.1 3).2.2.1 ∈ ms_tb := ⟨_, rfl, mk_tb (mk_sub2 (List.mem_of_getElem? (i := 227) rfl) rfl)⟩
set_option maxRecDepth 100000 in
theorem mk_F275 : ∃ q, mt_cl[4]? = some q ∧ Jvm.Cond.fieldLink (mk_nm 11) 245 (q.2.1 10).1 (q.2.1 10).2.1 (q.2.1 10).2.2.1 ∈ ms_tb := ⟨_, rfl, mk_tb (mk_sub2 (List.mem_of_getElem? (i := 53) rfl) rfl)⟩
set_option maxRecDepth 100000 in
theorem mk_F276 : ∃ q, mt_cl[1]? = some q ∧ Jvm.Cond.fieldLink (mk_nm 11) 248 (q.2.1 2).1 (q.2.1 2).2.1 (q.2.1 2).2.2.1 ∈ ms_tb := ⟨_, rfl, mk_tb (mk_sub2 (List.mem_of_getElem? (i := 224) rfl) rfl)⟩
set_option maxRecDepth 100000 in
theorem mk_F277 : ∃ q, mt_cl[2]? = some q ∧ Jvm.Cond.fieldLink (mk_nm 11) 254 (q.2.1 2).1 (q.2.1 2).2.1 (q.2.1 2).2.2.1 ∈ ms_tb := ⟨_, rfl, mk_tb (mk_sub3 (List.mem_of_getElem? (i := 91) rfl) rfl)⟩
set_option maxRecDepth 100000 in
theorem mk_F278 : ∃ q, mt_cl[2]? = some q ∧ Jvm.Cond.fieldLink (mk_nm 11) 261 (q.2.1 4).1 (q.2.1 4).2.1 (q.2.1 4).2.2.1 ∈ ms_tb := ⟨_, rfl, mk_tb (mk_sub3 (List.mem_of_getElem? (i := 95) rfl) rfl)⟩
set_option maxRecDepth 100000 in
theorem mk_F279 : ∃ q, mt_cl[2]? = some q ∧ Jvm.Cond.fieldLink (mk_nm 11) 264 (q.2.1 5).1 (q.2.1 5).2.1 (q.2.1 5).2.2.1 ∈ ms_tb := ⟨_, rfl, mk_tb (mk_sub3 (List.mem_of_getElem? (i := 97) rfl) rfl)⟩
set_option maxRecDepth 100000 in
theorem mk_F280 : ∃ q, mt_cl[2]? = some q ∧ Jvm.Cond.fieldLink (mk_nm 11) 267 (q.2.1 3).1 (q.2.1 3).2.1 (q.2.1 3).2.2.1 ∈ ms_tb := ⟨_, rfl, mk_tb (mk_sub3 (List.mem_of_getElem? (i := 93) rfl) rfl)⟩
set_option maxRecDepth 100000 in
theorem mk_F281 : ∃ q, mt_cl[2]? = some q ∧ Jvm.Cond.fieldLink (mk_nm 11) 270 (q.2.1 6).1 (q.2.1 6).2.1 (q.2.1 6).2.2.1 ∈ ms_tb := ⟨_, rfl, mk_tb (mk_sub3 (List.mem_of_getElem? (i := 99) rfl) rfl)⟩
set_option maxRecDepth 100000 in
theorem mk_F282 : ∃ q, mt_cl[2]? = some q ∧ Jvm.Cond.fieldLink (mk_nm 11) 273 (q.2.1 8).1 (q.2.1 8).2.1 (q.2.1 8).2.2.1 ∈ ms_tb := ⟨_, rfl, mk_tb (mk_sub3 (List.mem_of_getElem? (i := 103) rfl) rfl)⟩
set_option maxRecDepth 100000 in
theorem mk_F283 : ∃ q, mt_cl[2]? = some q ∧ Jvm.Cond.fieldLink (mk_nm 11) 276 (q.2.1 7).1 (q.2.1 7).2.1 (q.2.1 7).2.2.1 ∈ ms_tb := ⟨_, rfl, mk_tb (mk_sub3 (List.mem_of_getElem? (i := 101) rfl) rfl)⟩
set_option maxRecDepth 100000 in
theorem mk_F284 : ∃ q, mt_cl[2]? = some q ∧ Jvm.Cond.fieldLink (mk_nm 11) 279 (q.2.1 9).1 (q.2.1 9).2.1 (q.2.1 9).2.2.1 ∈ ms_tb := ⟨_, rfl, mk_tb (mk_sub3 (List.mem_of_getElem? (i := 105) rfl) rfl)⟩
set_option maxRecDepth 100000 in
theorem mk_F285 : ∃ q, mt_cl[11]? = some q ∧ Jvm.Cond.fieldLink (mk_nm 11) 282 (q.2.1 14).1 (q.2.1 14).2.1 (q.2.1 14).2.2.1 ∈ ms_tb := ⟨_, rfl, mk_tb (mk_sub4 (List.mem_of_getElem? (i := 224) rfl) rfl)⟩
set_option maxRecDepth 100000 in
theorem mk_F286 : ∃ q, mt_cl[8]? = some q ∧ Jvm.Cond.fieldLink (mk_nm 11) 290 (q.2.1 1).1 (q.2.1 1).2.1 (q.2.1 1).2.2.1 ∈ ms_tb := ⟨_, rfl, mk_tb (mk_sub2 (List.mem_of_getElem? (i := 197) rfl) rfl)⟩
set_option maxRecDepth 100000 in
theorem mk_F287 : ∃ q, mt_cl[8]? = some q ∧ Jvm.Cond.fieldLink (mk_nm 11) 293 (q.2.1 2).1 (q.2.1 2).2.1 (q.2.1 2).2.2.1 ∈ ms_tb := ⟨_, rfl, mk_tb (mk_sub2 (List.mem_of_getElem? (i := 199) rfl) rfl)⟩
set_option maxRecDepth 100000 in
theorem mk_F288 : ∃ q, mt_cl[4]? = some q ∧ Jvm.Cond.fieldLink (mk_nm 11) 348 (q.2.1 0).1 (q.2.1 0).2.1 (q.2.1 0).2.2.1 ∈ ms_tb := ⟨_, rfl, mk_tb (mk_sub2 (List.mem_of_getElem? (i := 23) rfl) rfl)⟩
set_option maxRecDepth 100000 in
theorem mk_F289 : ∃ q, mt_cl[12]? = some q ∧ Jvm.Cond.fieldLink (mk_nm 12) 11 (q.2.1 4).1 (q.2.1 4).2.1 (q.2.1 4).2.2.1 ∈ ms_tb := ⟨_, rfl, mk_tb (mk_sub8 (List.mem_of_getElem? (i := 172) rfl) rfl)⟩
set_option maxRecDepth 100000 in
theorem mk_F290 : ∃ q, mt_cl[12]? = some q ∧ Jvm.Cond.fieldLink (mk_nm 12) 15 (q.2.1 5).1 (q.2.1 5).2.1 (q.2.1 5).2.2.1 ∈ ms_tb := ⟨_, rfl, mk_tb (mk_sub8 (List.mem_of_getElem? (i := 174) rfl) rfl)⟩
set_option maxRecDepth 100000 in
theorem mk_F291 : ∃ q, mt_cl[12]? = some q ∧ Jvm.Cond.fieldLink (mk_nm 12) 18 (q.2.1 6).1 (q.2.1 6).2.1 (q.2.1 6).2.2.1 ∈ ms_tb := ⟨_, rfl, mk_tb (mk_sub8 (List.mem_of_getElem? (i := 176) rfl) rfl)⟩
set_option maxRecDepth 100000 in
theorem mk_F292 : ∃ q, mt_cl[12]? = some q ∧ Jvm.Cond.fieldLink (mk_nm 12) 22 (q.2.1 10).1 (q.2.1 10).2.1 (q.2.1 10).2.2.1 ∈ ms_tb := ⟨_, rfl, mk_tb (mk_sub8 (List.mem_of_getElem? (i := 182) rfl) rfl)⟩
set_option maxRecDepth 100000 in
theorem mk_F293 : ∃ q, mt_cl[12]? = some q ∧ Jvm.Cond.fieldLink (mk_nm 12) 25 (q.2.1 12).1 (q.2.1 12).2.1 (q.2.1 12).2.2.1 ∈ ms_tb := ⟨_, rfl, mk_tb (mk_sub8 (List.mem_of_getElem? (i := 184) rfl) rfl)⟩
set_option maxRecDepth 100000 in
theorem mk_F294 : ∃ q, mt_cl[12]? = some q ∧ Jvm.Cond.fieldLink (mk_nm 12) 28 (q.2.1 15).1 (q.2.1 15).2.1 (q.2.1 15).2.2.1 ∈ ms_tb := ⟨_, rfl, mk_tb (mk_sub8 (List.mem_of_getElem? (i := 187) rfl) rfl)⟩
set_option maxRecDepth 100000 in
theorem mk_F295 : ∃ q, mt_cl[12]? = some q ∧ Jvm.Cond.fieldLink (mk_nm 12) 31 (q.2.1 16).1 (q.2.1 16).2.1 (q.2.1 16).2.2.1 ∈ ms_tb := ⟨_, rfl, mk_tb (mk_sub8 (List.mem_of_getElem? (i := 188) rfl) rfl)⟩
set_option maxRecDepth 100000 in
theorem mk_F296 : ∃ q, mt_cl[12]? = some q ∧ Jvm.Cond.fieldLink (mk_nm 12) 34 (q.2.1 17).1 (q.2.1 17).2.1 (q.2.1 17).2.2.1 ∈ ms_tb := ⟨_, rfl, mk_tb (mk_sub8 (List.mem_of_getElem? (i := 189) rfl) rfl)⟩
set_option maxRecDepth 100000 in
theorem mk_F297 : ∃ q, mt_cl[12]? = some q ∧ Jvm.Cond.fieldLink (mk_nm 12) 38 (q.2.1 27).1 (q.2.1 27).2.1 (q.2.1 27).2.2.1 ∈ ms_tb := ⟨_, rfl, mk_tb (mk_sub8 (List.mem_of_getElem? (i := 199) rfl) rfl)⟩
set_option maxRecDepth 100000 in
theorem mk_F298 : ∃ q, mt_cl[12]? = some q ∧ Jvm.Cond.fieldLink (mk_nm 12) 41 (q.2.1 28).1 (q.2.1 28).2.1 (q.2.1 28).2.2.1 ∈ ms_tb := ⟨_, rfl, mk_tb (mk_sub8 (List.mem_of_getElem? (i := 200) rfl) rfl)⟩
set_option maxRecDepth 100000 in
theorem mk_F299 : ∃ q, mt_cl[12]? = some q ∧ Jvm.Cond.fieldLink (mk_nm 12) 44 (q.2.1 29).1 (q.2.1 29).2.1 (q.2.1 29).2.2.1 ∈ ms_tb := ⟨_, rfl, mk_tb (mk_sub8 (List.mem_of_getElem? (i := 201) rfl) rfl)⟩
set_option maxRecDepth 100000 in
theorem mk_F300 : ∃ q, mt_cl[12]? = some q ∧ Jvm.Cond.fieldLink (mk_nm 12) 47 (q.2.1 30).1 (q.2.1 30).2.1 (q.2.1 30).2.2.1 ∈ ms_tb := ⟨_, rfl, mk_tb (mk_sub8 (List.mem_of_getElem? (i := 202) rfl) rfl)⟩
set_option maxRecDepth 100000 in
theorem mk_F301 : ∃ q, mt_cl[12]? = some q ∧ Jvm.Cond.fieldLink (mk_nm 12) 50 (q.2.1 31).1 (q.2.1 31).2.1 (q.2.1 31).2.2.1 ∈ ms_tb := ⟨_, rfl, mk_tb (mk_sub8 (List.mem_of_getElem? (i := 203) rfl) rfl)⟩
set_option maxRecDepth 100000 in
theorem mk_F302 : ∃ q, mt_cl[12]? = some q ∧ Jvm.Cond.fieldLink (mk_nm 12) 54 (q.2.1 32).1 (q.2.1 32).2.1 (q.2.1 32).2.2.1 ∈ ms_tb := ⟨_, rfl, mk_tb (mk_sub8 (List.mem_of_getElem? (i := 204) rfl) rfl)⟩
set_option maxRecDepth 100000 in
theorem mk_F303 : ∃ q, mt_cl[12]? = some q ∧ Jvm.Cond.fieldLink (mk_nm 12) 57 (q.2.1 36).1 (q.2.1 36).2.1 (q.2.1 36).2.2.1 ∈ ms_tb := ⟨_, rfl, mk_tb (mk_sub8 (List.mem_of_getElem? (i := 208) rfl) rfl)⟩
set_option maxRecDepth 100000 in
theorem mk_F304 : ∃ q, mt_cl[12]? = some q ∧ Jvm.Cond.fieldLink (mk_nm 12) 60 (q.2.1 37).1 (q.2.1 37).2.1 (q.2.1 37).2.2.1 ∈ ms_tb := ⟨_, rfl, mk_tb (mk_sub8 (List.mem_of_getElem? (i := 209) rfl) rfl)⟩
set_option maxRecDepth 100000 in
theorem mk_F305 : ∃ q, mt_cl[12]? = some q ∧ Jvm.Cond.fieldLink (mk_nm 12) 64 (q.2.1 11).1 (q.2.1 11).2.1 (q.2.1 11).2.2.1 ∈ ms_tb := ⟨_, rfl, mk_tb (mk_sub8 (List.mem_of_getElem? (i := 183) rfl) rfl)⟩
set_option maxRecDepth 100000 in
theorem mk_F306 : ∃ q, mt_cl[12]? = some q ∧ Jvm.Cond.fieldLink (mk_nm 12) 76 (q.2.1 2).1 (q.2.1 2).2.1 (q.2.1 2).2.2.1 ∈ ms_tb := ⟨_, rfl, mk_tb (mk_sub8 (List.mem_of_getElem? (i := 170) rfl) rfl)⟩
set_option maxRecDepth 100000 in
theorem mk_F307 : ∃ q, mt_cl[12]? = some q ∧ Jvm.Cond.fieldLink (mk_nm 12) 79 (q.2.1 18).1 (q.2.1 18).2.1 (q.2.1 18).2.2.1 ∈ ms_tb := ⟨_, rfl, mk_tb (mk_sub8 (List.mem_of_getElem? (i := 190) rfl) rfl)⟩
set_option maxRecDepth 100000 in
theorem mk_F308 : ∃ q, mt_cl[12]? = some q ∧ Jvm.Cond.fieldLink (mk_nm 12) 82 (q.2.1 1).1 (q.2.1 1).2.1 (q.2.1 1).2.2.1 ∈ ms_tb := ⟨_, rfl, mk_tb (mk_sub8 (List.mem_of_getElem? (i := 169) rfl) rfl)⟩
set_option maxRecDepth 100000 in
theorem mk_F309 : ∃ q, mt_cl[12]? = some q ∧ Jvm.Cond.fieldLink (mk_nm 12) 85 (q.2.1 21).1 (q.2.1 21).2.1 (q.2.1 21).2.2.1 ∈ ms_tb := ⟨_, rfl, mk_tb (mk_sub8 (List.mem_of_getElem? (i := 193) rfl) rfl)⟩
set_option maxRecDepth 100000 in
theorem mk_F310 : ∃ q, mt_cl[12]? = some q ∧ Jvm.Cond.fieldLink (mk_nm 12) 88 (q.2.1 20).1 (q.2.1 20).2.1 (q.2.1 20).2.2.1 ∈ ms_tb := ⟨_, rfl, mk_tb (mk_sub8 (List.mem_of_getElem? (i := 192) rfl) rfl)⟩
set_option maxRecDepth 100000 in
theorem mk_F311 : ∃ q, mt_cl[12]? = some q ∧ Jvm.Cond.fieldLink (mk_nm 12) 91 (q.2.1 25).1 (q.2.1 25).2.1 (q.2.1 25).2.2.1 ∈ ms_tb := ⟨_, rfl, mk_tb (mk_sub8 (List.mem_of_getElem? (i := 197) rfl) rfl)⟩
set_option maxRecDepth 100000 in
theorem mk_F312 : ∃ q, mt_cl[12]? = some q ∧ Jvm.Cond.fieldLink (mk_nm 12) 95 (q.2.1 26).1 (q.2.1 26).2.1 (q.2.1 26).2.2.1 ∈ ms_tb := ⟨_, rfl, mk_tb (mk_sub8 (List.mem_of_getElem? (i := 198) rfl) rfl)⟩
set_option maxRecDepth 100000 in
theorem mk_F313 : ∃ q, mt_cl[12]? = some q ∧ Jvm.Cond.fieldLink (mk_nm 12) 98 (q.2.1 24).1 (q.2.1 24).2.1 (q.2.1 24).2.2.1 ∈ ms_tb := ⟨_, rfl, mk_tb (mk_sub8 (List.mem_of_getElem? (i := 196) rfl) rfl)⟩
set_option maxRecDepth 100000 in
theorem mk_F314 : ∃ q, mt_cl[12]? = some q ∧ Jvm.Cond.fieldLink (mk_nm 12) 114 (q.2.1 0).1 (q.2.1 0).2.1 (q.2.1 0).2.2.1 ∈ ms_tb := ⟨_, rfl, mk_tb (mk_sub8 (List.mem_of_getElem? (i := 168) rfl) rfl)⟩
set_option maxRecDepth 100000 in
theorem mk_F315 : ∃ q, mt_cl[12]? = some q ∧ Jvm.Cond.fieldLink (mk_nm 12) 126 (q.2.1 23).1 (q.2.1 23).2.1 (q.2.1 23).2.2.1 ∈ ms_tb := ⟨_, rfl, mk_tb (mk_sub8 (List.mem_of_getElem? (i := 195) rfl) rfl)⟩
set_option maxRecDepth 100000 in
theorem mk_F316 : ∃ q, mt_cl[13]? = some q ∧ Jvm.Cond.fieldLink (mk_nm 12) 141 (q.2.1 4).1 (q.2.1 4).2.1 (q.2.1 4).2.2.1 ∈ ms_tb := ⟨_, rfl, mk_tb (mk_sub8 (List.mem_of_getElem? (i := 146) rfl) rfl)⟩
set_option maxRecDepth 100000 in
theorem mk_F317 : ∃ q, mt_cl[13]? = some q ∧ Jvm.Cond.fieldLink (mk_nm 12) 144 (q.2.1 5).1 (q.2.1 5).2.1 (q.2.1 5).2.2.1 ∈ ms_tb := ⟨_, rfl, mk_tb (mk_sub8 (List.mem_of_getElem? (i := 149) rfl) rfl)⟩
set_option maxRecDepth 100000 in
theorem mk_F318 : ∃ q, mt_cl[13]? = some q ∧ Jvm.Cond.fieldLink (mk_nm 12) 157 (q.2.1 6).1 (q.2.1 6).2.1 (q.2.1 6).2.2.1 ∈ ms_tb := ⟨_, rfl, mk_tb (mk_sub8 (List.mem_of_getElem? (i := 152) rfl) rfl)⟩
set_option maxRecDepth 100000 in
theorem mk_F319 : ∃ q, mt_cl[12]? = some q ∧ Jvm.Cond.fieldLink (mk_nm 12) 194 (q.2.1 33).1 (q.2.1 33).2.1 (q.2.1 33).2.2.1 ∈ ms_tb := ⟨_, rfl, mk_tb (mk_sub8 (List.mem_of_getElem? (i := 205) rfl) rfl)⟩
set_option maxRecDepth 100000 in
theorem mk_F320 : ∃ q, mt_cl[13]? = some q ∧ Jvm.Cond.fieldLink (mk_nm 12) 217 (q.2.1 0).1 (q.2.1 0).2.1 (q.2.1 0).2.2.1 ∈ ms_tb := ⟨_, rfl, mk_tb (mk_sub8 (List.mem_of_getElem? (i := 138) rfl) rfl)⟩
set_option maxRecDepth 100000 in
theorem mk_F321 : ∃ q, mt_cl[12]? = some q ∧ Jvm.Cond.fieldLink (mk_nm 12) 277 (q.2.1 14).1 (q.2.1 14).2.1 (q.2.1 14).2.2.1 ∈ ms_tb := ⟨_, rfl, mk_tb (mk_sub8 (List.mem_of_getElem? (i := 186) rfl) rfl)⟩
set_option maxRecDepth 100000 in
theorem mk_F322 : ∃ q, mt_cl[12]? = some q ∧ Jvm.Cond.fieldLink (mk_nm 12) 289 (q.2.1 9).1 (q.2.1 9).2.1 (q.2.1 9).2.2.1 ∈ ms_tb := ⟨_, rfl, mk_tb (mk_sub8 (List.mem_of_getElem? (i := 181) rfl) rfl)⟩
set_option maxRecDepth 100000 in
theorem mk_F323 : ∃ q, mt_cl[12]? = some q ∧ Jvm.Cond.fieldLink (mk_nm 12) 299 (q.2.1 34).1 (q.2.1 34).2.1 (q.2.1 34).2.2.1 ∈ ms_tb := ⟨_, rfl, mk_tb (mk_sub8 (List.mem_of_getElem? (i := 206) rfl) rfl)⟩
set_option maxRecDepth 100000 in
theorem mk_F324 : ∃ q, mt_cl[12]? = some q ∧ Jvm.Cond.fieldLink (mk_nm 12) 302 (q.2.1 8).1 (q.2.1 8).2.1 (q.2.1 8).2.2.1 ∈ ms_tb := ⟨_, rfl, mk_tb (mk_sub8 (List.mem_of_getElem? (i := 179) rfl) rfl)⟩
set_option maxRecDepth 100000 in
theorem mk_F325 : ∃ q, mt_cl[12]? = some q ∧ Jvm.Cond.fieldLink (mk_nm 12) 309 (q.2.1 35).1 (q.2.1 35).2.1 (q.2.1 35).2.2.1 ∈ ms_tb := ⟨_, rfl, mk_tb (mk_sub8 (List.mem_of_getElem? (i := 207) rfl) rfl)⟩
set_option maxRecDepth 100000 in
theorem mk_F326 : ∃ q, mt_cl[13]? = some q ∧ Jvm.Cond.fieldLink (mk_nm 12) 347 (q.2.1 1).1 (q.2.1 1).2.1 (q.2.1 1).2.2.1 ∈ ms_tb := ⟨_, rfl, mk_tb (mk_sub8 (List.mem_of_getElem? (i := 141) rfl) rfl)⟩
set_option maxRecDepth 100000 in
theorem mk_F327 : ∃ q, mt_cl[13]? = some q ∧ Jvm.Cond.fieldLink (mk_nm 12) 351 (q.2.1 2).1 (q.2.1 2).2.1 (q.2.1 2).2.2.1 ∈ ms_tb := ⟨_, rfl, mk_tb (mk_sub8 (List.mem_of_getElem? (i := 143) rfl) rfl)⟩
set_option maxRecDepth 100000 in
theorem mk_F328 : ∃ q, mt_cl[12]? = some q ∧ Jvm.Cond.fieldLink (mk_nm 12) 356 (q.2.1 22).1 (q.2.1 22).2.1 (q.2.1 22).2.2.1 ∈ ms_tb := ⟨_, rfl, mk_tb (mk_sub8 (List.mem_of_getElem? (i := 194) rfl) rfl)⟩
set_option maxRecDepth 100000 in
theorem mk_F329 : ∃ q, mt_cl[12]? = some q ∧ Jvm.Cond.fieldLink (mk_nm 12) 362 (q.2.1 19).1 (q.2.1 19).2.1 (q.2.1 19).2.2.1 ∈ ms_tb := ⟨_, rfl, mk_tb (mk_sub8 (List.mem_of_getElem? (i := 191) rfl) rfl)⟩
set_option maxRecDepth 100000 in
theorem mk_F330 : ∃ q, mt_cl[12]? = some q ∧ Jvm.Cond.fieldLink (mk_nm 12) 378 (q.2.1 3).1 (q.2.1 3).2.1 (q.2.1 3).2.2.1 ∈ ms_tb := ⟨_, rfl, mk_tb (mk_sub8 (List.mem_of_getElem? (i := 171) rfl) rfl)⟩
set_option maxRecDepth 100000 in
theorem mk_F331 : ∃ q, mt_cl[12]? = some q ∧ Jvm.Cond.fieldLink (mk_nm 12) 381 (q.2.1 13).1 (q.2.1 13).2.1 (q.2.1 13).2.2.1 ∈ ms_tb := ⟨_, rfl, mk_tb (mk_sub8 (List.mem_of_getElem? (i := 185) rfl) rfl)⟩
set_option maxRecDepth 100000 in
theorem mk_F332 : ∃ q, mt_cl[12]? = some q ∧ Jvm.Cond.fieldLink (mk_nm 12) 384 (q.2.1 7).1 (q.2.1 7).2.1 (q.2.1 7).2.2.1 ∈ ms_tb := ⟨_, rfl, mk_tb (mk_sub8 (List.mem_of_getElem? (i := 178) rfl) rfl)⟩
set_option maxRecDepth 100000 in
theorem mk_F333 : ∃ q, mt_cl[13]? = some q ∧ Jvm.Cond.fieldLink (mk_nm 13) 9 (q.2.1 3).1 (q.2.1 3).2.1 (q.2.1 3).2.2.1 ∈ ms_tb := ⟨_, rfl, mk_tb (mk_sub8 (List.mem_of_getElem? (i := 144) rfl) rfl)⟩
set_option maxRecDepth 100000 in
theorem mk_F334 : ∃ q, mt_cl[13]? = some q ∧ Jvm.Cond.fieldLink (mk_nm 13) 13 (q.2.1 4).1 (q.2.1 4).2.1 (q.2.1 4).2.2.1 ∈ ms_tb := ⟨_, rfl, mk_tb (mk_sub8 (List.mem_of_getElem? (i := 145) rfl) rfl)⟩
set_option maxRecDepth 100000 in
theorem mk_F335 : ∃ q, mt_cl[13]? = some q ∧ Jvm.Cond.fieldLink (mk_nm 13) 16 (q.2.1 5).1 (q.2.1 5).2.1 (q.2.1 5).2.2.1 ∈ ms_tb := ⟨_, rfl, mk_tb (mk_sub8 (List.mem_of_getElem? (i := 148) rfl) rfl)⟩
set_option maxRecDepth 100000 in
theorem mk_F336 : ∃ q, mt_cl[13]? = some q ∧ Jvm.Cond.fieldLink (mk_nm 13) 19 (q.2.1 6).1 (q.2.1 6).2.1 (q.2.1 6).2.2.1 ∈ ms_tb := ⟨_, rfl, mk_tb (mk_sub8 (List.mem_of_getElem? (i := 151) rfl) rfl)⟩
set_option maxRecDepth 100000 in
theorem mk_F337 : ∃ q, mt_cl[13]? = some q ∧ Jvm.Cond.fieldLink (mk_nm 13) 35 (q.2.1 0).1 (q.2.1 0).2.1 (q.2.1 0).2.2.1 ∈ ms_tb := ⟨_, rfl, mk_tb (mk_sub8 (List.mem_of_getElem? (i := 137) rfl) rfl)⟩
set_option maxRecDepth 100000 in
theorem mk_F338 : ∃ q, mt_cl[13]? = some q ∧ Jvm.Cond.fieldLink (mk_nm 13) 39 (q.2.1 1).1 (q.2.1 1).2.1 (q.2.1 1).2.2.1 ∈ ms_tb := ⟨_, rfl, mk_tb (mk_sub8 (List.mem_of_getElem? (i := 140) rfl) rfl)⟩
set_option maxRecDepth 100000 in
theorem mk_F339 : ∃ q, mt_cl[13]? = some q ∧ Jvm.Cond.fieldLink (mk_nm 13) 43 (q.2.1 2).1 (q.2.1 2).2.1 (q.2.1 2).2.2.1 ∈ ms_tb := ⟨_, rfl, mk_tb (mk_sub8 (List.mem_of_getElem? (i := 142) rfl) rfl)⟩
set_option maxRecDepth 100000 in
theorem mk_F340 : ∃ q, mt_cl[14]? = some q ∧ Jvm.Cond.fieldLink (mk_nm 14) 9 (q.2.1 1).1 (q.2.1 1).2.1 (q.2.1 1).2.2.1 ∈ ms_tb := ⟨_, rfl, mk_tb (mk_sub9 (List.mem_of_getElem? (i := 85) rfl) rfl)⟩
set_option maxRecDepth 100000 in
theorem mk_F341 : ∃ q, mt_cl[14]? = some q ∧ Jvm.Cond.fieldLink (mk_nm 14) 13 (q.2.1 4).1 (q.2.1 4).2.1 (q.2.1 4).2.2.1 ∈ ms_tb := ⟨_, rfl, mk_tb (mk_sub9 (List.mem_of_getElem? (i := 88) rfl) rfl)⟩
set_option maxRecDepth 100000 in
theorem mk_F342 : ∃ q, mt_cl[14]? = some q ∧ Jvm.Cond.fieldLink (mk_nm 14) 16 (q.2.1 5).1 (q.2.1 5).2.1 (q.2.1 5).2.2.1 ∈ ms_tb := ⟨_, rfl, mk_tb (mk_sub9 (List.mem_of_getElem? (i := 89) rfl) rfl)⟩
set_option maxRecDepth 100000 in
theorem mk_F343 : ∃ q, mt_cl[14]? = some q ∧ Jvm.Cond.fieldLink (mk_nm 14) 19 (q.2.1 6).1 (q.2.1 6).2.1 (q.2.1 6).2.2.1 ∈ ms_tb := ⟨_, rfl, mk_tb (mk_sub9 (List.mem_of_getElem? (i := 90) rfl) rfl)⟩
set_option maxRecDepth 100000 in
theorem mk_F344 : ∃ q, mt_cl[14]? = some q ∧ Jvm.Cond.fieldLink (mk_nm 14) 22 (q.2.1 10).1 (q.2.1 10).2.1 (q.2.1 10).2.2.1 ∈ ms_tb := ⟨_, rfl, mk_tb (mk_sub9 (List.mem_of_getElem? (i := 94) rfl) rfl)⟩
set_option maxRecDepth 100000 in
theorem mk_F345 : ∃ q, mt_cl[14]? = some q ∧ Jvm.Cond.fieldLink (mk_nm 14) 27 (q.2.1 11).1 (q.2.1 11).2.1 (q.2.1 11).2.2.1 ∈ ms_tb := ⟨_, rfl, mk_tb (mk_sub9 (List.mem_of_getElem? (i := 95) rfl) rfl)⟩
set_option maxRecDepth 100000 in
theorem mk_F346 : ∃ q, mt_cl[14]? = some q ∧ Jvm.Cond.fieldLink (mk_nm 14) 30 (q.2.1 12).1 (q.2.1 12).2.1 (q.2.1 12).2.2.1 ∈ ms_tb := ⟨_, rfl, mk_tb (mk_sub9 (List.mem_of_getElem? (i := 96) rfl) rfl)⟩
set_option maxRecDepth 100000 in
theorem mk_F347 : ∃ q, mt_cl[14]? = some q ∧ Jvm.Cond.fieldLink (mk_nm 14) 33 (q.2.1 13).1 (q.2.1 13).2.1 (q.2.1 13).2.2.1 ∈ ms_tb := ⟨_, rfl, mk_tb (mk_sub9 (List.mem_of_getElem? (i := 97) rfl) rfl)⟩
set_option maxRecDepth 100000 in
theorem mk_F348 : ∃ q, mt_cl[14]? = some q ∧ Jvm.Cond.fieldLink (mk_nm 14) 36 (q.2.1 14).1 (q.2.1 14).2.1 (q.2.1 14).2.2.1 ∈ ms_tb := ⟨_, rfl, mk_tb (mk_sub9 (List.mem_of_getElem? (i := 98) rfl) rfl)⟩
set_option maxRecDepth 100000 in
theorem mk_F349 : ∃ q, mt_cl[14]? = some q ∧ Jvm.Cond.fieldLink (mk_nm 14) 39 (q.2.1 15).1 (q.2.1 15).2.1 (q.2.1 15).2.2.1 ∈ ms_tb := ⟨_, rfl, mk_tb (mk_sub9 (List.mem_of_getElem? (i := 99) rfl) rfl)⟩
set_option maxRecDepth 100000 in
theorem mk_F350 : ∃ q, mt_cl[14]? = some q ∧ Jvm.Cond.fieldLink (mk_nm 14) 42 (q.2.1 16).1 (q.2.1 16).2.1 (q.2.1 16).2.2.1 ∈ ms_tb := ⟨_, rfl, mk_tb (mk_sub9 (List.mem_of_getElem? (i := 100) rfl) rfl)⟩
set_option maxRecDepth 100000 in
theorem mk_F351 : ∃ q, mt_cl[14]? = some q ∧ Jvm.Cond.fieldLink (mk_nm 14) 45 (q.2.1 18).1 (q.2.1 18).2.1 (q.2.1 18).2.2.1 ∈ ms_tb := ⟨_, rfl, mk_tb (mk_sub9 (List.mem_of_getElem? (i := 102) rfl) rfl)⟩
set_option maxRecDepth 100000 in
theorem mk_F352 : ∃ q, mt_cl[14]? = some q ∧ Jvm.Cond.fieldLink (mk_nm 14) 48 (q.2.1 19).1 (q.2.1 19).2.1 (q.2.1 19).2.2.1 ∈ ms_tb := ⟨_, rfl, mk_tb (mk_sub9 (List.mem_of_getElem? (i := 103) rfl) rfl)⟩
set_option maxRecDepth 100000 in
theorem mk_F353 : ∃ q, mt_cl[14]? = some q ∧ Jvm.Cond.fieldLink (mk_nm 14) 52 (q.2.1 20).1 (q.2.1 20).2.1 (q.2.1 20).2.2.1 ∈ ms_tb := ⟨_, rfl, mk_tb (mk_sub9 (List.mem_of_getElem? (i := 104) rfl) rfl)⟩
set_option maxRecDepth 100000 in
theorem mk_F354 : ∃ q, mt_cl[14]? = some q ∧ Jvm.Cond.fieldLink (mk_nm 14) 55 (q.2.1 21).1 (q.2.1 21).2.1 (q.2.1 21).2.2.1 ∈ ms_tb := ⟨_, rfl, mk_tb (mk_sub9 (List.mem_of_getElem? (i := 105) rfl) rfl)⟩
set_option maxRecDepth 100000 in
theorem mk_F355 : ∃ q, mt_cl[14]? = some q ∧ Jvm.Cond.fieldLink (mk_nm 14) 58 (q.2.1 22).1 (q.2.1 22).2.1 (q.2.1 22).2.2.1 ∈ ms_tb := ⟨_, rfl, mk_tb (mk_sub9 (List.mem_of_getElem? (i := 106) rfl) rfl)⟩
set_option maxRecDepth 100000 in
theorem mk_F356 : ∃ q, mt_cl[14]? = some q ∧ Jvm.Cond.fieldLink (mk_nm 14) 61 (q.2.1 23).1 (q.2.1 23).2.1 (q.2.1 23).2.2.1 ∈ ms_tb := ⟨_, rfl, mk_tb (mk_sub9 (List.mem_of_getElem? (i := 107) rfl) rfl)⟩
set_option maxRecDepth 100000 in
theorem mk_F357 : ∃ q, mt_cl[14]? = some q ∧ Jvm.Cond.fieldLink (mk_nm 14) 64 (q.2.1 25).1 (q.2.1 25).2.1 (q.2.1 25).2.2.1 ∈ ms_tb := ⟨_, rfl, mk_tb (mk_sub9 (List.mem_of_getElem? (i := 109) rfl) rfl)⟩
set_option maxRecDepth 100000 in
theorem mk_F358 : ∃ q, mt_cl[14]? = some q ∧ Jvm.Cond.fieldLink (mk_nm 14) 67 (q.2.1 26).1 (q.2.1 26).2.1 (q.2.1 26).2.2.1 ∈ ms_tb := ⟨_, rfl, mk_tb (mk_sub9 (List.mem_of_getElem? (i := 110) rfl) rfl)⟩
set_option maxRecDepth 100000 in
theorem mk_F359 : ∃ q, mt_cl[14]? = some q ∧ Jvm.Cond.fieldLink (mk_nm 14) 70 (q.2.1 28).1 (q.2.1 28).2.1 (q.2.1 28).2.2.1 ∈ ms_tb := ⟨_, rfl, mk_tb (mk_sub9 (List.mem_of_getElem? (i := 112) rfl) rfl)⟩
set_option maxRecDepth 100000 in
theorem mk_F360 : ∃ q, mt_cl[14]? = some q ∧ Jvm.Cond.fieldLink (mk_nm 14) 73 (q.2.1 29).1 (q.2.1 29).2.1 (q.2.1 29).2.2.1 ∈ ms_tb := ⟨_, rfl, mk_tb (mk_sub9 (List.mem_of_getElem? (i := 113) rfl) rfl)⟩
set_option maxRecDepth 100000 in
theorem mk_F361 : ∃ q, mt_cl[14]? = some q ∧ Jvm.Cond.fieldLink (mk_nm 14) 76 (q.2.1 30).1 (q.2.1 30).2.1 (q.2.1 30).2.2.1 ∈ ms_tb := ⟨_, rfl, mk_tb (mk_sub9 (List.mem_of_getElem? (i := 114) rfl) rfl)⟩
set_option maxRecDepth 100000 in
theorem mk_F362 : ∃ q, mt_cl[14]? = some q ∧ Jvm.Cond.fieldLink (mk_nm 14) 79 (q.2.1 31).1 (q.2.1 31).2.1 (q.2.1 31).2.2.1 ∈ ms_tb := ⟨_, rfl, mk_tb (mk_sub9 (List.mem_of_getElem? (i := 115) rfl) rfl)⟩
set_option maxRecDepth 100000 in
theorem mk_F363 : ∃ q, mt_cl[14]? = some q ∧ Jvm.Cond.fieldLink (mk_nm 14) 82 (q.2.1 32).1 (q.2.1 32).2.1 (q.2.1 32).2.2.1 ∈ ms_tb := ⟨_, rfl, mk_tb (mk_sub9 (List.mem_of_getElem? (i := 116) rfl) rfl)⟩
set_option maxRecDepth 100000 in
theorem mk_F364 : ∃ q, mt_cl[14]? = some q ∧ Jvm.Cond.fieldLink (mk_nm 14) 85 (q.2.1 34).1 (q.2.1 34).2.1 (q.2.1 34).2.2.1 ∈ ms_tb := ⟨_, rfl, mk_tb (mk_sub9 (List.mem_of_getElem? (i := 118) rfl) rfl)⟩
set_option maxRecDepth 100000 in
theorem mk_F365 : ∃ q, mt_cl[14]? = some q ∧ Jvm.Cond.fieldLink (mk_nm 14) 88 (q.2.1 35).1 (q.2.1 35).2.1 (q.2.1 35).2.2.1 ∈ ms_tb := ⟨_, rfl, mk_tb (mk_sub9 (List.mem_of_getElem? (i := 119) rfl) rfl)⟩
set_option maxRecDepth 100000 in
theorem mk_F366 : ∃ q, mt_cl[14]? = some q ∧ Jvm.Cond.fieldLink (mk_nm 14) 91 (q.2.1 36).1 (q.2.1 36).2.1 (q.2.1 36).2.2.1 ∈ ms_tb := ⟨_, rfl, mk_tb (mk_sub9 (List.mem_of_getElem? (i := 120) rfl) rfl)⟩
set_option maxRecDepth 100000 in
theorem mk_F367 : ∃ q, mt_cl[14]? = some q ∧ Jvm.Cond.fieldLink (mk_nm 14) 94 (q.2.1 37).1 (q.2.1 37).2.1 (q.2.1 37).2.2.1 ∈ ms_tb := ⟨_, rfl, mk_tb (mk_sub9 (List.mem_of_getElem? (i := 121) rfl) rfl)⟩
set_option maxRecDepth 100000 in
theorem mk_F368 : ∃ q, mt_cl[14]? = some q ∧ Jvm.Cond.fieldLink (mk_nm 14) 97 (q.2.1 38).1 (q.2.1 38).2.1 (q.2.1 38).2.2.1 ∈ ms_tb := ⟨_, rfl, mk_tb (mk_sub9 (List.mem_of_getElem? (i := 122) rfl) rfl)⟩
set_option maxRecDepth 100000 in
theorem mk_F369 : ∃ q, mt_cl[14]? = some q ∧ Jvm.Cond.fieldLink (mk_nm 14) 100 (q.2.1 39).1 (q.2.1 39).2.1 (q.2.1 39).2.2.1 ∈ ms_tb := ⟨_, rfl, mk_tb (mk_sub9 (List.mem_of_getElem? (i := 123) rfl) rfl)⟩
set_option maxRecDepth 100000 in
theorem mk_F370 : ∃ q, mt_cl[14]? = some q ∧ Jvm.Cond.fieldLink (mk_nm 14) 103 (q.2.1 40).1 (q.2.1 40).2.1 (q.2.1 40).2.2.1 ∈ ms_tb := ⟨_, rfl, mk_tb (mk_sub9 (List.mem_of_getElem? (i := 124) rfl) rfl)⟩
set_option maxRecDepth 100000 in
theorem mk_F371 : ∃ q, mt_cl[14]? = some q ∧ Jvm.Cond.fieldLink (mk_nm 14) 106 (q.2.1 41).1 (q.2.1 41).2.1 (q.2.1 41).2.2.1 ∈ ms_tb := ⟨_, rfl, mk_tb (mk_sub9 (List.mem_of_getElem? (i := 125) rfl) rfl)⟩
set_option maxRecDepth 100000 in
theorem mk_F372 : ∃ q, mt_cl[14]? = some q ∧ Jvm.Cond.fieldLink (mk_nm 14) 109 (q.2.1 49).1 (q.2.1 49).2.1 (q.2.1 49).2.2.1 ∈ ms_tb := ⟨_, rfl, mk_tb (mk_sub9 (List.mem_of_getElem? (i := 133) rfl) rfl)⟩
set_option maxRecDepth 100000 in
theorem mk_F373 : ∃ q, mt_cl[14]? = some q ∧ Jvm.Cond.fieldLink (mk_nm 14) 112 (q.2.1 50).1 (q.2.1 50).2.1 (q.2.1 50).2.2.1 ∈ ms_tb := ⟨_, rfl, mk_tb (mk_sub9 (List.mem_of_getElem? (i := 134) rfl) rfl)⟩
set_option maxRecDepth 100000 in
theorem mk_F374 : ∃ q, mt_cl[14]? = some q ∧ Jvm.Cond.fieldLink (mk_nm 14) 115 (q.2.1 51).1 (q.2.1 51).2.1 (q.2.1 51).2.2.1 ∈ ms_tb := ⟨_, rfl, mk_tb (mk_sub9 (List.mem_of_getElem? (i := 135) rfl) rfl)⟩
set_option maxRecDepth 100000 in
theorem mk_F375 : ∃ q, mt_cl[14]? = some q ∧ Jvm.Cond.fieldLink (mk_nm 14) 121 (q.2.1 52).1 (q.2.1 52).2.1 (q.2.1 52).2.2.1 ∈ ms_tb := ⟨_, rfl, mk_tb (mk_sub9 (List.mem_of_getElem? (i := 136) rfl) rfl)⟩
set_option maxRecDepth 100000 in
theorem mk_F376 : ∃ q, mt_cl[14]? = some q ∧ Jvm.Cond.fieldLink (mk_nm 14) 128 (q.2.1 53).1 (q.2.1 53).2.1 (q.2.1 53).2.2.1 ∈ ms_tb := ⟨_, rfl, mk_tb (mk_sub9 (List.mem_of_getElem? (i := 137) rfl) rfl)⟩
set_option maxRecDepth 100000 in
theorem mk_F377 : ∃ q, mt_cl[14]? = some q ∧ Jvm.Cond.fieldLink (mk_nm 14) 132 (q.2.1 56).1 (q.2.1 56).2.1 (q.2.1 56).2.2.1 ∈ ms_tb := ⟨_, rfl, mk_tb (mk_sub9 (List.mem_of_getElem? (i := 140) rfl) rfl)⟩
set_option maxRecDepth 100000 in
theorem mk_F378 : ∃ q, mt_cl[14]? = some q ∧ Jvm.Cond.fieldLink (mk_nm 14) 135 (q.2.1 58).1 (q.2.1 58).2.1 (q.2.1 58).2.2.1 ∈ ms_tb := ⟨_, rfl, mk_tb (mk_sub9 (List.mem_of_getElem? (i := 142) rfl) rfl)⟩
set_option maxRecDepth 100000 in
theorem mk_F379 : ∃ q, mt_cl[14]? = some q ∧ Jvm.Cond.fieldLink (mk_nm 14) 138 (q.2.1 59).1 (q.2.1 59).2.1 (q.2.1 59).2.2.1 ∈ ms_tb := ⟨_, rfl, mk_tb (mk_sub9 (List.mem_of_getElem? (i := 143) rfl) rfl)⟩
set_option maxRecDepth 100000 in
theorem mk_F380 : ∃ q, mt_cl[14]? = some q ∧ Jvm.Cond.fieldLink (mk_nm 14) 141 (q.2.1 61).1 (q.2.1 61).2.1 (q.2.1 61).2.2.1 ∈ ms_tb := ⟨_, rfl, mk_tb (mk_sub9 (List.mem_of_getElem? (i := 145) rfl) rfl)⟩
set_option maxRecDepth 100000 in
theorem mk_F381 : ∃ q, mt_cl[14]? = some q ∧ Jvm.Cond.fieldLink (mk_nm 14) 144 (q.2.1 62).1 (q.2.1 62).2.1 (q.2.1 62).2.2.1 ∈ ms_tb := ⟨_, rfl, mk_tb (mk_sub9 (List.mem_of_getElem? (i := 146) rfl) rfl)⟩
set_option maxRecDepth 100000 in
theorem mk_F382 : ∃ q, mt_cl[14]? = some q ∧ Jvm.Cond.fieldLink (mk_nm 14) 147 (q.2.1 63).1 (q.2.1 63).2.1 (q.2.1 63).2.2.1 ∈ ms_tb := ⟨_, rfl, mk_tb (mk_sub9 (List.mem_of_getElem? (i := 147) rfl) rfl)⟩
set_option maxRecDepth 100000 in
theorem mk_F383 : ∃ q, mt_cl[14]? = some q ∧ Jvm.Cond.fieldLink (mk_nm 14) 169 (q.2.1 0).1 (q.2.1 0).2.1 (q.2.1 0).2.2.1 ∈ ms_tb := ⟨_, rfl, mk_tb (mk_sub9 (List.mem_of_getElem? (i := 84) rfl) rfl)⟩
set_option maxRecDepth 100000 in
theorem mk_F384 : ∃ q, mt_cl[14]? = some q ∧ Jvm.Cond.fieldLink (mk_nm 14) 176 (q.2.1 33).1 (q.2.1 33).2.1 (q.2.1 33).2.2.1 ∈ ms_tb := ⟨_, rfl, mk_tb (mk_sub9 (List.mem_of_getElem? (i := 117) rfl) rfl)⟩
set_option maxRecDepth 100000 in
theorem mk_F385 : ∃ q, mt_cl[14]? = some q ∧ Jvm.Cond.fieldLink (mk_nm 14) 179 (q.2.1 64).1 (q.2.1 64).2.1 (q.2.1 64).2.2.1 ∈ ms_tb := ⟨_, rfl, mk_tb (mk_sub9 (List.mem_of_getElem? (i := 148) rfl) rfl)⟩
set_option maxRecDepth 100000 in
theorem mk_F386 : ∃ q, mt_cl[14]? = some q ∧ Jvm.Cond.fieldLink (mk_nm 14) 182 (q.2.1 65).1 (q.2.1 65).2.1 (q.2.1 65).2.2.1 ∈ ms_tb := ⟨_, rfl, mk_tb (mk_sub9 (List.mem_of_getElem? (i := 149) rfl) rfl)⟩
set_option maxRecDepth 100000 in
theorem mk_F387 : ∃ q, mt_cl[14]? = some q ∧ Jvm.Cond.fieldLink (mk_nm 14) 185 (q.2.1 66).1 (q.2.1 66).2.1 (q.2.1 66).2.2.1 ∈ ms_tb := ⟨_, rfl, mk_tb (mk_sub9 (List.mem_of_getElem? (i := 150) rfl) rfl)⟩
set_option maxRecDepth 100000 in
theorem mk_F388 : ∃ q, mt_cl[14]? = some q ∧ Jvm.Cond.fieldLink (mk_nm 14) 191 (q.2.1 24).1 (q.2.1 24).2.1 (q.2.1 24).2.2.1 ∈ ms_tb := ⟨_, rfl, mk_tb (mk_sub9 (List.mem_of_getElem? (i := 108) rfl) rfl)⟩
set_option maxRecDepth 100000 in
theorem mk_F389 : ∃ q, mt_cl[14]? = some q ∧ Jvm.Cond.fieldLink (mk_nm 14) 194 (q.2.1 2).1 (q.2.1 2).2.1 (q.2.1 2).2.2.1 ∈ ms_tb := ⟨_, rfl, mk_tb (mk_sub9 (List.mem_of_getElem? (i := 86) rfl) rfl)⟩
set_option maxRecDepth 100000 in
theorem mk_F390 : ∃ q, mt_cl[14]? = some q ∧ Jvm.Cond.fieldLink (mk_nm 14) 197 (q.2.1 3).1 (q.2.1 3).2.1 (q.2.1 3).2.2.1 ∈ ms_tb := ⟨_, rfl, mk_tb (mk_sub9 (List.mem_of_getElem? (i := 87) rfl) rfl)⟩
set_option maxRecDepth 100000 in
theorem mk_F391 : ∃ q, mt_cl[14]? = some q ∧ Jvm.Cond.fieldLink (mk_nm 14) 227 (q.2.1 7).1 (q.2.1 7).2.1 (q.2.1 7).2.2.1 ∈ ms_tb := ⟨_, rfl, mk_tb (mk_sub9 (List.mem_of_getElem? (i := 91) rfl) rfl)⟩
set_option maxRecDepth 100000 in
theorem mk_F392 : ∃ q, mt_cl[14]? = some q ∧ Jvm.Cond.fieldLink (mk_nm 14) 242 (q.2.1 9).1 (q.2.1 9).2.1 (q.2.1 9).2.2.1 ∈ ms_tb := ⟨_, rfl, mk_tb (mk_sub9 (List.mem_of_getElem? (i := 93) rfl) rfl)⟩
set_option maxRecDepth 100000 in
theorem mk_F393 : ∃ q, mt_cl[14]? = some q ∧ Jvm.Cond.fieldLink (mk_nm 14) 246 (q.2.1 8).1 (q.2.1 8).2.1 (q.2.1 8).2.2.1 ∈ ms_tb := ⟨_, rfl, mk_tb (mk_sub9 (List.mem_of_getElem? (i := 92) rfl) rfl)⟩
set_option maxRecDepth 100000 in
theorem mk_F394 : ∃ q, mt_cl[14]? = some q ∧ Jvm.Cond.fieldLink (mk_nm 14) 256 (q.2.1 17).1 (q.2.1 17).2.1 (q.2.1 17).2.2.1 ∈ ms_tb := ⟨_, rfl, mk_tb (mk_sub9 (List.mem_of_getElem? (i := 101) rfl) rfl)⟩
set_option maxRecDepth 100000 in
theorem mk_F395 : ∃ q, mt_cl[14]? = some q ∧ Jvm.Cond.fieldLink (mk_nm 14) 309 (q.2.1 27).1 (q.2.1 27).2.1 (q.2.1 27).2.2.1 ∈ ms_tb := ⟨_, rfl, mk_tb (mk_sub9 (List.mem_of_getElem? (i := 111) rfl) rfl)⟩
set_option maxRecDepth 100000 in
theorem mk_F396 : ∃ q, mt_cl[14]? = some q ∧ Jvm.Cond.fieldLink (mk_nm 14) 328 (q.2.1 47).1 (q.2.1 47).2.1 (q.2.1 47).2.2.1 ∈ ms_tb := ⟨_, rfl, mk_tb (mk_sub9 (List.mem_of_getElem? (i := 131) rfl) rfl)⟩
set_option maxRecDepth 100000 in
theorem mk_F397 : ∃ q, mt_cl[14]? = some q ∧ Jvm.Cond.fieldLink (mk_nm 14) 331 (q.2.1 48).1 (q.2.1 48).2.1 (q.2.1 48).2.2.1 ∈ ms_tb := ⟨_, rfl, mk_tb (mk_sub9 (List.mem_of_getElem? (i := 132) rfl) rfl)⟩
set_option maxRecDepth 100000 in
theorem mk_F398 : ∃ q, mt_cl[12]? = some q ∧ Jvm.Cond.fieldLink (mk_nm 14) 345 (q.2.1 8).1 (q.2.1 8).2.1 (q.2.1 8).2.2.1 ∈ ms_tb := ⟨_, rfl, mk_tb (mk_sub8 (List.mem_of_getElem? (i := 180) rfl) rfl)⟩
set_option maxRecDepth 100000 in
theorem mk_F399 : ∃ q, mt_cl[14]? = some q ∧ Jvm.Cond.fieldLink (mk_nm 14) 357 (q.2.1 42).1 (q.2.1 42).2.1 (q.2.1 42).2.2.1 ∈ ms_tb := ⟨_, rfl, mk_tb (mk_sub9 (List.mem_of_getElem? (i := 126) rfl) rfl)⟩
set_option maxRecDepth 100000 in
theorem mk_F400 : ∃ q, mt_cl[14]? = some q ∧ Jvm.Cond.fieldLink (mk_nm 14) 360 (q.2.1 43).1 (q.2.1 43).2.1 (q.2.1 43).2.2.1 ∈ ms_tb := ⟨_, rfl, mk_tb (mk_sub9 (List.mem_of_getElem? (i := 127) rfl) rfl)⟩
set_option maxRecDepth 100000 in
theorem mk_F401 : ∃ q, mt_cl[14]? = some q ∧ Jvm.Cond.fieldLink (mk_nm 14) 373 (q.2.1 44).1 (q.2.1 44).2.1 (q.2.1 44).2.2.1 ∈ ms_tb := ⟨_, rfl, mk_tb (mk_sub9 (List.mem_of_getElem? (i := 128) rfl) rfl)⟩
set_option maxRecDepth 100000 in
theorem mk_F402 : ∃ q, mt_cl[14]? = some q ∧ Jvm.Cond.fieldLink (mk_nm 14) 376 (q.2.1 45).1 (q.2.1 45).2.1 (q.2.1 45).2.2.1 ∈ ms_tb := ⟨_, rfl, mk_tb (mk_sub9 (List.mem_of_getElem? (i := 129) rfl) rfl)⟩
set_option maxRecDepth 100000 in
theorem mk_F403 : ∃ q, mt_cl[14]? = some q ∧ Jvm.Cond.fieldLink (mk_nm 14) 379 (q.2.1 46).1 (q.2.1 46).2.1 (q.2.1 46).2.2.1 ∈ ms_tb := ⟨_, rfl, mk_tb (mk_sub9 (List.mem_of_getElem? (i := 130) rfl) rfl)⟩
set_option maxRecDepth 100000 in
theorem mk_F404 : ∃ q, mt_cl[12]? = some q ∧ Jvm.Cond.fieldLink (mk_nm 14) 412 (q.2.1 4).1 (q.2.1 4).2.1 (q.2.1 4).2.2.1 ∈ ms_tb := ⟨_, rfl, mk_tb (mk_sub8 (List.mem_of_getElem? (i := 173) rfl) rfl)⟩
set_option maxRecDepth 100000 in
theorem mk_F405 : ∃ q, mt_cl[12]? = some q ∧ Jvm.Cond.fieldLink (mk_nm 14) 416 (q.2.1 5).1 (q.2.1 5).2.1 (q.2.1 5).2.2.1 ∈ ms_tb := ⟨_, rfl, mk_tb (mk_sub8 (List.mem_of_getElem? (i := 175) rfl) rfl)⟩
set_option maxRecDepth 100000 in
theorem mk_F406 : ∃ q, mt_cl[13]? = some q ∧ Jvm.Cond.fieldLink (mk_nm 14) 419 (q.2.1 0).1 (q.2.1 0).2.1 (q.2.1 0).2.2.1 ∈ ms_tb := ⟨_, rfl, mk_tb (mk_sub8 (List.mem_of_getElem? (i := 139) rfl) rfl)⟩
set_option maxRecDepth 100000 in
theorem mk_F407 : ∃ q, mt_cl[12]? = some q ∧ Jvm.Cond.fieldLink (mk_nm 14) 421 (q.2.1 6).1 (q.2.1 6).2.1 (q.2.1 6).2.2.1 ∈ ms_tb := ⟨_, rfl, mk_tb (mk_sub8 (List.mem_of_getElem? (i := 177) rfl) rfl)⟩
set_option maxRecDepth 100000 in
theorem mk_F408 : ∃ q, mt_cl[14]? = some q ∧ Jvm.Cond.fieldLink (mk_nm 14) 424 (q.2.1 60).1 (q.2.1 60).2.1 (q.2.1 60).2.2.1 ∈ ms_tb := ⟨_, rfl, mk_tb (mk_sub9 (List.mem_of_getElem? (i := 144) rfl) rfl)⟩
set_option maxRecDepth 100000 in
theorem mk_F409 : ∃ q, mt_cl[14]? = some q ∧ Jvm.Cond.fieldLink (mk_nm 14) 427 (q.2.1 68).1 (q.2.1 68).2.1 (q.2.1 68).2.2.1 ∈ ms_tb := ⟨_, rfl, mk_tb (mk_sub9 (List.mem_of_getElem? (i := 152) rfl) rfl)⟩
set_option maxRecDepth 100000 in
theorem mk_F410 : ∃ q, mt_cl[14]? = some q ∧ Jvm.Cond.fieldLink (mk_nm 14) 436 (q.2.1 67).1 (q.2.1 67).2.1 (q.2.1 67).2.2.1 ∈ ms_tb := ⟨_, rfl, mk_tb (mk_sub9 (List.mem_of_getElem? (i := 151) rfl) rfl)⟩
set_option maxRecDepth 100000 in
theorem mk_F411 : ∃ q, mt_cl[14]? = some q ∧ Jvm.Cond.fieldLink (mk_nm 14) 472 (q.2.1 55).1 (q.2.1 55).2.1 (q.2.1 55).2.2.1 ∈ ms_tb := ⟨_, rfl, mk_tb (mk_sub9 (List.mem_of_getElem? (i := 139) rfl) rfl)⟩
set_option maxRecDepth 100000 in
theorem mk_F412 : ∃ q, mt_cl[14]? = some q ∧ Jvm.Cond.fieldLink (mk_nm 14) 475 (q.2.1 54).1 (q.2.1 54).2.1 (q.2.1 54).2.2.1 ∈ ms_tb := ⟨_, rfl, mk_tb (mk_sub9 (List.mem_of_getElem? (i := 138) rfl) rfl)⟩
set_option maxRecDepth 100000 in
theorem mk_F413 : ∃ q, mt_cl[13]? = some q ∧ Jvm.Cond.fieldLink (mk_nm 14) 515 (q.2.1 5).1 (q.2.1 5).2.1 (q.2.1 5).2.2.1 ∈ ms_tb := ⟨_, rfl, mk_tb (mk_sub8 (List.mem_of_getElem? (i := 150) rfl) rfl)⟩
set_option maxRecDepth 100000 in
theorem mk_F414 : ∃ q, mt_cl[13]? = some q ∧ Jvm.Cond.fieldLink (mk_nm 14) 518 (q.2.1 4).1 (q.2.1 4).2.1 (q.2.1 4).2.2.1 ∈ ms_tb := ⟨_, rfl, mk_tb (mk_sub8 (List.mem_of_getElem? (i := 147) rfl) rfl)⟩
set_option maxRecDepth 100000 in
theorem mk_F415 : ∃ q, mt_cl[14]? = some q ∧ Jvm.Cond.fieldLink (mk_nm 14) 550 (q.2.1 69).1 (q.2.1 69).2.1 (q.2.1 69).2.2.1 ∈ ms_tb := ⟨_, rfl, mk_tb (mk_sub9 (List.mem_of_getElem? (i := 153) rfl) rfl)⟩
set_option maxRecDepth 100000 in
theorem mk_F416 : ∃ q, mt_cl[14]? = some q ∧ Jvm.Cond.fieldLink (mk_nm 14) 598 (q.2.1 57).1 (q.2.1 57).2.1 (q.2.1 57).2.2.1 ∈ ms_tb := ⟨_, rfl, mk_tb (mk_sub9 (List.mem_of_getElem? (i := 141) rfl) rfl)⟩
set_option maxRecDepth 100000 in
theorem mk_F_ok : ∀ t ∈ mk_F, ∃ q, mt_cl[t.2.2.1]? = some q ∧ Jvm.Cond.fieldLink (mk_nm t.1) t.2.1 (q.2.1 t.2.2.2).1 (q.2.1 t.2.2.2).2.1 (q.2.1 t.2.2.2).2.2.1 ∈ ms_tb := List.forall_mem_cons.mpr ⟨mk_F0, List.forall_mem_cons.mpr ⟨mk_F1, List.forall_mem_cons.mpr ⟨mk_F2, List.forall_mem_cons.mpr ⟨mk_F3, List.forall_mem_cons.mpr ⟨mk_F4, List.forall_mem_cons.mpr ⟨mk_F5, List.forall_mem_cons.mpr ⟨mk_F6, List.forall_mem_cons.mpr ⟨mk_F7, List.forall_mem_cons.mpr ⟨mk_F8, List.forall_mem_cons.mpr ⟨mk_F9, List.forall_mem_cons.mpr ⟨mk_F10, List.forall_mem_cons.mpr ⟨mk_F11, List.forall_mem_cons.mpr ⟨mk_F12, List.forall_mem_cons.mpr ⟨mk_F13, List.forall_mem_cons.mpr ⟨mk_F14, List.forall_mem_cons.mpr ⟨mk_F15, List.forall_mem_cons.mpr ⟨mk_F16, List.forall_mem_cons.mpr ⟨mk_F17, List.forall_mem_cons.mpr ⟨mk_F18, List.forall_mem_cons.mpr ⟨mk_F19, List.forall_mem_cons.mpr ⟨mk_F20, List.forall_mem_cons.mpr ⟨mk_F21, List.forall_mem_cons.mpr ⟨mk_F22, List.forall_mem_cons.mpr ⟨mk_F23, List.forall_mem_cons.mpr ⟨mk_F24, List.forall_mem_cons.mpr ⟨mk_F25, List.forall_mem_cons.mpr ⟨mk_F26, List.forall_mem_cons.mpr ⟨mk_F27, List.forall_mem_cons.mpr ⟨mk_F28, List.forall_mem_cons.mpr ⟨mk_F29, List.forall_mem_cons.mpr ⟨mk_F30, List.forall_mem_cons.mpr ⟨mk_F31, List.forall_mem_cons.mpr ⟨mk_F32, List.forall_mem_cons.mpr ⟨mk_F33, List.forall_mem_cons.mpr ⟨mk_F34, List.forall_mem_cons.mpr ⟨mk_F35, List.forall_mem_cons.mpr ⟨mk_F36, List.forall_mem_cons.mpr ⟨mk_F37, List.forall_mem_cons.mpr ⟨mk_F38, List.forall_mem_cons.mpr ⟨mk_F39, List.forall_mem_cons.mpr ⟨mk_F40, List.forall_mem_cons.mpr ⟨mk_F41, List.forall_mem_cons.mpr ⟨mk_F42, List.forall_mem_cons.mpr ⟨mk_F43, List.forall_mem_cons.mpr ⟨mk_F44, List.forall_mem_cons.mpr ⟨mk_F45, List.forall_mem_cons.mpr ⟨mk_F46, List.forall_mem_cons.mpr ⟨mk_F47, List.forall_mem_cons.mpr ⟨mk_F48, List.forall_mem_cons.mpr ⟨mk_F49, List.forall_mem_cons.mpr ⟨mk_F50, List.forall_mem_cons.mpr ⟨mk_F51, List.forall_mem_cons.mpr ⟨mk_F52, List.forall_mem_cons.mpr ⟨mk_F53, List.forall_mem_cons.mpr ⟨mk_F54, List.forall_mem_cons.mpr ⟨mk_F55, List.forall_mem_cons.mpr ⟨mk_F56, List.forall_mem_cons.mpr ⟨mk_F57, List.forall_mem_cons.mpr ⟨mk_F58, List.forall_mem_cons.mpr ⟨mk_F59, List.forall_mem_cons.mpr ⟨mk_F60, List.forall_mem_cons.mpr ⟨mk_F61, List.forall_mem_cons.mpr ⟨mk_F62, List.forall_mem_cons.mpr ⟨mk_F63, List.forall_mem_cons.mpr ⟨mk_F64, List.forall_mem_cons.mpr ⟨mk_F65, List.forall_mem_cons.mpr ⟨mk_F66, List.forall_mem_cons.mpr ⟨mk_F67, List.forall_mem_cons.mpr ⟨mk_F68, List.forall_mem_cons.mpr ⟨mk_F69, List.forall_mem_cons.mpr ⟨mk_F70, List.forall_mem_cons.mpr ⟨mk_F71, List.forall_mem_cons.mpr ⟨mk_F72, List.forall_mem_cons.mpr ⟨mk_F73, List.forall_mem_cons.mpr ⟨mk_F74, List.forall_mem_cons.mpr ⟨mk_F75, List.forall_mem_cons.mpr ⟨mk_F76, List.forall_mem_cons.mpr ⟨mk_F77, List.forall_mem_cons.mpr ⟨mk_F78, List.forall_mem_cons.mpr ⟨mk_F79, List.forall_mem_cons.mpr ⟨mk_F80, List.forall_mem_cons.mpr ⟨mk_F81, List.forall_mem_cons.mpr ⟨mk_F82, List.forall_mem_cons.mpr ⟨mk_F83, List.forall_mem_cons.mpr ⟨mk_F84, List.forall_mem_cons.mpr ⟨mk_F85, List.forall_mem_cons.mpr ⟨mk_F86, List.forall_mem_cons.mpr ⟨mk_F87, List.forall_mem_cons.mpr ⟨mk_F88, List.forall_mem_cons.mpr ⟨mk_F89, List.forall_mem_cons.mpr ⟨mk_F90, List.forall_mem_cons.mpr ⟨mk_F91, List.forall_mem_cons.mpr ⟨mk_F92, List.forall_mem_cons.mpr ⟨mk_F93, List.forall_mem_cons.mpr ⟨mk_F94, List.forall_mem_cons.mpr ⟨mk_F95, List.forall_mem_cons.mpr ⟨mk_F96, List.forall_mem_cons.mpr ⟨mk_F97, List.forall_mem_cons.mpr ⟨mk_F98, List.forall_mem_cons.mpr ⟨mk_F99, List.forall_mem_cons.mpr ⟨mk_F100, List.forall_mem_cons.mpr ⟨mk_F101, List.forall_mem_cons.mpr ⟨mk_F102, List.forall_mem_cons.mpr ⟨mk_F103, List.forall_mem_cons.mpr ⟨mk_F104, List.forall_mem_cons.mpr ⟨mk_F105, List.forall_mem_cons.mpr ⟨mk_F106, List.forall_mem_cons.mpr ⟨mk_F107, List.forall_mem_cons.mpr ⟨mk_F108, List.forall_mem_cons.mpr ⟨mk_F109, List.forall_mem_cons.mpr ⟨mk_F110, List.forall_mem_cons.mpr ⟨mk_F111, List.forall_mem_cons.mpr ⟨mk_F112, List.forall_mem_cons.mpr ⟨mk_F113, List.forall_mem_cons.mpr ⟨mk_F114, List.forall_mem_cons.mpr ⟨mk_F115, List.forall_mem_cons.mpr ⟨mk_F116, List.forall_mem_cons.mpr ⟨mk_F117, List.forall_mem_cons.mpr ⟨mk_F118, List.forall_mem_cons.mpr ⟨mk_F119, List.forall_mem_cons.mpr ⟨mk_F120, List.forall_mem_cons.mpr ⟨mk_F121, List.forall_mem_cons.mpr ⟨mk_F122, List.forall_mem_cons.mpr ⟨mk_F123, List.forall_mem_cons.mpr ⟨mk_F124, List.forall_mem_cons.mpr ⟨mk_F125, List.forall_mem_cons.mpr ⟨mk_F126, List.forall_mem_cons.mpr ⟨mk_F127, List.forall_mem_cons.mpr ⟨mk_F128, List.forall_mem_cons.mpr ⟨mk_F129, List.forall_mem_cons.mpr ⟨mk_F130, List.forall_mem_cons.mpr ⟨mk_F131, List.forall_mem_cons.mpr ⟨mk_F132, List.forall_mem_cons.mpr ⟨mk_F133, List.forall_mem_cons.mpr ⟨mk_F134, List.forall_mem_cons.mpr ⟨mk_F135, List.forall_mem_cons.mpr ⟨mk_F136, List.forall_mem_cons.mpr ⟨mk_F137, List.forall_mem_cons.mpr ⟨mk_F138, List.forall_mem_cons.mpr ⟨mk_F139, List.forall_mem_cons.mpr ⟨mk_F140, List.forall_mem_cons.mpr ⟨mk_F141, List.forall_mem_cons.mpr ⟨mk_F142, List.forall_mem_cons.mpr ⟨mk_F143, List.forall_mem_cons.mpr ⟨mk_F144, List.forall_mem_cons.mpr ⟨mk_F145, List.forall_mem_cons.mpr ⟨mk_F146, List.forall_mem_cons.mpr ⟨mk_F147, List.forall_mem_cons.mpr ⟨mk_F148, List.forall_mem_cons.mpr ⟨mk_F149, List.forall_mem_cons.mpr ⟨mk_F150, List.forall_mem_cons.mpr ⟨mk_F151, List.forall_mem_cons.mpr ⟨mk_F152, List.forall_mem_cons.mpr ⟨mk_F153, List.forall_mem_cons.mpr ⟨mk_F154, List.forall_mem_cons.mpr ⟨mk_F155, List.forall_mem_cons.mpr ⟨mk_F156, List.forall_mem_cons.mpr ⟨mk_F157, List.forall_mem_cons.mpr ⟨mk_F158, List.forall_mem_cons.mpr ⟨mk_F159, List.forall_mem_cons.mpr ⟨mk_F160, List.forall_mem_cons.mpr ⟨mk_F161, List.forall_mem_cons.mpr ⟨mk_F162, List.forall_mem_cons.mpr ⟨mk_F163, List.forall_mem_cons.mpr ⟨mk_F164, List.forall_mem_cons.mpr ⟨mk_F165, List.forall_mem_cons.mpr ⟨mk_F166, List.forall_mem_cons.mpr ⟨mk_F167, List.forall_mem_cons.mpr ⟨mk_F168, List.forall_mem_cons.mpr ⟨mk_F169, List.forall_mem_cons.mpr ⟨mk_F170, List.forall_mem_cons.mpr ⟨mk_F171, List.forall_mem_cons.mpr ⟨mk_F172, List.forall_mem_cons.mpr ⟨mk_F173, List.forall_mem_cons.mpr ⟨mk_F174, List.forall_mem_cons.mpr ⟨mk_F175, List.forall_mem_cons.mpr ⟨mk_F176, List.forall_mem_cons.mpr ⟨mk_F177, List.forall_mem_cons.mpr ⟨mk_F178, List.forall_mem_cons.mpr ⟨mk_F179, List.forall_mem_cons.mpr ⟨mk_F180, List.forall_mem_cons.mpr ⟨mk_F181, List.forall_mem_cons.mpr ⟨mk_F182, List.forall_mem_cons.mpr ⟨mk_F183, List.forall_mem_cons.mpr ⟨mk_F184, List.forall_mem_cons.mpr ⟨mk_F185, List.forall_mem_cons.mpr ⟨mk_F186, List.forall_mem_cons.mpr ⟨mk_F187, List.forall_mem_cons.mpr ⟨mk_F188, List.forall_mem_cons.mpr ⟨mk_F189, List.forall_mem_cons.mpr ⟨mk_F190, List.forall_mem_cons.mpr ⟨mk_F191, List.forall_mem_cons.mpr ⟨mk_F192, List.forall_mem_cons.mpr ⟨mk_F193, List.forall_mem_cons.mpr ⟨mk_F194, List.forall_mem_cons.mpr ⟨mk_F195, List.forall_mem_cons.mpr ⟨mk_F196, List.forall_mem_cons.mpr ⟨mk_F197, List.forall_mem_cons.mpr ⟨mk_F198, List.forall_mem_cons.mpr ⟨mk_F199, List.forall_mem_cons.mpr ⟨mk_F200, List.forall_mem_cons.mpr ⟨mk_F201, List.forall_mem_cons.mpr ⟨mk_F202, List.forall_mem_cons.mpr ⟨mk_F203, List.forall_mem_cons.mpr ⟨mk_F204, List.forall_mem_cons.mpr ⟨mk_F205, List.forall_mem_cons.mpr ⟨mk_F206, List.forall_mem_cons.mpr ⟨mk_F207, List.forall_mem_cons.mpr ⟨mk_F208, List.forall_mem_cons.mpr ⟨mk_F209, List.forall_mem_cons.mpr ⟨mk_F210, List.forall_mem_cons.mpr ⟨mk_F211, List.forall_mem_cons.mpr ⟨mk_F212, List.forall_mem_cons.mpr ⟨mk_F213, List.forall_mem_cons.mpr ⟨mk_F214, List.forall_mem_cons.mpr ⟨mk_F215, List.forall_mem_cons.mpr ⟨mk_F216, List.forall_mem_cons.mpr ⟨mk_F217, List.forall_mem_cons.mpr ⟨mk_F218, List.forall_mem_cons.mpr ⟨mk_F219, List.forall_mem_cons.mpr ⟨mk_F220, List.forall_mem_cons.mpr ⟨mk_F221, List.forall_mem_cons.mpr ⟨mk_F222, List.forall_mem_cons.mpr ⟨mk_F223, List.forall_mem_cons.mpr ⟨mk_F224, List.forall_mem_cons.mpr ⟨mk_F225, List.forall_mem_cons.mpr ⟨mk_F226, List.forall_mem_cons.mpr ⟨mk_F227, List.forall_mem_cons.mpr ⟨mk_F228, List.forall_mem_cons.mpr ⟨mk_F229, List.forall_mem_cons.mpr ⟨mk_F230, List.forall_mem_cons.mpr ⟨mk_F231, List.forall_mem_cons.mpr ⟨mk_F232, List.forall_mem_cons.mpr ⟨mk_F233, List.forall_mem_cons.mpr ⟨mk_F234, List.forall_mem_cons.mpr ⟨mk_F235, List.forall_mem_cons.mpr ⟨mk_F236, List.forall_mem_cons.mpr ⟨mk_F237, List.forall_mem_cons.mpr ⟨mk_F238, List.forall_mem_cons.mpr ⟨mk_F239, List.forall_mem_cons.mpr ⟨mk_F240, List.forall_mem_cons.mpr ⟨mk_F241, List.forall_mem_cons.mpr ⟨mk_F242, List.forall_mem_cons.mpr ⟨mk_F243, List.forall_mem_cons.mpr ⟨mk_F244, List.forall_mem_cons.mpr ⟨mk_F245, List.forall_mem_cons.mpr ⟨mk_F246, List.forall_mem_cons.mpr ⟨mk_F247, List.forall_mem_cons.mpr ⟨mk_F248, List.forall_mem_cons.mpr ⟨mk_F249, List.forall_mem_cons.mpr ⟨mk_F250, List.forall_mem_cons.mpr ⟨mk_F251, List.forall_mem_cons.mpr ⟨mk_F252, List.forall_mem_cons.mpr ⟨mk_F253, List.forall_mem_cons.mpr ⟨mk_F254, List.forall_mem_cons.mpr ⟨mk_F255, List.forall_mem_cons.mpr ⟨mk_F256, List.forall_mem_cons.mpr ⟨mk_F257, List.forall_mem_cons.mpr ⟨mk_F258, List.forall_mem_cons.mpr ⟨mk_F259, List.forall_mem_cons.mpr ⟨mk_F260, List.forall_mem_cons.mpr ⟨mk_F261, List.forall_mem_cons.mpr ⟨mk_F262, List.forall_mem_cons.mpr ⟨mk_F263, List.forall_mem_cons.mpr ⟨mk_F264, List.forall_mem_cons.mpr ⟨mk_F265, List.forall_mem_cons.mpr ⟨mk_F266, List.forall_mem_cons.mpr ⟨mk_F267, List.forall_mem_cons.mpr ⟨mk_F268, List.forall_mem_cons.mpr ⟨mk_F269, List.forall_mem_cons.mpr ⟨mk_F270, List.forall_mem_cons.mpr ⟨mk_F271, List.forall_mem_cons.mpr ⟨mk_F272, List.forall_mem_cons.mpr ⟨mk_F273, List.forall_mem_cons.mpr ⟨mk_F274, List.forall_mem_cons.mpr ⟨mk_F275, List.forall_mem_cons.mpr ⟨mk_F276, List.forall_mem_cons.mpr ⟨mk_F277, List.forall_mem_cons.mpr ⟨mk_F278, List.forall_mem_cons.mpr ⟨mk_F279, List.forall_mem_cons.mpr ⟨mk_F280, List.forall_mem_cons.mpr ⟨mk_F281, List.forall_mem_cons.mpr ⟨mk_F282, List.forall_mem_cons.mpr ⟨mk_F283, List.forall_mem_cons.mpr ⟨mk_F284, List.forall_mem_cons.mpr ⟨mk_F285, List.forall_mem_cons.mpr ⟨mk_F286, List.forall_mem_cons.mpr ⟨mk_F287, List.forall_mem_cons.mpr ⟨mk_F288, List.forall_mem_cons.mpr ⟨mk_F289, List.forall_mem_cons.mpr ⟨mk_F290, List.forall_mem_cons.mpr ⟨mk_F291, List.forall_mem_cons.mpr ⟨mk_F292, List.forall_mem_cons.mpr ⟨mk_F293, List.forall_mem_cons.mpr ⟨mk_F294, List.forall_mem_cons.mpr ⟨mk_F295, List.forall_mem_cons.mpr ⟨mk_F296, List.forall_mem_cons.mpr ⟨mk_F297, List.forall_mem_cons.mpr ⟨mk_F298, List.forall_mem_cons.mpr ⟨mk_F299, List.forall_mem_cons.mpr ⟨mk_F300, List.forall_mem_cons.mpr ⟨mk_F301, List.forall_mem_cons.mpr ⟨mk_F302, List.forall_mem_cons.mpr ⟨mk_F303, List.forall_mem_cons.mpr ⟨mk_F304, List.forall_mem_cons.mpr ⟨mk_F305, List.forall_mem_cons.mpr ⟨mk_F306, List.forall_mem_cons.mpr ⟨mk_F307, List.forall_mem_cons.mpr ⟨mk_F308, List.forall_mem_cons.mpr ⟨mk_F309, List.forall_mem_cons.mpr ⟨mk_F310, List.forall_mem_cons.mpr ⟨mk_F311, List.forall_mem_cons.mpr ⟨mk_F312, List.forall_mem_cons.mpr ⟨mk_F313, List.forall_mem_cons.mpr ⟨mk_F314, List.forall_mem_cons.mpr ⟨mk_F315, List.forall_mem_cons.mpr ⟨mk_F316, List.forall_mem_cons.mpr ⟨mk_F317, List.forall_mem_cons.mpr ⟨mk_F318, List.forall_mem_cons.mpr ⟨mk_F319, List.forall_mem_cons.mpr ⟨mk_F320, List.forall_mem_cons.mpr ⟨mk_F321, List.forall_mem_cons.mpr ⟨mk_F322, List.forall_mem_cons.mpr ⟨mk_F323, List.forall_mem_cons.mpr ⟨mk_F324, List.forall_mem_cons.mpr ⟨mk_F325, List.forall_mem_cons.mpr ⟨mk_F326, List.forall_mem_cons.mpr ⟨mk_F327, List.forall_mem_cons.mpr ⟨mk_F328, List.forall_mem_cons.mpr ⟨mk_F329, List.forall_mem_cons.mpr ⟨mk_F330, List.forall_mem_cons.mpr ⟨mk_F331, List.forall_mem_cons.mpr ⟨mk_F332, List.forall_mem_cons.mpr ⟨mk_F333, List.forall_mem_cons.mpr ⟨mk_F334, List.forall_mem_cons.mpr ⟨mk_F335, List.forall_mem_cons.mpr ⟨mk_F336, List.forall_mem_cons.mpr ⟨mk_F337, List.forall_mem_cons.mpr ⟨mk_F338, List.forall_mem_cons.mpr ⟨mk_F339, List.forall_mem_cons.mpr ⟨mk_F340, List.forall_mem_cons.mpr ⟨mk_F341, List.forall_mem_cons.mpr ⟨mk_F342, List.forall_mem_cons.mpr ⟨mk_F343, List.forall_mem_cons.mpr ⟨mk_F344, List.forall_mem_cons.mpr ⟨mk_F345, List.forall_mem_cons.mpr ⟨mk_F346, List.forall_mem_cons.mpr ⟨mk_F347, List.forall_mem_cons.mpr ⟨mk_F348, List.forall_mem_cons.mpr ⟨mk_F349, List.forall_mem_cons.mpr ⟨mk_F350, List.forall_mem_cons.mpr ⟨mk_F351, List.forall_mem_cons.mpr ⟨mk_F352, List.forall_mem_cons.mpr ⟨mk_F353, List.forall_mem_cons.mpr ⟨mk_F354, List.forall_mem_cons.mpr ⟨mk_F355, List.forall_mem_cons.mpr ⟨mk_F356, List.forall_mem_cons.mpr ⟨mk_F357, List.forall_mem_cons.mpr ⟨mk_F358, List.forall_mem_cons.mpr ⟨mk_F359, List.forall_mem_cons.mpr ⟨mk_F360, List.forall_mem_cons.mpr ⟨mk_F361, List.forall_mem_cons.mpr ⟨mk_F362, List.forall_mem_cons.mpr ⟨mk_F363, List.forall_mem_cons.mpr ⟨mk_F364, List.forall_mem_cons.mpr ⟨mk_F365, List.forall_mem_cons.mpr ⟨mk_F366, List.forall_mem_cons.mpr ⟨mk_F367, List.forall_mem_cons.mpr ⟨mk_F368, List.forall_mem_cons.mpr ⟨mk_F369, List.forall_mem_cons.mpr ⟨mk_F370, List.forall_mem_cons.mpr ⟨mk_F371, List.forall_mem_cons.mpr ⟨mk_F372, List.forall_mem_cons.mpr ⟨mk_F373, List.forall_mem_cons.mpr ⟨mk_F374, List.forall_mem_cons.mpr ⟨mk_F375, List.forall_mem_cons.mpr ⟨mk_F376, List.forall_mem_cons.mpr ⟨mk_F377, List.forall_mem_cons.mpr ⟨mk_F378, List.forall_mem_cons.mpr ⟨mk_F379, List.forall_mem_cons.mpr ⟨mk_F380, List.forall_mem_cons.mpr ⟨mk_F381, List.forall_mem_cons.mpr ⟨mk_F382, List.forall_mem_cons.mpr ⟨mk_F383, List.forall_mem_cons.mpr ⟨mk_F384, List.forall_mem_cons.mpr ⟨mk_F385, List.forall_mem_cons.mpr ⟨mk_F386, List.forall_mem_cons.mpr ⟨mk_F387, List.forall_mem_cons.mpr ⟨mk_F388, List.forall_mem_cons.mpr ⟨mk_F389, List.forall_mem_cons.mpr ⟨mk_F390, List.forall_mem_cons.mpr ⟨mk_F391, List.forall_mem_cons.mpr ⟨mk_F392, List.forall_mem_cons.mpr ⟨mk_F393, List.forall_mem_cons.mpr ⟨mk_F394, List.forall_mem_cons.mpr ⟨mk_F395, List.forall_mem_cons.mpr ⟨mk_F396, List.forall_mem_cons.mpr ⟨mk_F397, List.forall_mem_cons.mpr ⟨mk_F398, List.forall_mem_cons.mpr ⟨mk_F399, List.forall_mem_cons.mpr ⟨mk_F400, List.forall_mem_cons.mpr ⟨mk_F401, List.forall_mem_cons.mpr ⟨mk_F402, List.forall_mem_cons.mpr ⟨mk_F403, List.forall_mem_cons.mpr ⟨mk_F404, List.forall_mem_cons.mpr ⟨mk_F405, List.forall_mem_cons.mpr ⟨mk_F406, List.forall_mem_cons.mpr ⟨mk_F407, List.forall_mem_cons.mpr ⟨mk_F408, List.forall_mem_cons.mpr ⟨mk_F409, List.forall_mem_cons.mpr ⟨mk_F410, List.forall_mem_cons.mpr ⟨mk_F411, List.forall_mem_cons.mpr ⟨mk_F412, List.forall_mem_cons.mpr ⟨mk_F413, List.forall_mem_cons.mpr ⟨mk_F414, List.forall_mem_cons.mpr ⟨mk_F415, List.forall_mem_cons.mpr ⟨mk_F416, fun _ h => absurd h List.not_mem_nil⟩⟩⟩⟩⟩⟩⟩⟩⟩⟩⟩⟩⟩⟩⟩⟩⟩⟩⟩⟩⟩⟩⟩⟩⟩⟩⟩⟩⟩⟩⟩⟩⟩⟩⟩⟩⟩⟩⟩⟩⟩⟩⟩⟩⟩⟩⟩⟩⟩⟩⟩⟩⟩⟩⟩⟩⟩⟩⟩⟩⟩⟩⟩⟩⟩⟩⟩⟩⟩⟩⟩⟩⟩⟩⟩⟩⟩⟩⟩⟩⟩⟩⟩⟩⟩⟩⟩⟩⟩⟩⟩⟩⟩⟩⟩⟩⟩⟩⟩⟩⟩⟩⟩⟩⟩⟩⟩⟩⟩⟩⟩⟩⟩⟩⟩⟩⟩⟩⟩⟩⟩⟩⟩⟩⟩⟩⟩⟩⟩⟩⟩⟩⟩⟩⟩⟩⟩⟩⟩⟩⟩⟩⟩⟩⟩⟩⟩⟩⟩⟩⟩⟩⟩⟩⟩⟩⟩⟩⟩⟩⟩⟩⟩⟩⟩⟩⟩⟩⟩⟩⟩⟩⟩⟩⟩⟩⟩⟩⟩⟩⟩⟩⟩⟩⟩⟩⟩⟩⟩⟩⟩⟩⟩⟩⟩⟩⟩⟩⟩⟩⟩⟩⟩⟩⟩⟩⟩⟩⟩⟩⟩⟩⟩⟩⟩⟩⟩⟩⟩⟩⟩⟩⟩⟩⟩⟩⟩⟩⟩⟩⟩⟩⟩⟩⟩⟩⟩⟩⟩⟩⟩⟩⟩⟩⟩⟩⟩⟩⟩⟩⟩⟩⟩⟩⟩⟩⟩⟩⟩⟩⟩⟩⟩⟩⟩⟩⟩⟩⟩⟩⟩⟩⟩⟩⟩⟩⟩⟩⟩⟩⟩⟩⟩⟩⟩⟩⟩⟩⟩⟩⟩⟩⟩⟩⟩⟩⟩⟩⟩⟩⟩⟩⟩⟩⟩⟩⟩⟩⟩⟩⟩⟩⟩⟩⟩⟩⟩⟩⟩⟩⟩⟩⟩⟩⟩⟩⟩⟩⟩⟩⟩⟩⟩⟩⟩⟩⟩⟩⟩⟩⟩⟩⟩⟩⟩⟩⟩⟩⟩⟩⟩⟩⟩⟩⟩⟩⟩⟩⟩⟩⟩⟩⟩⟩⟩⟩⟩⟩⟩⟩⟩⟩⟩⟩⟩⟩⟩⟩⟩⟩⟩⟩⟩⟩⟩⟩⟩⟩⟩⟩⟩⟩⟩⟩⟩⟩⟩⟩⟩⟩⟩⟩⟩⟩⟩⟩⟩⟩⟩⟩⟩⟩⟩⟩⟩⟩⟩
def mk_K : List (Nat × Nat × Int) := [(0, 80, 1000000), (3, 55, 1000000), (4, 115, 1000000), (14, 26, 52000)]
set_option maxRecDepth 100000 in
theorem mk_K0 : Jvm.Cond.constant (mk_nm 0) 80 (Int32.ofInt (1000000)) ∈ ms_tb := mk_tb (mk_sub3 (List.mem_of_getElem? (i := 145) rfl) rfl)
set_option maxRecDepth 100000 in
theorem mk_K1 : Jvm.Cond.constant (mk_nm 3) 55 (Int32.ofInt (1000000)) ∈ ms_tb := mk_tb (mk_sub6 (List.mem_of_getElem? (i := 61) rfl) rfl)
set_option maxRecDepth 100000 in
theorem mk_K2 : Jvm.Cond.constant (mk_nm 4) 115 (Int32.ofInt (1000000)) ∈ ms_tb := mk_tb (mk_sub7 (List.mem_of_getElem? (i := 54) rfl) rfl)
set_option maxRecDepth 100000 in
theorem mk_K3 : Jvm.Cond.constant (mk_nm 14) 26 (Int32.ofInt (52000)) ∈ ms_tb := mk_tb (mk_sub8 (List.mem_of_getElem? (i := 123) rfl) rfl)
set_option maxRecDepth 100000 in
theorem mk_K_ok : ∀ t ∈ mk_K, Jvm.Cond.constant (mk_nm t.1) t.2.1 (Int32.ofInt t.2.2) ∈ ms_tb := List.forall_mem_cons.mpr ⟨mk_K0, List.forall_mem_cons.mpr ⟨mk_K1, List.forall_mem_cons.mpr ⟨mk_K2, List.forall_mem_cons.mpr ⟨mk_K3, fun _ h => absurd h List.not_mem_nil⟩⟩⟩⟩
def mk_L : List (Nat × Nat × Int) := [(1, 229, -1), (2, 205, -2147483648), (2, 207, 2147483647), (3, 254, 64), (3, 313, -2147483648), (3, 315, 2147483647), (5, 129, -1), (5, 135, -2147483648), (5, 137, 2147483647), (8, 22, 2147483647), (8, 24, 2147483648), (8, 50, 2), (8, 77, -2147483648), (8, 102, -2), (10, 80, 2147483647), (10, 82, 10), (10, 84, 48), (11, 168, -1099511627776), (11, 367, 10), (11, 369, 48), (12, 101, -2147483648), (12, 103, 2147483647), (12, 170, 2), (12, 188, 9223372036854775807), (12, 190, -9223372036854775808), (12, 192, -1), (13, 23, 2147483647), (13, 25, 2147483648), (13, 52, 2), (13, 85, -2147483648), (14, 218, 2147483647), (14, 220, 10), (14, 222, 48), (14, 430, -2147483648), (14, 506, -1099511627776), (14, 525, 1099511627776), (14, 562, 9), (19, 47, 4294967295)]
set_option maxRecDepth 100000 in
theorem mk_L0 : Jvm.Cond.constantLong (mk_nm 1) 229 (Int64.ofInt (-1)) ∈ ms_tb := mk_tb (mk_sub4 (List.mem_of_getElem? (i := 133) rfl) rfl)
set_option maxRecDepth 100000 in
theorem mk_L1 : Jvm.Cond.constantLong (mk_nm 2) 205 (Int64.ofInt (-2147483648)) ∈ ms_tb := mk_tb (mk_sub8 (List.mem_of_getElem? (i := 5) rfl) rfl)
set_option maxRecDepth 100000 in
theorem mk_L2 : Jvm.Cond.constantLong (mk_nm 2) 207 (Int64.ofInt (2147483647)) ∈ ms_tb := mk_tb (mk_sub8 (List.mem_of_getElem? (i := 6) rfl) rfl)
set_option maxRecDepth 100000 in
theorem mk_L3 : Jvm.Cond.constantLong (mk_nm 3) 254 (Int64.ofInt (64)) ∈ ms_tb := mk_tb (mk_sub6 (List.mem_of_getElem? (i := 206) rfl) rfl)
set_option maxRecDepth 100000 in
theorem mk_L4 : Jvm.Cond.constantLong (mk_nm 3) 313 (Int64.ofInt (-2147483648)) ∈ ms_tb := mk_tb (mk_sub6 (List.mem_of_getElem? (i := 239) rfl) rfl)
set_option maxRecDepth 100000 in
theorem mk_L5 : Jvm.Cond.constantLong (mk_nm 3) 315 (Int64.ofInt (2147483647)) ∈ ms_tb := mk_tb (mk_sub7 (List.mem_of_getElem? (i := 0) rfl) rfl)
set_option maxRecDepth 100000 in
theorem mk_L6 : Jvm.Cond.constantLong (mk_nm 5) 129 (Int64.ofInt (-1)) ∈ ms_tb := mk_tb (mk_sub4 (List.mem_of_getElem? (i := 92) rfl) rfl)
set_option maxRecDepth 100000 in
theorem mk_L7 : Jvm.Cond.constantLong (mk_nm 5) 135 (Int64.ofInt (-2147483648)) ∈ ms_tb := mk_tb (mk_sub4 (List.mem_of_getElem? (i := 116) rfl) rfl)
set_option maxRecDepth 100000 in
theorem mk_L8 : Jvm.Cond.constantLong (mk_nm 5) 137 (Int64.ofInt (2147483647)) ∈ ms_tb := mk_tb (mk_sub4 (List.mem_of_getElem? (i := 117) rfl) rfl)
set_option maxRecDepth 100000 in
theorem mk_L9 : Jvm.Cond.constantLong (mk_nm 8) 22 (Int64.ofInt (2147483647)) ∈ ms_tb := mk_tb (mk_sub3 (List.mem_of_getElem? (i := 224) rfl) rfl)
set_option maxRecDepth 100000 in
theorem mk_L10 : Jvm.Cond.constantLong (mk_nm 8) 24 (Int64.ofInt (2147483648)) ∈ ms_tb := mk_tb (mk_sub3 (List.mem_of_getElem? (i := 225) rfl) rfl)
set_option maxRecDepth 100000 in
theorem mk_L11 : Jvm.Cond.constantLong (mk_nm 8) 50 (Int64.ofInt (2)) ∈ ms_tb := mk_tb (mk_sub4 (List.mem_of_getElem? (i := 11) rfl) rfl)
set_option maxRecDepth 100000 in
theorem mk_L12 : Jvm.Cond.constantLong (mk_nm 8) 77 (Int64.ofInt (-2147483648)) ∈ ms_tb := mk_tb (mk_sub3 (List.mem_of_getElem? (i := 226) rfl) rfl)
set_option maxRecDepth 100000 in
theorem mk_L13 : Jvm.Cond.constantLong (mk_nm 8) 102 (Int64.ofInt (-2)) ∈ ms_tb := mk_tb (mk_sub4 (List.mem_of_getElem? (i := 6) rfl) rfl)
set_option maxRecDepth 100000 in
theorem mk_L14 : Jvm.Cond.constantLong (mk_nm 10) 80 (Int64.ofInt (2147483647)) ∈ ms_tb := mk_tb (mk_sub5 (List.mem_of_getElem? (i := 64) rfl) rfl)
set_option maxRecDepth 100000 in
theorem mk_L15 : Jvm.Cond.constantLong (mk_nm 10) 82 (Int64.ofInt (10)) ∈ ms_tb := mk_tb (mk_sub5 (List.mem_of_getElem? (i := 65) rfl) rfl)
set_option maxRecDepth 100000 in
theorem mk_L16 : Jvm.Cond.constantLong (mk_nm 10) 84 (Int64.ofInt (48)) ∈ ms_tb := mk_tb (mk_sub5 (List.mem_of_getElem? (i := 66) rfl) rfl)
set_option maxRecDepth 100000 in
theorem mk_L17 : Jvm.Cond.constantLong (mk_nm 11) 168 (Int64.ofInt (-1099511627776)) ∈ ms_tb := mk_tb (mk_sub7 (List.mem_of_getElem? (i := 125) rfl) rfl)
set_option maxRecDepth 100000 in
theorem mk_L18 : Jvm.Cond.constantLong (mk_nm 11) 367 (Int64.ofInt (10)) ∈ ms_tb := mk_tb (mk_sub8 (List.mem_of_getElem? (i := 90) rfl) rfl)
set_option maxRecDepth 100000 in
theorem mk_L19 : Jvm.Cond.constantLong (mk_nm 11) 369 (Int64.ofInt (48)) ∈ ms_tb := mk_tb (mk_sub8 (List.mem_of_getElem? (i := 91) rfl) rfl)
set_option maxRecDepth 100000 in
theorem mk_L20 : Jvm.Cond.constantLong (mk_nm 12) 101 (Int64.ofInt (-2147483648)) ∈ ms_tb := mk_tb (mk_sub11 (List.mem_of_getElem? (i := 131) rfl) rfl)
set_option maxRecDepth 100000 in
theorem mk_L21 : Jvm.Cond.constantLong (mk_nm 12) 103 (Int64.ofInt (2147483647)) ∈ ms_tb := mk_tb (mk_sub11 (List.mem_of_getElem? (i := 132) rfl) rfl)
set_option maxRecDepth 100000 in
theorem mk_L22 : Jvm.Cond.constantLong (mk_nm 12) 170 (Int64.ofInt (2)) ∈ ms_tb := mk_tb (mk_sub11 (List.mem_of_getElem? (i := 141) rfl) rfl)
set_option maxRecDepth 100000 in
theorem mk_L23 : Jvm.Cond.constantLong (mk_nm 12) 188 (Int64.ofInt (9223372036854775807)) ∈ ms_tb := mk_tb (mk_sub11 (List.mem_of_getElem? (i := 155) rfl) rfl)
set_option maxRecDepth 100000 in
theorem mk_L24 : Jvm.Cond.constantLong (mk_nm 12) 190 (Int64.ofInt (-9223372036854775808)) ∈ ms_tb := mk_tb (mk_sub11 (List.mem_of_getElem? (i := 156) rfl) rfl)
set_option maxRecDepth 100000 in
theorem mk_L25 : Jvm.Cond.constantLong (mk_nm 12) 192 (Int64.ofInt (-1)) ∈ ms_tb := mk_tb (mk_sub11 (List.mem_of_getElem? (i := 157) rfl) rfl)
set_option maxRecDepth 100000 in
theorem mk_L26 : Jvm.Cond.constantLong (mk_nm 13) 23 (Int64.ofInt (2147483647)) ∈ ms_tb := mk_tb (mk_sub11 (List.mem_of_getElem? (i := 236) rfl) rfl)
set_option maxRecDepth 100000 in
theorem mk_L27 : Jvm.Cond.constantLong (mk_nm 13) 25 (Int64.ofInt (2147483648)) ∈ ms_tb := mk_tb (mk_sub11 (List.mem_of_getElem? (i := 237) rfl) rfl)
set_option maxRecDepth 100000 in
theorem mk_L28 : Jvm.Cond.constantLong (mk_nm 13) 52 (Int64.ofInt (2)) ∈ ms_tb := mk_tb (mk_sub11 (List.mem_of_getElem? (i := 116) rfl) rfl)
set_option maxRecDepth 100000 in
theorem mk_L29 : Jvm.Cond.constantLong (mk_nm 13) 85 (Int64.ofInt (-2147483648)) ∈ ms_tb := mk_tb (mk_sub11 (List.mem_of_getElem? (i := 238) rfl) rfl)
set_option maxRecDepth 100000 in
theorem mk_L30 : Jvm.Cond.constantLong (mk_nm 14) 218 (Int64.ofInt (2147483647)) ∈ ms_tb := mk_tb (mk_sub10 (List.mem_of_getElem? (i := 99) rfl) rfl)
set_option maxRecDepth 100000 in
theorem mk_L31 : Jvm.Cond.constantLong (mk_nm 14) 220 (Int64.ofInt (10)) ∈ ms_tb := mk_tb (mk_sub10 (List.mem_of_getElem? (i := 100) rfl) rfl)
set_option maxRecDepth 100000 in
theorem mk_L32 : Jvm.Cond.constantLong (mk_nm 14) 222 (Int64.ofInt (48)) ∈ ms_tb := mk_tb (mk_sub10 (List.mem_of_getElem? (i := 101) rfl) rfl)
set_option maxRecDepth 100000 in
theorem mk_L33 : Jvm.Cond.constantLong (mk_nm 14) 430 (Int64.ofInt (-2147483648)) ∈ ms_tb := mk_tb (mk_sub12 (List.mem_of_getElem? (i := 108) rfl) rfl)
set_option maxRecDepth 100000 in
theorem mk_L34 : Jvm.Cond.constantLong (mk_nm 14) 506 (Int64.ofInt (-1099511627776)) ∈ ms_tb := mk_tb (mk_sub12 (List.mem_of_getElem? (i := 169) rfl) rfl)
set_option maxRecDepth 100000 in
theorem mk_L35 : Jvm.Cond.constantLong (mk_nm 14) 525 (Int64.ofInt (1099511627776)) ∈ ms_tb := mk_tb (mk_sub12 (List.mem_of_getElem? (i := 183) rfl) rfl)
set_option maxRecDepth 100000 in
theorem mk_L36 : Jvm.Cond.constantLong (mk_nm 14) 562 (Int64.ofInt (9)) ∈ ms_tb := mk_tb (mk_sub12 (List.mem_of_getElem? (i := 237) rfl) rfl)
set_option maxRecDepth 100000 in
theorem mk_L37 : Jvm.Cond.constantLong (mk_nm 19) 47 (Int64.ofInt (4294967295)) ∈ ms_tb := mk_tb (mk_sub13 (List.mem_of_getElem? (i := 13) rfl) rfl)
set_option maxRecDepth 100000 in
theorem mk_L_ok : ∀ t ∈ mk_L, Jvm.Cond.constantLong (mk_nm t.1) t.2.1 (Int64.ofInt t.2.2) ∈ ms_tb := List.forall_mem_cons.mpr ⟨mk_L0, List.forall_mem_cons.mpr ⟨mk_L1, List.forall_mem_cons.mpr ⟨mk_L2, List.forall_mem_cons.mpr ⟨mk_L3, List.forall_mem_cons.mpr ⟨mk_L4, List.forall_mem_cons.mpr ⟨mk_L5, List.forall_mem_cons.mpr ⟨mk_L6, List.forall_mem_cons.mpr ⟨mk_L7, List.forall_mem_cons.mpr ⟨mk_L8, List.forall_mem_cons.mpr ⟨mk_L9, List.forall_mem_cons.mpr ⟨mk_L10, List.forall_mem_cons.mpr ⟨mk_L11, List.forall_mem_cons.mpr ⟨mk_L12, List.forall_mem_cons.mpr ⟨mk_L13, List.forall_mem_cons.mpr ⟨mk_L14, List.forall_mem_cons.mpr ⟨mk_L15, List.forall_mem_cons.mpr ⟨mk_L16, List.forall_mem_cons.mpr ⟨mk_L17, List.forall_mem_cons.mpr ⟨mk_L18, List.forall_mem_cons.mpr ⟨mk_L19, List.forall_mem_cons.mpr ⟨mk_L20, List.forall_mem_cons.mpr ⟨mk_L21, List.forall_mem_cons.mpr ⟨mk_L22, List.forall_mem_cons.mpr ⟨mk_L23, List.forall_mem_cons.mpr ⟨mk_L24, List.forall_mem_cons.mpr ⟨mk_L25, List.forall_mem_cons.mpr ⟨mk_L26, List.forall_mem_cons.mpr ⟨mk_L27, List.forall_mem_cons.mpr ⟨mk_L28, List.forall_mem_cons.mpr ⟨mk_L29, List.forall_mem_cons.mpr ⟨mk_L30, List.forall_mem_cons.mpr ⟨mk_L31, List.forall_mem_cons.mpr ⟨mk_L32, List.forall_mem_cons.mpr ⟨mk_L33, List.forall_mem_cons.mpr ⟨mk_L34, List.forall_mem_cons.mpr ⟨mk_L35, List.forall_mem_cons.mpr ⟨mk_L36, List.forall_mem_cons.mpr ⟨mk_L37, fun _ h => absurd h List.not_mem_nil⟩⟩⟩⟩⟩⟩⟩⟩⟩⟩⟩⟩⟩⟩⟩⟩⟩⟩⟩⟩⟩⟩⟩⟩⟩⟩⟩⟩⟩⟩⟩⟩⟩⟩⟩⟩⟩⟩
def mk_C : List (Nat × Nat × Nat) := [(0, 9, 8), (1, 9, 5), (1, 18, 8), (3, 27, 6), (4, 9, 10), (4, 20, 7), (4, 29, 9), (7, 36, 9), (11, 13, 4), (11, 20, 1), (11, 29, 0), (11, 38, 2), (11, 45, 8), (11, 68, 10), (11, 76, 7), (11, 80, 3), (12, 9, 13), (14, 118, 12), (14, 125, 13), (19, 7, 11), (19, 10, 14)]
set_option maxRecDepth 100000 in
theorem mk_C0 : ∃ q, mt_cl[8]? = some q ∧ Jvm.Cond.classLink (mk_nm 0) 9 q.1 ∈ ms_tb ∧ Jvm.Cond.instantiable q.1 q.2.2 ∈ ms_tb ∧ Jvm.Cond.initialized q.1 ∈ ms_tb := ⟨_, rfl, mk_tb (mk_sub3 (List.mem_of_getElem? (i := 21) rfl) rfl), mk_tb (mk_sub2 (List.mem_of_getElem? (i := 186) rfl) rfl), mk_tb (mk_sub1 (List.mem_of_getElem? (i := 11) rfl) rfl)⟩
set_option maxRecDepth 100000 in
theorem mk_C1 : ∃ q, mt_cl[5]? = some q ∧ Jvm.Cond.classLink (mk_nm 1) 9 q.1 ∈ ms_tb ∧ Jvm.Cond.instantiable q.1 q.2.2 ∈ ms_tb ∧ Jvm.Cond.initialized q.1 ∈ ms_tb := ⟨_, rfl, mk_tb (mk_sub2 (List.mem_of_getElem? (i := 114) rfl) rfl), mk_tb (mk_sub2 (List.mem_of_getElem? (i := 115) rfl) rfl), mk_tb (mk_sub1 (List.mem_of_getElem? (i := 10) rfl) rfl)⟩
set_option maxRecDepth 100000 in
theorem mk_C2 : ∃ q, mt_cl[8]? = some q ∧ Jvm.Cond.classLink (mk_nm 1) 18 q.1 ∈ ms_tb ∧ Jvm.Cond.instantiable q.1 q.2.2 ∈ ms_tb ∧ Jvm.Cond.initialized q.1 ∈ ms_tb := ⟨_, rfl, mk_tb (mk_sub2 (List.mem_of_getElem? (i := 185) rfl) rfl), mk_tb (mk_sub2 (List.mem_of_getElem? (i := 186) rfl) rfl), mk_tb (mk_sub1 (List.mem_of_getElem? (i := 11) rfl) rfl)⟩
set_option maxRecDepth 100000 in
theorem mk_C3 : ∃ q, mt_cl[6]? = some q ∧ Jvm.Cond.classLink (mk_nm 3) 27 q.1 ∈ ms_tb ∧ Jvm.Cond.instantiable q.1 q.2.2 ∈ ms_tb ∧ Jvm.Cond.initialized q.1 ∈ ms_tb := ⟨_, rfl, mk_tb (mk_sub5 (List.mem_of_getElem? (i := 208) rfl) rfl), mk_tb (mk_sub5 (List.mem_of_getElem? (i := 209) rfl) rfl), mk_tb (mk_sub1 (List.mem_of_getElem? (i := 23) rfl) rfl)⟩
set_option maxRecDepth 100000 in
theorem mk_C4 : ∃ q, mt_cl[10]? = some q ∧ Jvm.Cond.classLink (mk_nm 4) 9 q.1 ∈ ms_tb ∧ Jvm.Cond.instantiable q.1 q.2.2 ∈ ms_tb ∧ Jvm.Cond.initialized q.1 ∈ ms_tb := ⟨_, rfl, mk_tb (mk_sub1 (List.mem_of_getElem? (i := 38) rfl) rfl), mk_tb (mk_sub1 (List.mem_of_getElem? (i := 39) rfl) rfl), mk_tb (mk_sub1 (List.mem_of_getElem? (i := 3) rfl) rfl)⟩
set_option maxRecDepth 100000 in
theorem mk_C5 : ∃ q, mt_cl[7]? = some q ∧ Jvm.Cond.classLink (mk_nm 4) 20 q.1 ∈ ms_tb ∧ Jvm.Cond.instantiable q.1 q.2.2 ∈ ms_tb ∧ Jvm.Cond.initialized q.1 ∈ ms_tb := ⟨_, rfl, mk_tb (mk_sub1 (List.mem_of_getElem? (i := 84) rfl) rfl), mk_tb (mk_sub1 (List.mem_of_getElem? (i := 85) rfl) rfl), mk_tb (mk_sub1 (List.mem_of_getElem? (i := 7) rfl) rfl)⟩
set_option maxRecDepth 100000 in
theorem mk_C6 : ∃ q, mt_cl[9]? = some q ∧ Jvm.Cond.classLink (mk_nm 4) 29 q.1 ∈ ms_tb ∧ Jvm.Cond.instantiable q.1 q.2.2 ∈ ms_tb ∧ Jvm.Cond.initialized q.1 ∈ ms_tb := ⟨_, rfl, mk_tb (mk_sub1 (List.mem_of_getElem? (i := 162) rfl) rfl), mk_tb (mk_sub1 (List.mem_of_getElem? (i := 167) rfl) rfl), mk_tb (mk_sub1 (List.mem_of_getElem? (i := 8) rfl) rfl)⟩
set_option maxRecDepth 100000 in
theorem mk_C7 : ∃ q, mt_cl[9]? = some q ∧ Jvm.Cond.classLink (mk_nm 7) 36 q.1 ∈ ms_tb ∧ Jvm.Cond.instantiable q.1 q.2.2 ∈ ms_tb ∧ Jvm.Cond.initialized q.1 ∈ ms_tb := ⟨_, rfl, mk_tb (mk_sub1 (List.mem_of_getElem? (i := 90) rfl) rfl), mk_tb (mk_sub1 (List.mem_of_getElem? (i := 167) rfl) rfl), mk_tb (mk_sub1 (List.mem_of_getElem? (i := 8) rfl) rfl)⟩
set_option maxRecDepth 100000 in
theorem mk_C8 : ∃ q, mt_cl[4]? = some q ∧ Jvm.Cond.classLink (mk_nm 11) 13 q.1 ∈ ms_tb ∧ Jvm.Cond.instantiable q.1 q.2.2 ∈ ms_tb ∧ Jvm.Cond.initialized q.1 ∈ ms_tb := ⟨_, rfl, mk_tb (mk_sub1 (List.mem_of_getElem? (i := 32) rfl) rfl), mk_tb (mk_sub1 (List.mem_of_getElem? (i := 33) rfl) rfl), mk_tb (mk_sub1 (List.mem_of_getElem? (i := 2) rfl) rfl)⟩
set_option maxRecDepth 100000 in
theorem mk_C9 : ∃ q, mt_cl[1]? = some q ∧ Jvm.Cond.classLink (mk_nm 11) 20 q.1 ∈ ms_tb ∧ Jvm.Cond.instantiable q.1 q.2.2 ∈ ms_tb ∧ Jvm.Cond.initialized q.1 ∈ ms_tb := ⟨_, rfl, mk_tb (mk_sub2 (List.mem_of_getElem? (i := 108) rfl) rfl), mk_tb (mk_sub2 (List.mem_of_getElem? (i := 109) rfl) rfl), mk_tb (mk_sub1 (List.mem_of_getElem? (i := 9) rfl) rfl)⟩
set_option maxRecDepth 100000 in
theorem mk_C10 : ∃ q, mt_cl[0]? = some q ∧ Jvm.Cond.classLink (mk_nm 11) 29 q.1 ∈ ms_tb ∧ Jvm.Cond.instantiable q.1 q.2.2 ∈ ms_tb ∧ Jvm.Cond.initialized q.1 ∈ ms_tb := ⟨_, rfl, mk_tb (mk_sub3 (List.mem_of_getElem? (i := 15) rfl) rfl), mk_tb (mk_sub3 (List.mem_of_getElem? (i := 16) rfl) rfl), mk_tb (mk_sub1 (List.mem_of_getElem? (i := 12) rfl) rfl)⟩
set_option maxRecDepth 100000 in
theorem mk_C11 : ∃ q, mt_cl[2]? = some q ∧ Jvm.Cond.classLink (mk_nm 11) 38 q.1 ∈ ms_tb ∧ Jvm.Cond.instantiable q.1 q.2.2 ∈ ms_tb ∧ Jvm.Cond.initialized q.1 ∈ ms_tb := ⟨_, rfl, mk_tb (mk_sub3 (List.mem_of_getElem? (i := 82) rfl) rfl), mk_tb (mk_sub3 (List.mem_of_getElem? (i := 83) rfl) rfl), mk_tb (mk_sub1 (List.mem_of_getElem? (i := 13) rfl) rfl)⟩
set_option maxRecDepth 100000 in
theorem mk_C12 : ∃ q, mt_cl[8]? = some q ∧ Jvm.Cond.classLink (mk_nm 11) 45 q.1 ∈ ms_tb ∧ Jvm.Cond.instantiable q.1 q.2.2 ∈ ms_tb ∧ Jvm.Cond.initialized q.1 ∈ ms_tb := ⟨_, rfl, mk_tb (mk_sub3 (List.mem_of_getElem? (i := 136) rfl) rfl), mk_tb (mk_sub2 (List.mem_of_getElem? (i := 186) rfl) rfl), mk_tb (mk_sub1 (List.mem_of_getElem? (i := 11) rfl) rfl)⟩
set_option maxRecDepth 100000 in
theorem mk_C13 : ∃ q, mt_cl[10]? = some q ∧ Jvm.Cond.classLink (mk_nm 11) 68 q.1 ∈ ms_tb ∧ Jvm.Cond.instantiable q.1 q.2.2 ∈ ms_tb ∧ Jvm.Cond.initialized q.1 ∈ ms_tb := ⟨_, rfl, mk_tb (mk_sub5 (List.mem_of_getElem? (i := 28) rfl) rfl), mk_tb (mk_sub1 (List.mem_of_getElem? (i := 39) rfl) rfl), mk_tb (mk_sub1 (List.mem_of_getElem? (i := 3) rfl) rfl)⟩
set_option maxRecDepth 100000 in
theorem mk_C14 : ∃ q, mt_cl[7]? = some q ∧ Jvm.Cond.classLink (mk_nm 11) 76 q.1 ∈ ms_tb ∧ Jvm.Cond.instantiable q.1 q.2.2 ∈ ms_tb ∧ Jvm.Cond.initialized q.1 ∈ ms_tb := ⟨_, rfl, mk_tb (mk_sub5 (List.mem_of_getElem? (i := 200) rfl) rfl), mk_tb (mk_sub1 (List.mem_of_getElem? (i := 85) rfl) rfl), mk_tb (mk_sub1 (List.mem_of_getElem? (i := 7) rfl) rfl)⟩
set_option maxRecDepth 100000 in
theorem mk_C15 : ∃ q, mt_cl[3]? = some q ∧ Jvm.Cond.classLink (mk_nm 11) 80 q.1 ∈ ms_tb ∧ Jvm.Cond.instantiable q.1 q.2.2 ∈ ms_tb ∧ Jvm.Cond.initialized q.1 ∈ ms_tb := ⟨_, rfl, mk_tb (mk_sub5 (List.mem_of_getElem? (i := 202) rfl) rfl), mk_tb (mk_sub5 (List.mem_of_getElem? (i := 203) rfl) rfl), mk_tb (mk_sub1 (List.mem_of_getElem? (i := 22) rfl) rfl)⟩
set_option maxRecDepth 100000 in
theorem mk_C16 : ∃ q, mt_cl[13]? = some q ∧ Jvm.Cond.classLink (mk_nm 12) 9 q.1 ∈ ms_tb ∧ Jvm.Cond.instantiable q.1 q.2.2 ∈ ms_tb ∧ Jvm.Cond.initialized q.1 ∈ ms_tb := ⟨_, rfl, mk_tb (mk_sub8 (List.mem_of_getElem? (i := 130) rfl) rfl), mk_tb (mk_sub8 (List.mem_of_getElem? (i := 132) rfl) rfl), mk_tb (mk_sub1 (List.mem_of_getElem? (i := 16) rfl) rfl)⟩
set_option maxRecDepth 100000 in
theorem mk_C17 : ∃ q, mt_cl[12]? = some q ∧ Jvm.Cond.classLink (mk_nm 14) 118 q.1 ∈ ms_tb ∧ Jvm.Cond.instantiable q.1 q.2.2 ∈ ms_tb ∧ Jvm.Cond.initialized q.1 ∈ ms_tb := ⟨_, rfl, mk_tb (mk_sub8 (List.mem_of_getElem? (i := 124) rfl) rfl), mk_tb (mk_sub8 (List.mem_of_getElem? (i := 125) rfl) rfl), mk_tb (mk_sub1 (List.mem_of_getElem? (i := 15) rfl) rfl)⟩
set_option maxRecDepth 100000 in
theorem mk_C18 : ∃ q, mt_cl[13]? = some q ∧ Jvm.Cond.classLink (mk_nm 14) 125 q.1 ∈ ms_tb ∧ Jvm.Cond.instantiable q.1 q.2.2 ∈ ms_tb ∧ Jvm.Cond.initialized q.1 ∈ ms_tb := ⟨_, rfl, mk_tb (mk_sub9 (List.mem_of_getElem? (i := 47) rfl) rfl), mk_tb (mk_sub8 (List.mem_of_getElem? (i := 132) rfl) rfl), mk_tb (mk_sub1 (List.mem_of_getElem? (i := 16) rfl) rfl)⟩
set_option maxRecDepth 100000 in
theorem mk_C19 : ∃ q, mt_cl[11]? = some q ∧ Jvm.Cond.classLink (mk_nm 19) 7 q.1 ∈ ms_tb ∧ Jvm.Cond.instantiable q.1 q.2.2 ∈ ms_tb ∧ Jvm.Cond.initialized q.1 ∈ ms_tb := ⟨_, rfl, mk_tb (mk_sub1 (List.mem_of_getElem? (i := 24) rfl) rfl), mk_tb (mk_sub1 (List.mem_of_getElem? (i := 25) rfl) rfl), mk_tb (mk_sub1 (List.mem_of_getElem? (i := 1) rfl) rfl)⟩
set_option maxRecDepth 100000 in
theorem mk_C20 : ∃ q, mt_cl[14]? = some q ∧ Jvm.Cond.classLink (mk_nm 19) 10 q.1 ∈ ms_tb ∧ Jvm.Cond.instantiable q.1 q.2.2 ∈ ms_tb ∧ Jvm.Cond.initialized q.1 ∈ ms_tb := ⟨_, rfl, mk_tb (mk_sub8 (List.mem_of_getElem? (i := 117) rfl) rfl), mk_tb (mk_sub8 (List.mem_of_getElem? (i := 118) rfl) rfl), mk_tb (mk_sub1 (List.mem_of_getElem? (i := 14) rfl) rfl)⟩
set_option maxRecDepth 100000 in
theorem mk_C_ok : ∀ t ∈ mk_C, ∃ q, mt_cl[t.2.2]? = some q ∧ Jvm.Cond.classLink (mk_nm t.1) t.2.1 q.1 ∈ ms_tb ∧ Jvm.Cond.instantiable q.1 q.2.2 ∈ ms_tb ∧ Jvm.Cond.initialized q.1 ∈ ms_tb := List.forall_mem_cons.mpr ⟨mk_C0, List.forall_mem_cons.mpr ⟨mk_C1, List.forall_mem_cons.mpr ⟨mk_C2, List.forall_mem_cons.mpr ⟨mk_C3, List.forall_mem_cons.mpr ⟨mk_C4, List.forall_mem_cons.mpr ⟨mk_C5, List.forall_mem_cons.mpr ⟨mk_C6, List.forall_mem_cons.mpr ⟨mk_C7, List.forall_mem_cons.mpr ⟨mk_C8, List.forall_mem_cons.mpr ⟨mk_C9, List.forall_mem_cons.mpr ⟨mk_C10, List.forall_mem_cons.mpr ⟨mk_C11, List.forall_mem_cons.mpr ⟨mk_C12, List.forall_mem_cons.mpr ⟨mk_C13, List.forall_mem_cons.mpr ⟨mk_C14, List.forall_mem_cons.mpr ⟨mk_C15, List.forall_mem_cons.mpr ⟨mk_C16, List.forall_mem_cons.mpr ⟨mk_C17, List.forall_mem_cons.mpr ⟨mk_C18, List.forall_mem_cons.mpr ⟨mk_C19, List.forall_mem_cons.mpr ⟨mk_C20, fun _ h => absurd h List.not_mem_nil⟩⟩⟩⟩⟩⟩⟩⟩⟩⟩⟩⟩⟩⟩⟩⟩⟩⟩⟩⟩⟩
def mk_A : List (Nat × Nat × Nat) := [(0, 9, 104), (1, 18, 104), (4, 29, 105), (7, 36, 105), (11, 45, 104), (12, 9, 106), (14, 151, 107)]
set_option maxRecDepth 100000 in
theorem mk_A0 : ∃ C, ms_ety 104 = .object C ∧ Jvm.Cond.classLink (mk_nm 0) 9 C ∈ ms_tb ∧ Jvm.Cond.arrayOver (.object C) ∈ ms_tb := ⟨_, rfl, mk_tb (mk_sub3 (List.mem_of_getElem? (i := 21) rfl) rfl), List.mem_append_right _ (List.mem_append_right _ (List.mem_map.mpr ⟨"InvariantDesk$State", List.mem_of_getElem? (i := 1) rfl, rfl⟩))⟩
set_option maxRecDepth 100000 in
theorem mk_A1 : ∃ C, ms_ety 104 = .object C ∧ Jvm.Cond.classLink (mk_nm 1) 18 C ∈ ms_tb ∧ Jvm.Cond.arrayOver (.object C) ∈ ms_tb := ⟨_, rfl, mk_tb (mk_sub2 (List.mem_of_getElem? (i := 185) rfl) rfl), List.mem_append_right _ (List.mem_append_right _ (List.mem_map.mpr ⟨"InvariantDesk$State", List.mem_of_getElem? (i := 1) rfl, rfl⟩))⟩
set_option maxRecDepth 100000 in
theorem mk_A2 : ∃ C, ms_ety 105 = .object C ∧ Jvm.Cond.classLink (mk_nm 4) 29 C ∈ ms_tb ∧ Jvm.Cond.arrayOver (.object C) ∈ ms_tb := ⟨_, rfl, mk_tb (mk_sub1 (List.mem_of_getElem? (i := 162) rfl) rfl), List.mem_append_right _ (List.mem_append_right _ (List.mem_map.mpr ⟨"InvariantDesk$Statement", List.mem_of_getElem? (i := 0) rfl, rfl⟩))⟩
set_option maxRecDepth 100000 in
theorem mk_A3 : ∃ C, ms_ety 105 = .object C ∧ Jvm.Cond.classLink (mk_nm 7) 36 C ∈ ms_tb ∧ Jvm.Cond.arrayOver (.object C) ∈ ms_tb := ⟨_, rfl, mk_tb (mk_sub1 (List.mem_of_getElem? (i := 90) rfl) rfl), List.mem_append_right _ (List.mem_append_right _ (List.mem_map.mpr ⟨"InvariantDesk$Statement", List.mem_of_getElem? (i := 0) rfl, rfl⟩))⟩
set_option maxRecDepth 100000 in
theorem mk_A4 : ∃ C, ms_ety 104 = .object C ∧ Jvm.Cond.classLink (mk_nm 11) 45 C ∈ ms_tb ∧ Jvm.Cond.arrayOver (.object C) ∈ ms_tb := ⟨_, rfl, mk_tb (mk_sub3 (List.mem_of_getElem? (i := 136) rfl) rfl), List.mem_append_right _ (List.mem_append_right _ (List.mem_map.mpr ⟨"InvariantDesk$State", List.mem_of_getElem? (i := 1) rfl, rfl⟩))⟩
set_option maxRecDepth 100000 in
theorem mk_A5 : ∃ C, ms_ety 106 = .object C ∧ Jvm.Cond.classLink (mk_nm 12) 9 C ∈ ms_tb ∧ Jvm.Cond.arrayOver (.object C) ∈ ms_tb := ⟨_, rfl, mk_tb (mk_sub8 (List.mem_of_getElem? (i := 130) rfl) rfl), List.mem_append_right _ (List.mem_append_right _ (List.mem_map.mpr ⟨"InvariantDeskModel$Known", List.mem_of_getElem? (i := 2) rfl, rfl⟩))⟩
set_option maxRecDepth 100000 in
theorem mk_A6 : ∃ C, ms_ety 107 = .object C ∧ Jvm.Cond.classLink (mk_nm 14) 151 C ∈ ms_tb ∧ Jvm.Cond.arrayOver (.object C) ∈ ms_tb := ⟨_, rfl, mk_tb (mk_sub9 (List.mem_of_getElem? (i := 49) rfl) rfl), List.mem_append_right _ (List.mem_append_right _ (List.mem_map.mpr ⟨"java/lang/String", List.mem_of_getElem? (i := 3) rfl, rfl⟩))⟩
set_option maxRecDepth 100000 in
theorem mk_A_ok : ∀ t ∈ mk_A, ∃ C, ms_ety t.2.2 = .object C ∧ Jvm.Cond.classLink (mk_nm t.1) t.2.1 C ∈ ms_tb ∧ Jvm.Cond.arrayOver (.object C) ∈ ms_tb := List.forall_mem_cons.mpr ⟨mk_A0, List.forall_mem_cons.mpr ⟨mk_A1, List.forall_mem_cons.mpr ⟨mk_A2, List.forall_mem_cons.mpr ⟨mk_A3, List.forall_mem_cons.mpr ⟨mk_A4, List.forall_mem_cons.mpr ⟨mk_A5, List.forall_mem_cons.mpr ⟨mk_A6, fun _ h => absurd h List.not_mem_nil⟩⟩⟩⟩⟩⟩⟩
def mk_V : List (Nat × Nat × Nat × Nat × Nat) := [(0, 72, 143, 8, 1), (0, 81, 2, 0, 2), (0, 85, 6, 0, 1), (0, 91, 3, 0, 2), (0, 95, 4, 0, 1), (0, 98, 145, 8, 3), (0, 102, 144, 8, 2), (0, 121, 80, 4, 2), (0, 124, 81, 4, 2), (0, 127, 166, 9, 1), (0, 131, 5, 0, 2), (0, 134, 165, 9, 1), (0, 137, 17, 1, 3), (0, 143, 13, 1, 3), (0, 154, 8, 0, 2), (0, 157, 7, 0, 2), (0, 160, 151, 8, 2), (0, 163, 149, 8, 2), (0, 167, 10, 0, 2), (0, 170, 11, 0, 2), (0, 173, 9, 0, 2), (0, 176, 152, 8, 2), (0, 179, 148, 8, 1), (0, 186, 159, 8, 2), (0, 190, 150, 8, 2), (1, 49, 97, 5, 4), (1, 53, 144, 8, 2), (1, 63, 14, 1, 2), (1, 73, 80, 4, 2), (1, 80, 16, 1, 3), (1, 94, 15, 1, 3), (1, 102, 153, 8, 1), (1, 105, 159, 8, 2), (1, 109, 84, 4, 2), (1, 116, 154, 8, 1), (1, 122, 147, 8, 4), (1, 126, 99, 5, 2), (1, 130, 104, 5, 2), (1, 151, 113, 5, 3), (1, 154, 114, 5, 2), (1, 157, 115, 5, 3), (1, 163, 156, 8, 2), (1, 174, 158, 8, 4), (1, 178, 155, 8, 2), (1, 201, 18, 1, 1), (1, 204, 19, 1, 1), (1, 207, 20, 1, 2), (1, 213, 21, 1, 2), (1, 216, 23, 1, 3), (1, 223, 98, 5, 2), (1, 226, 151, 8, 2), (1, 231, 24, 1, 4), (2, 44, 27, 2, 1), (2, 55, 29, 2, 3), (2, 63, 30, 2, 2), (2, 83, 163, 8, 4), (2, 100, 33, 2, 2), (2, 109, 37, 2, 2), (2, 113, 32, 2, 3), (2, 117, 34, 2, 2), (2, 123, 80, 4, 2), (2, 126, 84, 4, 2), (2, 129, 35, 2, 2), (2, 136, 31, 2, 2), (2, 143, 81, 4, 2), (2, 188, 38, 2, 2), (2, 191, 40, 2, 3), (2, 194, 41, 2, 3), (2, 197, 39, 2, 2), (2, 201, 42, 2, 4), (3, 51, 45, 3, 2), (3, 59, 51, 3, 2), (3, 62, 55, 3, 2), (3, 65, 56, 3, 3), (3, 69, 58, 3, 1), (3, 72, 66, 3, 2), (3, 75, 71, 3, 2), (3, 78, 70, 3, 3), (3, 81, 75, 3, 3), (3, 84, 138, 7, 1), (3, 89, 46, 3, 3), (3, 104, 49, 3, 1), (3, 108, 47, 3, 1), (3, 111, 50, 3, 1), (3, 126, 54, 3, 3), (3, 132, 133, 7, 2), (3, 135, 117, 6, 1), (3, 138, 120, 6, 2), (3, 142, 134, 7, 3), (3, 146, 121, 6, 3), (3, 149, 136, 7, 1), (3, 152, 52, 3, 1), (3, 156, 118, 6, 1), (3, 165, 132, 7, 5), (3, 169, 57, 3, 2), (3, 172, 61, 3, 1), (3, 175, 59, 3, 3), (3, 178, 60, 3, 1), (3, 187, 48, 3, 2), (3, 191, 62, 3, 1), (3, 194, 64, 3, 1), (3, 200, 65, 3, 1), (3, 203, 123, 6, 2), (3, 206, 124, 6, 2), (3, 215, 63, 3, 1), (3, 221, 53, 3, 3), (3, 231, 137, 7, 3), (3, 234, 182, 10, 3), (3, 238, 119, 6, 2), (3, 241, 122, 6, 2), (3, 247, 67, 3, 1), (3, 250, 177, 10, 2), (3, 256, 68, 3, 1), (3, 259, 69, 3, 2), (3, 274, 135, 7, 2), (3, 291, 129, 7, 1), (3, 297, 126, 7, 4), (3, 301, 128, 7, 3), (3, 304, 127, 7, 3), (3, 307, 72, 3, 2), (3, 310, 73, 3, 2), (3, 317, 74, 3, 1), (3, 321, 130, 7, 3), (3, 324, 76, 3, 1), (3, 327, 77, 3, 1), (3, 334, 131, 7, 2), (4, 73, 79, 4, 1), (4, 104, 137, 7, 3), (4, 111, 86, 4, 3), (4, 116, 87, 4, 2), (4, 121, 89, 4, 2), (4, 125, 88, 4, 2), (4, 128, 92, 4, 1), (4, 131, 93, 4, 1), (4, 150, 90, 4, 2), (4, 154, 80, 4, 2), (4, 157, 81, 4, 2), (4, 160, 91, 4, 2), (4, 163, 166, 9, 1), (4, 187, 94, 4, 2), (4, 190, 95, 4, 2), (5, 73, 105, 5, 1), (5, 76, 106, 5, 2), (5, 80, 107, 5, 1), (5, 83, 109, 5, 1), (5, 87, 111, 5, 1), (5, 90, 102, 5, 4), (5, 94, 112, 5, 1), (5, 100, 101, 5, 4), (5, 104, 146, 8, 3), (5, 110, 103, 5, 2), (5, 126, 108, 5, 1), (5, 167, 114, 5, 2), (6, 47, 182, 10, 3), (6, 51, 119, 6, 2), (7, 52, 127, 7, 3), (7, 64, 130, 7, 3), (7, 83, 137, 7, 3), (8, 40, 142, 8, 1), (8, 56, 149, 8, 2), (8, 60, 144, 8, 2), (8, 79, 155, 8, 2), (8, 83, 146, 8, 3), (8, 87, 157, 8, 3), (8, 91, 160, 8, 3), (8, 95, 161, 8, 1), (8, 98, 162, 8, 2), (10, 31, 171, 10, 2), (10, 35, 174, 10, 2), (10, 38, 178, 10, 3), (10, 42, 169, 10, 4), (10, 50, 170, 10, 2), (10, 57, 175, 10, 2), (10, 63, 176, 10, 2), (10, 76, 177, 10, 2), (10, 86, 180, 10, 3), (10, 91, 181, 10, 4), (11, 54, 1, 0, 1), (11, 57, 187, 11, 1), (11, 64, 185, 11, 2), (11, 73, 168, 10, 1), (11, 85, 44, 3, 1), (11, 95, 79, 4, 1), (11, 98, 85, 4, 3), (11, 104, 27, 2, 1), (11, 121, 144, 8, 2), (11, 134, 192, 11, 2), (11, 154, 80, 4, 2), (11, 158, 81, 4, 2), (11, 164, 193, 11, 6), (11, 170, 197, 11, 3), (11, 178, 146, 8, 3), (11, 182, 194, 11, 3), (11, 190, 147, 8, 4), (11, 197, 159, 8, 2), (11, 201, 188, 11, 1), (11, 204, 150, 8, 2), (11, 208, 204, 11, 1), (11, 214, 205, 11, 2), (11, 217, 165, 9, 1), (11, 221, 17, 1, 3), (11, 225, 13, 1, 3), (11, 228, 166, 9, 1), (11, 238, 145, 8, 3), (11, 242, 149, 8, 2), (11, 251, 26, 2, 2), (11, 257, 28, 2, 4), (11, 286, 222, 11, 2), (11, 298, 215, 11, 3), (11, 301, 216, 11, 3), (11, 304, 218, 11, 3), (11, 307, 219, 11, 1), (11, 310, 82, 4, 3), (11, 313, 221, 11, 2), (11, 316, 220, 11, 3), (11, 320, 217, 11, 5), (11, 324, 224, 11, 2), (11, 333, 223, 11, 2), (11, 337, 83, 4, 3), (11, 352, 175, 10, 2), (11, 355, 170, 10, 2), (12, 68, 226, 12, 1), (12, 72, 281, 13, 2), (12, 118, 231, 12, 3), (12, 122, 229, 12, 2), (12, 130, 283, 13, 2), (12, 134, 284, 13, 2), (12, 137, 234, 12, 3), (12, 147, 233, 12, 2), (12, 151, 232, 12, 3), (12, 154, 235, 12, 2), (12, 160, 228, 12, 2), (12, 163, 236, 12, 4), (12, 166, 237, 12, 6), (12, 172, 282, 13, 3), (12, 176, 239, 12, 5), (12, 180, 240, 12, 5), (12, 183, 238, 12, 3), (12, 207, 243, 12, 3), (12, 211, 241, 12, 3), (12, 214, 245, 12, 2), (12, 221, 244, 12, 1), (12, 224, 288, 13, 1), (12, 227, 246, 12, 3), (12, 230, 291, 13, 2), (12, 234, 292, 13, 4), (12, 238, 287, 13, 2), (12, 241, 285, 13, 4), (12, 245, 286, 13, 1), (12, 248, 248, 12, 4), (12, 252, 250, 12, 5), (12, 256, 251, 12, 6), (12, 260, 252, 12, 6), (12, 264, 227, 12, 2), (12, 268, 293, 13, 2), (12, 271, 249, 12, 2), (12, 274, 254, 12, 2), (12, 280, 255, 12, 2), (12, 283, 256, 12, 2), (12, 286, 253, 12, 2), (12, 292, 261, 12, 5), (12, 296, 290, 13, 3), (12, 305, 294, 13, 2), (12, 315, 264, 12, 5), (12, 318, 268, 12, 5), (12, 321, 265, 12, 5), (12, 324, 258, 12, 3), (12, 328, 262, 12, 4), (12, 332, 259, 12, 2), (12, 335, 260, 12, 4), (12, 339, 247, 12, 5), (12, 343, 230, 12, 3), (12, 348, 289, 13, 2), (12, 352, 263, 12, 3), (12, 359, 257, 12, 5), (12, 365, 266, 12, 2), (12, 368, 269, 12, 5), (12, 371, 267, 12, 7), (12, 375, 295, 13, 2), (12, 387, 280, 13, 1), (12, 390, 274, 12, 1), (12, 394, 271, 12, 1), (13, 54, 282, 13, 3), (13, 70, 287, 13, 2), (13, 74, 285, 13, 4), (13, 78, 281, 13, 2), (14, 173, 299, 14, 1), (14, 188, 272, 12, 1), (14, 207, 302, 14, 4), (14, 224, 305, 14, 2), (14, 230, 306, 14, 2), (14, 234, 307, 14, 3), (14, 238, 308, 14, 3), (14, 249, 310, 14, 1), (14, 252, 311, 14, 2), (14, 259, 313, 14, 4), (14, 262, 312, 14, 2), (14, 266, 317, 14, 2), (14, 269, 319, 14, 2), (14, 272, 314, 14, 3), (14, 276, 320, 14, 2), (14, 279, 316, 14, 2), (14, 283, 315, 14, 1), (14, 286, 318, 14, 2), (14, 289, 322, 14, 3), (14, 292, 323, 14, 2), (14, 295, 321, 14, 2), (14, 298, 326, 14, 2), (14, 301, 327, 14, 3), (14, 304, 324, 14, 2), (14, 307, 325, 14, 3), (14, 312, 329, 14, 2), (14, 315, 300, 14, 5), (14, 319, 309, 14, 1), (14, 322, 328, 14, 1), (14, 325, 330, 14, 2), (14, 334, 345, 14, 1), (14, 337, 270, 12, 5), (14, 341, 273, 12, 1), (14, 348, 333, 14, 2), (14, 351, 337, 14, 2), (14, 354, 336, 14, 2), (14, 363, 340, 14, 2), (14, 366, 335, 14, 3), (14, 369, 341, 14, 3), (14, 382, 346, 14, 5), (14, 385, 347, 14, 6), (14, 388, 343, 14, 3), (14, 391, 334, 14, 2), (14, 394, 342, 14, 2), (14, 397, 344, 14, 5), (14, 400, 348, 14, 3), (14, 403, 349, 14, 2), (14, 406, 339, 14, 3), (14, 409, 338, 14, 2), (14, 432, 356, 14, 2), (14, 439, 360, 14, 2), (14, 442, 355, 14, 2), (14, 445, 359, 14, 3), (14, 447, 357, 14, 2), (14, 450, 358, 14, 1), (14, 453, 361, 14, 4), (14, 457, 362, 14, 2), (14, 460, 351, 14, 2), (14, 463, 365, 14, 2), (14, 466, 363, 14, 2), (14, 469, 275, 12, 1), (14, 478, 367, 14, 1), (14, 481, 364, 14, 1), (14, 489, 297, 13, 3), (14, 493, 373, 14, 2), (14, 499, 375, 14, 6), (14, 503, 372, 14, 3), (14, 511, 282, 13, 3), (14, 521, 281, 13, 2), (14, 533, 285, 13, 4), (14, 537, 286, 13, 1), (14, 540, 294, 13, 2), (14, 544, 274, 12, 1), (14, 547, 385, 14, 2), (14, 555, 384, 14, 2), (14, 564, 386, 14, 1), (14, 567, 387, 14, 2), (14, 576, 388, 14, 2), (14, 582, 283, 13, 2), (14, 587, 284, 13, 2), (14, 590, 389, 14, 5), (19, 13, 184, 11, 6), (19, 17, 301, 14, 6), (19, 18, 186, 11, 2), (19, 22, 331, 14, 2), (19, 23, 189, 11, 2), (19, 26, 332, 14, 2), (19, 27, 190, 11, 1), (19, 31, 350, 14, 1), (19, 32, 191, 11, 3), (19, 36, 352, 14, 3), (19, 37, 196, 11, 7), (19, 41, 377, 14, 7), (19, 42, 198, 11, 5), (19, 46, 378, 14, 5), (19, 49, 199, 11, 7), (19, 53, 379, 14, 7), (19, 54, 200, 11, 5), (19, 58, 380, 14, 5), (19, 59, 201, 11, 2), (19, 62, 381, 14, 2), (19, 63, 202, 11, 1), (19, 66, 382, 14, 1), (19, 67, 203, 11, 1), (19, 70, 383, 14, 1), (19, 71, 206, 11, 2), (19, 74, 353, 14, 2), (19, 75, 207, 11, 1), (19, 78, 354, 14, 1), (19, 79, 208, 11, 2), (19, 82, 366, 14, 2), (19, 83, 209, 11, 2), (19, 86, 369, 14, 2), (19, 87, 210, 11, 2), (19, 90, 370, 14, 2), (19, 91, 211, 11, 3), (19, 94, 371, 14, 3), (19, 95, 212, 11, 1), (19, 98, 368, 14, 1), (19, 99, 213, 11, 3), (19, 103, 390, 14, 3), (19, 104, 214, 11, 2), (19, 107, 391, 14, 2)]
set_option maxRecDepth 100000 in
theorem mk_V0 : ms_callee mc_M 143 (1 - 1) ∧ Jvm.Cond.methodLink (mk_nm 0) 72 (mc_M 143).1 ∈ ms_tb ∧ Jvm.Cond.instanceMethod (mc_M 143).1 ∈ ms_tb ∧ Jvm.Cond.selects (mc_M 143).1.cls (mc_M 143).1 (mc_M 143).1 ∈ ms_tb ∧ ∃ q, mt_cl[8]? = some q ∧ q.1 = (mc_M 143).1.cls := ⟨mk_ca143, mk_tb (mk_sub3 (List.mem_of_getElem? (i := 141) rfl) rfl), mk_im143, mk_se143, _, rfl, rfl⟩
set_option maxRecDepth 100000 in
theorem mk_V1 : ms_callee mc_M 2 (2 - 1) ∧ Jvm.Cond.methodLink (mk_nm 0) 81 (mc_M 2).1 ∈ ms_tb ∧ Jvm.Cond.instanceMethod (mc_M 2).1 ∈ ms_tb ∧ Jvm.Cond.selects (mc_M 2).1.cls (mc_M 2).1 (mc_M 2).1 ∈ ms_tb ∧ ∃ q, mt_cl[0]? = some q ∧ q.1 = (mc_M 2).1.cls := ⟨mk_ca2, mk_tb (mk_sub3 (List.mem_of_getElem? (i := 146) rfl) rfl), mk_im2, mk_se2, _, rfl, rfl⟩
set_option maxRecDepth 100000 in
theorem mk_V2 : ms_callee mc_M 6 (1 - 1) ∧ Jvm.Cond.methodLink (mk_nm 0) 85 (mc_M 6).1 ∈ ms_tb ∧ Jvm.Cond.instanceMethod (mc_M 6).1 ∈ ms_tb ∧ Jvm.Cond.selects (mc_M 6).1.cls (mc_M 6).1 (mc_M 6).1 ∈ ms_tb ∧ ∃ q, mt_cl[0]? = some q ∧ q.1 = (mc_M 6).1.cls := ⟨mk_ca6, mk_tb (mk_sub3 (List.mem_of_getElem? (i := 150) rfl) rfl), mk_im6, mk_se6, _, rfl, rfl⟩
set_option maxRecDepth 100000 in
theorem mk_V3 : ms_callee mc_M 3 (2 - 1) ∧ Jvm.Cond.methodLink (mk_nm 0) 91 (mc_M 3).1 ∈ ms_tb ∧ Jvm.Cond.instanceMethod (mc_M 3).1 ∈ ms_tb ∧ Jvm.Cond.selects (mc_M 3).1.cls (mc_M 3).1 (mc_M 3).1 ∈ ms_tb ∧ ∃ q, mt_cl[0]? = some q ∧ q.1 = (mc_M 3).1.cls := ⟨mk_ca3, mk_tb (mk_sub4 (List.mem_of_getElem? (i := 12) rfl) rfl), mk_im3, mk_se3, _, rfl, rfl⟩
set_option maxRecDepth 100000 in
theorem mk_V4 : ms_callee mc_M 4 (1 - 1) ∧ Jvm.Cond.methodLink (mk_nm 0) 95 (mc_M 4).1 ∈ ms_tb ∧ Jvm.Cond.instanceMethod (mc_M 4).1 ∈ ms_tb ∧ Jvm.Cond.selects (mc_M 4).1.cls (mc_M 4).1 (mc_M 4).1 ∈ ms_tb ∧ ∃ q, mt_cl[0]? = some q ∧ q.1 = (mc_M 4).1.cls := ⟨mk_ca4, mk_tb (mk_sub4 (List.mem_of_getElem? (i := 16) rfl) rfl), mk_im4, mk_se4, _, rfl, rfl⟩
set_option maxRecDepth 100000 in
theorem mk_V5 : ms_callee mc_M 145 (3 - 1) ∧ Jvm.Cond.methodLink (mk_nm 0) 98 (mc_M 145).1 ∈ ms_tb ∧ Jvm.Cond.instanceMethod (mc_M 145).1 ∈ ms_tb ∧ Jvm.Cond.selects (mc_M 145).1.cls (mc_M 145).1 (mc_M 145).1 ∈ ms_tb ∧ ∃ q, mt_cl[8]? = some q ∧ q.1 = (mc_M 145).1.cls := ⟨mk_ca145, mk_tb (mk_sub3 (List.mem_of_getElem? (i := 162) rfl) rfl), mk_im145, mk_se145, _, rfl, rfl⟩
set_option maxRecDepth 100000 in
theorem mk_V6 : ms_callee mc_M 144 (2 - 1) ∧ Jvm.Cond.methodLink (mk_nm 0) 102 (mc_M 144).1 ∈ ms_tb ∧ Jvm.Cond.instanceMethod (mc_M 144).1 ∈ ms_tb ∧ Jvm.Cond.selects (mc_M 144).1.cls (mc_M 144).1 (mc_M 144).1 ∈ ms_tb ∧ ∃ q, mt_cl[8]? = some q ∧ q.1 = (mc_M 144).1.cls := ⟨mk_ca144, mk_tb (mk_sub3 (List.mem_of_getElem? (i := 197) rfl) rfl), mk_im144, mk_se144, _, rfl, rfl⟩
set_option maxRecDepth 100000 in
theorem mk_V7 : ms_callee mc_M 80 (2 - 1) ∧ Jvm.Cond.methodLink (mk_nm 0) 121 (mc_M 80).1 ∈ ms_tb ∧ Jvm.Cond.instanceMethod (mc_M 80).1 ∈ ms_tb ∧ Jvm.Cond.selects (mc_M 80).1.cls (mc_M 80).1 (mc_M 80).1 ∈ ms_tb ∧ ∃ q, mt_cl[4]? = some q ∧ q.1 = (mc_M 80).1.cls := ⟨mk_ca80, mk_tb (mk_sub3 (List.mem_of_getElem? (i := 154) rfl) rfl), mk_im80, mk_se80, _, rfl, rfl⟩
set_option maxRecDepth 100000 in
theorem mk_V8 : ms_callee mc_M 81 (2 - 1) ∧ Jvm.Cond.methodLink (mk_nm 0) 124 (mc_M 81).1 ∈ ms_tb ∧ Jvm.Cond.instanceMethod (mc_M 81).1 ∈ ms_tb ∧ Jvm.Cond.selects (mc_M 81).1.cls (mc_M 81).1 (mc_M 81).1 ∈ ms_tb ∧ ∃ q, mt_cl[4]? = some q ∧ q.1 = (mc_M 81).1.cls := ⟨mk_ca81, mk_tb (mk_sub3 (List.mem_of_getElem? (i := 158) rfl) rfl), mk_im81, mk_se81, _, rfl, rfl⟩
set_option maxRecDepth 100000 in
theorem mk_V9 : ms_callee mc_M 166 (1 - 1) ∧ Jvm.Cond.methodLink (mk_nm 0) 127 (mc_M 166).1 ∈ ms_tb ∧ Jvm.Cond.instanceMethod (mc_M 166).1 ∈ ms_tb ∧ Jvm.Cond.selects (mc_M 166).1.cls (mc_M 166).1 (mc_M 166).1 ∈ ms_tb ∧ ∃ q, mt_cl[9]? = some q ∧ q.1 = (mc_M 166).1.cls := ⟨mk_ca166, mk_tb (mk_sub4 (List.mem_of_getElem? (i := 20) rfl) rfl), mk_im166, mk_se166, _, rfl, rfl⟩
set_option maxRecDepth 100000 in
theorem mk_V10 : ms_callee mc_M 5 (2 - 1) ∧ Jvm.Cond.methodLink (mk_nm 0) 131 (mc_M 5).1 ∈ ms_tb ∧ Jvm.Cond.instanceMethod (mc_M 5).1 ∈ ms_tb ∧ Jvm.Cond.selects (mc_M 5).1.cls (mc_M 5).1 (mc_M 5).1 ∈ ms_tb ∧ ∃ q, mt_cl[0]? = some q ∧ q.1 = (mc_M 5).1.cls := ⟨mk_ca5, mk_tb (mk_sub4 (List.mem_of_getElem? (i := 24) rfl) rfl), mk_im5, mk_se5, _, rfl, rfl⟩
set_option maxRecDepth 100000 in
theorem mk_V11 : ms_callee mc_M 165 (1 - 1) ∧ Jvm.Cond.methodLink (mk_nm 0) 134 (mc_M 165).1 ∈ ms_tb ∧ Jvm.Cond.instanceMethod (mc_M 165).1 ∈ ms_tb ∧ Jvm.Cond.selects (mc_M 165).1.cls (mc_M 165).1 (mc_M 165).1 ∈ ms_tb ∧ ∃ q, mt_cl[9]? = some q ∧ q.1 = (mc_M 165).1.cls := ⟨mk_ca165, mk_tb (mk_sub4 (List.mem_of_getElem? (i := 28) rfl) rfl), mk_im165, mk_se165, _, rfl, rfl⟩
set_option maxRecDepth 100000 in
theorem mk_V12 : ms_callee mc_M 17 (3 - 1) ∧ Jvm.Cond.methodLink (mk_nm 0) 137 (mc_M 17).1 ∈ ms_tb ∧ Jvm.Cond.instanceMethod (mc_M 17).1 ∈ ms_tb ∧ Jvm.Cond.selects (mc_M 17).1.cls (mc_M 17).1 (mc_M 17).1 ∈ ms_tb ∧ ∃ q, mt_cl[1]? = some q ∧ q.1 = (mc_M 17).1.cls := ⟨mk_ca17, mk_tb (mk_sub4 (List.mem_of_getElem? (i := 32) rfl) rfl), mk_im17, mk_se17, _, rfl, rfl⟩
set_option maxRecDepth 100000 in
theorem mk_V13 : ms_callee mc_M 13 (3 - 1) ∧ Jvm.Cond.methodLink (mk_nm 0) 143 (mc_M 13).1 ∈ ms_tb ∧ Jvm.Cond.instanceMethod (mc_M 13).1 ∈ ms_tb ∧ Jvm.Cond.selects (mc_M 13).1.cls (mc_M 13).1 (mc_M 13).1 ∈ ms_tb ∧ ∃ q, mt_cl[1]? = some q ∧ q.1 = (mc_M 13).1.cls := ⟨mk_ca13, mk_tb (mk_sub4 (List.mem_of_getElem? (i := 151) rfl) rfl), mk_im13, mk_se13, _, rfl, rfl⟩
set_option maxRecDepth 100000 in
theorem mk_V14 : ms_callee mc_M 8 (2 - 1) ∧ Jvm.Cond.methodLink (mk_nm 0) 154 (mc_M 8).1 ∈ ms_tb ∧ Jvm.Cond.instanceMethod (mc_M 8).1 ∈ ms_tb ∧ Jvm.Cond.selects (mc_M 8).1.cls (mc_M 8).1 (mc_M 8).1 ∈ ms_tb ∧ ∃ q, mt_cl[0]? = some q ∧ q.1 = (mc_M 8).1.cls := ⟨mk_ca8, mk_tb (mk_sub3 (List.mem_of_getElem? (i := 166) rfl) rfl), mk_im8, mk_se8, _, rfl, rfl⟩
set_option maxRecDepth 100000 in
theorem mk_V15 : ms_callee mc_M 7 (2 - 1) ∧ Jvm.Cond.methodLink (mk_nm 0) 157 (mc_M 7).1 ∈ ms_tb ∧ Jvm.Cond.instanceMethod (mc_M 7).1 ∈ ms_tb ∧ Jvm.Cond.selects (mc_M 7).1.cls (mc_M 7).1 (mc_M 7).1 ∈ ms_tb ∧ ∃ q, mt_cl[0]? = some q ∧ q.1 = (mc_M 7).1.cls := ⟨mk_ca7, mk_tb (mk_sub3 (List.mem_of_getElem? (i := 170) rfl) rfl), mk_im7, mk_se7, _, rfl, rfl⟩
set_option maxRecDepth 100000 in
theorem mk_V16 : ms_callee mc_M 151 (2 - 1) ∧ Jvm.Cond.methodLink (mk_nm 0) 160 (mc_M 151).1 ∈ ms_tb ∧ Jvm.Cond.instanceMethod (mc_M 151).1 ∈ ms_tb ∧ Jvm.Cond.selects (mc_M 151).1.cls (mc_M 151).1 (mc_M 151).1 ∈ ms_tb ∧ ∃ q, mt_cl[8]? = some q ∧ q.1 = (mc_M 151).1.cls := ⟨mk_ca151, mk_tb (mk_sub3 (List.mem_of_getElem? (i := 174) rfl) rfl), mk_im151, mk_se151, _, rfl, rfl⟩
set_option maxRecDepth 100000 in
theorem mk_V17 : ms_callee mc_M 149 (2 - 1) ∧ Jvm.Cond.methodLink (mk_nm 0) 163 (mc_M 149).1 ∈ ms_tb ∧ Jvm.Cond.instanceMethod (mc_M 149).1 ∈ ms_tb ∧ Jvm.Cond.selects (mc_M 149).1.cls (mc_M 149).1 (mc_M 149).1 ∈ ms_tb ∧ ∃ q, mt_cl[8]? = some q ∧ q.1 = (mc_M 149).1.cls := ⟨mk_ca149, mk_tb (mk_sub3 (List.mem_of_getElem? (i := 193) rfl) rfl), mk_im149, mk_se149, _, rfl, rfl⟩
set_option maxRecDepth 100000 in
theorem mk_V18 : ms_callee mc_M 10 (2 - 1) ∧ Jvm.Cond.methodLink (mk_nm 0) 167 (mc_M 10).1 ∈ ms_tb ∧ Jvm.Cond.instanceMethod (mc_M 10).1 ∈ ms_tb ∧ Jvm.Cond.selects (mc_M 10).1.cls (mc_M 10).1 (mc_M 10).1 ∈ ms_tb ∧ ∃ q, mt_cl[0]? = some q ∧ q.1 = (mc_M 10).1.cls := ⟨mk_ca10, mk_tb (mk_sub3 (List.mem_of_getElem? (i := 198) rfl) rfl), mk_im10, mk_se10, _, rfl, rfl⟩
set_option maxRecDepth 100000 in
theorem mk_V19 : ms_callee mc_M 11 (2 - 1) ∧ Jvm.Cond.methodLink (mk_nm 0) 170 (mc_M 11).1 ∈ ms_tb ∧ Jvm.Cond.instanceMethod (mc_M 11).1 ∈ ms_tb ∧ Jvm.Cond.selects (mc_M 11).1.cls (mc_M 11).1 (mc_M 11).1 ∈ ms_tb ∧ ∃ q, mt_cl[0]? = some q ∧ q.1 = (mc_M 11).1.cls := ⟨mk_ca11, mk_tb (mk_sub3 (List.mem_of_getElem? (i := 207) rfl) rfl), mk_im11, mk_se11, _, rfl, rfl⟩
set_option maxRecDepth 100000 in
theorem mk_V20 : ms_callee mc_M 9 (2 - 1) ∧ Jvm.Cond.methodLink (mk_nm 0) 173 (mc_M 9).1 ∈ ms_tb ∧ Jvm.Cond.instanceMethod (mc_M 9).1 ∈ ms_tb ∧ Jvm.Cond.selects (mc_M 9).1.cls (mc_M 9).1 (mc_M 9).1 ∈ ms_tb ∧ ∃ q, mt_cl[0]? = some q ∧ q.1 = (mc_M 9).1.cls := ⟨mk_ca9, mk_tb (mk_sub3 (List.mem_of_getElem? (i := 211) rfl) rfl), mk_im9, mk_se9, _, rfl, rfl⟩
set_option maxRecDepth 100000 in
theorem mk_V21 : ms_callee mc_M 152 (2 - 1) ∧ Jvm.Cond.methodLink (mk_nm 0) 176 (mc_M 152).1 ∈ ms_tb ∧ Jvm.Cond.instanceMethod (mc_M 152).1 ∈ ms_tb ∧ Jvm.Cond.selects (mc_M 152).1.cls (mc_M 152).1 (mc_M 152).1 ∈ ms_tb ∧ ∃ q, mt_cl[8]? = some q ∧ q.1 = (mc_M 152).1.cls := ⟨mk_ca152, mk_tb (mk_sub3 (List.mem_of_getElem? (i := 215) rfl) rfl), mk_im152, mk_se152, _, rfl, rfl⟩
set_option maxRecDepth 100000 in
theorem mk_V22 : ms_callee mc_M 148 (1 - 1) ∧ Jvm.Cond.methodLink (mk_nm 0) 179 (mc_M 148).1 ∈ ms_tb ∧ Jvm.Cond.instanceMethod (mc_M 148).1 ∈ ms_tb ∧ Jvm.Cond.selects (mc_M 148).1.cls (mc_M 148).1 (mc_M 148).1 ∈ ms_tb ∧ ∃ q, mt_cl[8]? = some q ∧ q.1 = (mc_M 148).1.cls := ⟨mk_ca148, mk_tb (mk_sub3 (List.mem_of_getElem? (i := 227) rfl) rfl), mk_im148, mk_se148, _, rfl, rfl⟩
set_option maxRecDepth 100000 in
theorem mk_V23 : ms_callee mc_M 159 (2 - 1) ∧ Jvm.Cond.methodLink (mk_nm 0) 186 (mc_M 159).1 ∈ ms_tb ∧ Jvm.Cond.instanceMethod (mc_M 159).1 ∈ ms_tb ∧ Jvm.Cond.selects (mc_M 159).1.cls (mc_M 159).1 (mc_M 159).1 ∈ ms_tb ∧ ∃ q, mt_cl[8]? = some q ∧ q.1 = (mc_M 159).1.cls := ⟨mk_ca159, mk_tb (mk_sub3 (List.mem_of_getElem? (i := 231) rfl) rfl), mk_im159, mk_se159, _, rfl, rfl⟩
set_option maxRecDepth 100000 in
theorem mk_V24 : ms_callee mc_M 150 (2 - 1) ∧ Jvm.Cond.methodLink (mk_nm 0) 190 (mc_M 150).1 ∈ ms_tb ∧ Jvm.Cond.instanceMethod (mc_M 150).1 ∈ ms_tb ∧ Jvm.Cond.selects (mc_M 150).1.cls (mc_M 150).1 (mc_M 150).1 ∈ ms_tb ∧ ∃ q, mt_cl[8]? = some q ∧ q.1 = (mc_M 150).1.cls := ⟨mk_ca150, mk_tb (mk_sub3 (List.mem_of_getElem? (i := 202) rfl) rfl), mk_im150, mk_se150, _, rfl, rfl⟩
set_option maxRecDepth 100000 in
theorem mk_V25 : ms_callee mc_M 97 (4 - 1) ∧ Jvm.Cond.methodLink (mk_nm 1) 49 (mc_M 97).1 ∈ ms_tb ∧ Jvm.Cond.instanceMethod (mc_M 97).1 ∈ ms_tb ∧ Jvm.Cond.selects (mc_M 97).1.cls (mc_M 97).1 (mc_M 97).1 ∈ ms_tb ∧ ∃ q, mt_cl[5]? = some q ∧ q.1 = (mc_M 97).1.cls := ⟨mk_ca97, mk_tb (mk_sub4 (List.mem_of_getElem? (i := 37) rfl) rfl), mk_im97, mk_se97, _, rfl, rfl⟩
set_option maxRecDepth 100000 in
theorem mk_V26 : ms_callee mc_M 144 (2 - 1) ∧ Jvm.Cond.methodLink (mk_nm 1) 53 (mc_M 144).1 ∈ ms_tb ∧ Jvm.Cond.instanceMethod (mc_M 144).1 ∈ ms_tb ∧ Jvm.Cond.selects (mc_M 144).1.cls (mc_M 144).1 (mc_M 144).1 ∈ ms_tb ∧ ∃ q, mt_cl[8]? = some q ∧ q.1 = (mc_M 144).1.cls := ⟨mk_ca144, mk_tb (mk_sub4 (List.mem_of_getElem? (i := 36) rfl) rfl), mk_im144, mk_se144, _, rfl, rfl⟩
set_option maxRecDepth 100000 in
theorem mk_V27 : ms_callee mc_M 14 (2 - 1) ∧ Jvm.Cond.methodLink (mk_nm 1) 63 (mc_M 14).1 ∈ ms_tb ∧ Jvm.Cond.instanceMethod (mc_M 14).1 ∈ ms_tb ∧ Jvm.Cond.selects (mc_M 14).1.cls (mc_M 14).1 (mc_M 14).1 ∈ ms_tb ∧ ∃ q, mt_cl[1]? = some q ∧ q.1 = (mc_M 14).1.cls := ⟨mk_ca14, mk_tb (mk_sub4 (List.mem_of_getElem? (i := 155) rfl) rfl), mk_im14, mk_se14, _, rfl, rfl⟩
set_option maxRecDepth 100000 in
theorem mk_V28 : ms_callee mc_M 80 (2 - 1) ∧ Jvm.Cond.methodLink (mk_nm 1) 73 (mc_M 80).1 ∈ ms_tb ∧ Jvm.Cond.instanceMethod (mc_M 80).1 ∈ ms_tb ∧ Jvm.Cond.selects (mc_M 80).1.cls (mc_M 80).1 (mc_M 80).1 ∈ ms_tb ∧ ∃ q, mt_cl[4]? = some q ∧ q.1 = (mc_M 80).1.cls := ⟨mk_ca80, mk_tb (mk_sub4 (List.mem_of_getElem? (i := 172) rfl) rfl), mk_im80, mk_se80, _, rfl, rfl⟩
set_option maxRecDepth 100000 in
theorem mk_V29 : ms_callee mc_M 16 (3 - 1) ∧ Jvm.Cond.methodLink (mk_nm 1) 80 (mc_M 16).1 ∈ ms_tb ∧ Jvm.Cond.instanceMethod (mc_M 16).1 ∈ ms_tb ∧ Jvm.Cond.selects (mc_M 16).1.cls (mc_M 16).1 (mc_M 16).1 ∈ ms_tb ∧ ∃ q, mt_cl[1]? = some q ∧ q.1 = (mc_M 16).1.cls := ⟨mk_ca16, mk_tb (mk_sub4 (List.mem_of_getElem? (i := 173) rfl) rfl), mk_im16, mk_se16, _, rfl, rfl⟩
set_option maxRecDepth 100000 in
theorem mk_V30 : ms_callee mc_M 15 (3 - 1) ∧ Jvm.Cond.methodLink (mk_nm 1) 94 (mc_M 15).1 ∈ ms_tb ∧ Jvm.Cond.instanceMethod (mc_M 15).1 ∈ ms_tb ∧ Jvm.Cond.selects (mc_M 15).1.cls (mc_M 15).1 (mc_M 15).1 ∈ ms_tb ∧ ∃ q, mt_cl[1]? = some q ∧ q.1 = (mc_M 15).1.cls := ⟨mk_ca15, mk_tb (mk_sub4 (List.mem_of_getElem? (i := 190) rfl) rfl), mk_im15, mk_se15, _, rfl, rfl⟩
set_option maxRecDepth 100000 in
theorem mk_V31 : ms_callee mc_M 153 (1 - 1) ∧ Jvm.Cond.methodLink (mk_nm 1) 102 (mc_M 153).1 ∈ ms_tb ∧ Jvm.Cond.instanceMethod (mc_M 153).1 ∈ ms_tb ∧ Jvm.Cond.selects (mc_M 153).1.cls (mc_M 153).1 (mc_M 153).1 ∈ ms_tb ∧ ∃ q, mt_cl[8]? = some q ∧ q.1 = (mc_M 153).1.cls := ⟨mk_ca153, mk_tb (mk_sub4 (List.mem_of_getElem? (i := 163) rfl) rfl), mk_im153, mk_se153, _, rfl, rfl⟩
set_option maxRecDepth 100000 in
theorem mk_V32 : ms_callee mc_M 159 (2 - 1) ∧ Jvm.Cond.methodLink (mk_nm 1) 105 (mc_M 159).1 ∈ ms_tb ∧ Jvm.Cond.instanceMethod (mc_M 159).1 ∈ ms_tb ∧ Jvm.Cond.selects (mc_M 159).1.cls (mc_M 159).1 (mc_M 159).1 ∈ ms_tb ∧ ∃ q, mt_cl[8]? = some q ∧ q.1 = (mc_M 159).1.cls := ⟨mk_ca159, mk_tb (mk_sub4 (List.mem_of_getElem? (i := 150) rfl) rfl), mk_im159, mk_se159, _, rfl, rfl⟩
set_option maxRecDepth 100000 in
theorem mk_V33 : ms_callee mc_M 84 (2 - 1) ∧ Jvm.Cond.methodLink (mk_nm 1) 109 (mc_M 84).1 ∈ ms_tb ∧ Jvm.Cond.instanceMethod (mc_M 84).1 ∈ ms_tb ∧ Jvm.Cond.selects (mc_M 84).1.cls (mc_M 84).1 (mc_M 84).1 ∈ ms_tb ∧ ∃ q, mt_cl[4]? = some q ∧ q.1 = (mc_M 84).1.cls := ⟨mk_ca84, mk_tb (mk_sub4 (List.mem_of_getElem? (i := 200) rfl) rfl), mk_im84, mk_se84, _, rfl, rfl⟩
set_option maxRecDepth 100000 in
theorem mk_V34 : ms_callee mc_M 154 (1 - 1) ∧ Jvm.Cond.methodLink (mk_nm 1) 116 (mc_M 154).1 ∈ ms_tb ∧ Jvm.Cond.instanceMethod (mc_M 154).1 ∈ ms_tb ∧ Jvm.Cond.selects (mc_M 154).1.cls (mc_M 154).1 (mc_M 154).1 ∈ ms_tb ∧ ∃ q, mt_cl[8]? = some q ∧ q.1 = (mc_M 154).1.cls := ⟨mk_ca154, mk_tb (mk_sub4 (List.mem_of_getElem? (i := 159) rfl) rfl), mk_im154, mk_se154, _, rfl, rfl⟩
set_option maxRecDepth 100000 in
theorem mk_V35 : ms_callee mc_M 147 (4 - 1) ∧ Jvm.Cond.methodLink (mk_nm 1) 122 (mc_M 147).1 ∈ ms_tb ∧ Jvm.Cond.instanceMethod (mc_M 147).1 ∈ ms_tb ∧ Jvm.Cond.selects (mc_M 147).1.cls (mc_M 147).1 (mc_M 147).1 ∈ ms_tb ∧ ∃ q, mt_cl[8]? = some q ∧ q.1 = (mc_M 147).1.cls := ⟨mk_ca147, mk_tb (mk_sub4 (List.mem_of_getElem? (i := 143) rfl) rfl), mk_im147, mk_se147, _, rfl, rfl⟩
set_option maxRecDepth 100000 in
theorem mk_V36 : ms_callee mc_M 99 (2 - 1) ∧ Jvm.Cond.methodLink (mk_nm 1) 126 (mc_M 99).1 ∈ ms_tb ∧ Jvm.Cond.instanceMethod (mc_M 99).1 ∈ ms_tb ∧ Jvm.Cond.selects (mc_M 99).1.cls (mc_M 99).1 (mc_M 99).1 ∈ ms_tb ∧ ∃ q, mt_cl[5]? = some q ∧ q.1 = (mc_M 99).1.cls := ⟨mk_ca99, mk_tb (mk_sub4 (List.mem_of_getElem? (i := 62) rfl) rfl), mk_im99, mk_se99, _, rfl, rfl⟩
set_option maxRecDepth 100000 in
theorem mk_V37 : ms_callee mc_M 104 (2 - 1) ∧ Jvm.Cond.methodLink (mk_nm 1) 130 (mc_M 104).1 ∈ ms_tb ∧ Jvm.Cond.instanceMethod (mc_M 104).1 ∈ ms_tb ∧ Jvm.Cond.selects (mc_M 104).1.cls (mc_M 104).1 (mc_M 104).1 ∈ ms_tb ∧ ∃ q, mt_cl[5]? = some q ∧ q.1 = (mc_M 104).1.cls := ⟨mk_ca104, mk_tb (mk_sub4 (List.mem_of_getElem? (i := 194) rfl) rfl), mk_im104, mk_se104, _, rfl, rfl⟩
set_option maxRecDepth 100000 in
theorem mk_V38 : ms_callee mc_M 113 (3 - 1) ∧ Jvm.Cond.methodLink (mk_nm 1) 151 (mc_M 113).1 ∈ ms_tb ∧ Jvm.Cond.instanceMethod (mc_M 113).1 ∈ ms_tb ∧ Jvm.Cond.selects (mc_M 113).1.cls (mc_M 113).1 (mc_M 113).1 ∈ ms_tb ∧ ∃ q, mt_cl[5]? = some q ∧ q.1 = (mc_M 113).1.cls := ⟨mk_ca113, mk_tb (mk_sub4 (List.mem_of_getElem? (i := 118) rfl) rfl), mk_im113, mk_se113, _, rfl, rfl⟩
set_option maxRecDepth 100000 in
theorem mk_V39 : ms_callee mc_M 114 (2 - 1) ∧ Jvm.Cond.methodLink (mk_nm 1) 154 (mc_M 114).1 ∈ ms_tb ∧ Jvm.Cond.instanceMethod (mc_M 114).1 ∈ ms_tb ∧ Jvm.Cond.selects (mc_M 114).1.cls (mc_M 114).1 (mc_M 114).1 ∈ ms_tb ∧ ∃ q, mt_cl[5]? = some q ∧ q.1 = (mc_M 114).1.cls := ⟨mk_ca114, mk_tb (mk_sub4 (List.mem_of_getElem? (i := 142) rfl) rfl), mk_im114, mk_se114, _, rfl, rfl⟩
set_option maxRecDepth 100000 in
theorem mk_V40 : ms_callee mc_M 115 (3 - 1) ∧ Jvm.Cond.methodLink (mk_nm 1) 157 (mc_M 115).1 ∈ ms_tb ∧ Jvm.Cond.instanceMethod (mc_M 115).1 ∈ ms_tb ∧ Jvm.Cond.selects (mc_M 115).1.cls (mc_M 115).1 (mc_M 115).1 ∈ ms_tb ∧ ∃ q, mt_cl[5]? = some q ∧ q.1 = (mc_M 115).1.cls := ⟨mk_ca115, mk_tb (mk_sub4 (List.mem_of_getElem? (i := 138) rfl) rfl), mk_im115, mk_se115, _, rfl, rfl⟩
set_option maxRecDepth 100000 in
theorem mk_V41 : ms_callee mc_M 156 (2 - 1) ∧ Jvm.Cond.methodLink (mk_nm 1) 163 (mc_M 156).1 ∈ ms_tb ∧ Jvm.Cond.instanceMethod (mc_M 156).1 ∈ ms_tb ∧ Jvm.Cond.selects (mc_M 156).1.cls (mc_M 156).1 (mc_M 156).1 ∈ ms_tb ∧ ∃ q, mt_cl[8]? = some q ∧ q.1 = (mc_M 156).1.cls := ⟨mk_ca156, mk_tb (mk_sub4 (List.mem_of_getElem? (i := 177) rfl) rfl), mk_im156, mk_se156, _, rfl, rfl⟩
set_option maxRecDepth 100000 in
theorem mk_V42 : ms_callee mc_M 158 (4 - 1) ∧ Jvm.Cond.methodLink (mk_nm 1) 174 (mc_M 158).1 ∈ ms_tb ∧ Jvm.Cond.instanceMethod (mc_M 158).1 ∈ ms_tb ∧ Jvm.Cond.selects (mc_M 158).1.cls (mc_M 158).1 (mc_M 158).1 ∈ ms_tb ∧ ∃ q, mt_cl[8]? = some q ∧ q.1 = (mc_M 158).1.cls := ⟨mk_ca158, mk_tb (mk_sub4 (List.mem_of_getElem? (i := 185) rfl) rfl), mk_im158, mk_se158, _, rfl, rfl⟩
set_option maxRecDepth 100000 in
theorem mk_V43 : ms_callee mc_M 155 (2 - 1) ∧ Jvm.Cond.methodLink (mk_nm 1) 178 (mc_M 155).1 ∈ ms_tb ∧ Jvm.Cond.instanceMethod (mc_M 155).1 ∈ ms_tb ∧ Jvm.Cond.selects (mc_M 155).1.cls (mc_M 155).1 (mc_M 155).1 ∈ ms_tb ∧ ∃ q, mt_cl[8]? = some q ∧ q.1 = (mc_M 155).1.cls := ⟨mk_ca155, mk_tb (mk_sub4 (List.mem_of_getElem? (i := 189) rfl) rfl), mk_im155, mk_se155, _, rfl, rfl⟩
set_option maxRecDepth 100000 in
theorem mk_V44 : ms_callee mc_M 18 (1 - 1) ∧ Jvm.Cond.methodLink (mk_nm 1) 201 (mc_M 18).1 ∈ ms_tb ∧ Jvm.Cond.instanceMethod (mc_M 18).1 ∈ ms_tb ∧ Jvm.Cond.selects (mc_M 18).1.cls (mc_M 18).1 (mc_M 18).1 ∈ ms_tb ∧ ∃ q, mt_cl[1]? = some q ∧ q.1 = (mc_M 18).1.cls := ⟨mk_ca18, mk_tb (mk_sub4 (List.mem_of_getElem? (i := 41) rfl) rfl), mk_im18, mk_se18, _, rfl, rfl⟩
set_option maxRecDepth 100000 in
theorem mk_V45 : ms_callee mc_M 19 (1 - 1) ∧ Jvm.Cond.methodLink (mk_nm 1) 204 (mc_M 19).1 ∈ ms_tb ∧ Jvm.Cond.instanceMethod (mc_M 19).1 ∈ ms_tb ∧ Jvm.Cond.selects (mc_M 19).1.cls (mc_M 19).1 (mc_M 19).1 ∈ ms_tb ∧ ∃ q, mt_cl[1]? = some q ∧ q.1 = (mc_M 19).1.cls := ⟨mk_ca19, mk_tb (mk_sub4 (List.mem_of_getElem? (i := 45) rfl) rfl), mk_im19, mk_se19, _, rfl, rfl⟩
set_option maxRecDepth 100000 in
theorem mk_V46 : ms_callee mc_M 20 (2 - 1) ∧ Jvm.Cond.methodLink (mk_nm 1) 207 (mc_M 20).1 ∈ ms_tb ∧ Jvm.Cond.instanceMethod (mc_M 20).1 ∈ ms_tb ∧ Jvm.Cond.selects (mc_M 20).1.cls (mc_M 20).1 (mc_M 20).1 ∈ ms_tb ∧ ∃ q, mt_cl[1]? = some q ∧ q.1 = (mc_M 20).1.cls := ⟨mk_ca20, mk_tb (mk_sub4 (List.mem_of_getElem? (i := 53) rfl) rfl), mk_im20, mk_se20, _, rfl, rfl⟩
set_option maxRecDepth 100000 in
theorem mk_V47 : ms_callee mc_M 21 (2 - 1) ∧ Jvm.Cond.methodLink (mk_nm 1) 213 (mc_M 21).1 ∈ ms_tb ∧ Jvm.Cond.instanceMethod (mc_M 21).1 ∈ ms_tb ∧ Jvm.Cond.selects (mc_M 21).1.cls (mc_M 21).1 (mc_M 21).1 ∈ ms_tb ∧ ∃ q, mt_cl[1]? = some q ∧ q.1 = (mc_M 21).1.cls := ⟨mk_ca21, mk_tb (mk_sub4 (List.mem_of_getElem? (i := 58) rfl) rfl), mk_im21, mk_se21, _, rfl, rfl⟩
set_option maxRecDepth 100000 in
theorem mk_V48 : ms_callee mc_M 23 (3 - 1) ∧ Jvm.Cond.methodLink (mk_nm 1) 216 (mc_M 23).1 ∈ ms_tb ∧ Jvm.Cond.instanceMethod (mc_M 23).1 ∈ ms_tb ∧ Jvm.Cond.selects (mc_M 23).1.cls (mc_M 23).1 (mc_M 23).1 ∈ ms_tb ∧ ∃ q, mt_cl[1]? = some q ∧ q.1 = (mc_M 23).1.cls := ⟨mk_ca23, mk_tb (mk_sub4 (List.mem_of_getElem? (i := 129) rfl) rfl), mk_im23, mk_se23, _, rfl, rfl⟩
set_option maxRecDepth 100000 in
theorem mk_V49 : ms_callee mc_M 98 (2 - 1) ∧ Jvm.Cond.methodLink (mk_nm 1) 223 (mc_M 98).1 ∈ ms_tb ∧ Jvm.Cond.instanceMethod (mc_M 98).1 ∈ ms_tb ∧ Jvm.Cond.selects (mc_M 98).1.cls (mc_M 98).1 (mc_M 98).1 ∈ ms_tb ∧ ∃ q, mt_cl[5]? = some q ∧ q.1 = (mc_M 98).1.cls := ⟨mk_ca98, mk_tb (mk_sub4 (List.mem_of_getElem? (i := 49) rfl) rfl), mk_im98, mk_se98, _, rfl, rfl⟩
set_option maxRecDepth 100000 in
theorem mk_V50 : ms_callee mc_M 151 (2 - 1) ∧ Jvm.Cond.methodLink (mk_nm 1) 226 (mc_M 151).1 ∈ ms_tb ∧ Jvm.Cond.instanceMethod (mc_M 151).1 ∈ ms_tb ∧ Jvm.Cond.selects (mc_M 151).1.cls (mc_M 151).1 (mc_M 151).1 ∈ ms_tb ∧ ∃ q, mt_cl[8]? = some q ∧ q.1 = (mc_M 151).1.cls := ⟨mk_ca151, mk_tb (mk_sub4 (List.mem_of_getElem? (i := 57) rfl) rfl), mk_im151, mk_se151, _, rfl, rfl⟩
set_option maxRecDepth 100000 in
theorem mk_V51 : ms_callee mc_M 24 (4 - 1) ∧ Jvm.Cond.methodLink (mk_nm 1) 231 (mc_M 24).1 ∈ ms_tb ∧ Jvm.Cond.instanceMethod (mc_M 24).1 ∈ ms_tb ∧ Jvm.Cond.selects (mc_M 24).1.cls (mc_M 24).1 (mc_M 24).1 ∈ ms_tb ∧ ∃ q, mt_cl[1]? = some q ∧ q.1 = (mc_M 24).1.cls := ⟨mk_ca24, mk_tb (mk_sub4 (List.mem_of_getElem? (i := 134) rfl) rfl), mk_im24, mk_se24, _, rfl, rfl⟩
set_option maxRecDepth 100000 in
theorem mk_V52 : ms_callee mc_M 27 (1 - 1) ∧ Jvm.Cond.methodLink (mk_nm 2) 44 (mc_M 27).1 ∈ ms_tb ∧ Jvm.Cond.instanceMethod (mc_M 27).1 ∈ ms_tb ∧ Jvm.Cond.selects (mc_M 27).1.cls (mc_M 27).1 (mc_M 27).1 ∈ ms_tb ∧ ∃ q, mt_cl[2]? = some q ∧ q.1 = (mc_M 27).1.cls := ⟨mk_ca27, mk_tb (mk_sub7 (List.mem_of_getElem? (i := 203) rfl) rfl), mk_im27, mk_se27, _, rfl, rfl⟩
set_option maxRecDepth 100000 in
theorem mk_V53 : ms_callee mc_M 29 (3 - 1) ∧ Jvm.Cond.methodLink (mk_nm 2) 55 (mc_M 29).1 ∈ ms_tb ∧ Jvm.Cond.instanceMethod (mc_M 29).1 ∈ ms_tb ∧ Jvm.Cond.selects (mc_M 29).1.cls (mc_M 29).1 (mc_M 29).1 ∈ ms_tb ∧ ∃ q, mt_cl[2]? = some q ∧ q.1 = (mc_M 29).1.cls := ⟨mk_ca29, mk_tb (mk_sub7 (List.mem_of_getElem? (i := 204) rfl) rfl), mk_im29, mk_se29, _, rfl, rfl⟩
set_option maxRecDepth 100000 in
theorem mk_V54 : ms_callee mc_M 30 (2 - 1) ∧ Jvm.Cond.methodLink (mk_nm 2) 63 (mc_M 30).1 ∈ ms_tb ∧ Jvm.Cond.instanceMethod (mc_M 30).1 ∈ ms_tb ∧ Jvm.Cond.selects (mc_M 30).1.cls (mc_M 30).1 (mc_M 30).1 ∈ ms_tb ∧ ∃ q, mt_cl[2]? = some q ∧ q.1 = (mc_M 30).1.cls := ⟨mk_ca30, mk_tb (mk_sub7 (List.mem_of_getElem? (i := 212) rfl) rfl), mk_im30, mk_se30, _, rfl, rfl⟩
set_option maxRecDepth 100000 in
theorem mk_V55 : ms_callee mc_M 163 (4 - 1) ∧ Jvm.Cond.methodLink (mk_nm 2) 83 (mc_M 163).1 ∈ ms_tb ∧ Jvm.Cond.instanceMethod (mc_M 163).1 ∈ ms_tb ∧ Jvm.Cond.selects (mc_M 163).1.cls (mc_M 163).1 (mc_M 163).1 ∈ ms_tb ∧ ∃ q, mt_cl[8]? = some q ∧ q.1 = (mc_M 163).1.cls := ⟨mk_ca163, mk_tb (mk_sub7 (List.mem_of_getElem? (i := 208) rfl) rfl), mk_im163, mk_se163, _, rfl, rfl⟩
set_option maxRecDepth 100000 in
theorem mk_V56 : ms_callee mc_M 33 (2 - 1) ∧ Jvm.Cond.methodLink (mk_nm 2) 100 (mc_M 33).1 ∈ ms_tb ∧ Jvm.Cond.instanceMethod (mc_M 33).1 ∈ ms_tb ∧ Jvm.Cond.selects (mc_M 33).1.cls (mc_M 33).1 (mc_M 33).1 ∈ ms_tb ∧ ∃ q, mt_cl[2]? = some q ∧ q.1 = (mc_M 33).1.cls := ⟨mk_ca33, mk_tb (mk_sub7 (List.mem_of_getElem? (i := 216) rfl) rfl), mk_im33, mk_se33, _, rfl, rfl⟩
set_option maxRecDepth 100000 in
theorem mk_V57 : ms_callee mc_M 37 (2 - 1) ∧ Jvm.Cond.methodLink (mk_nm 2) 109 (mc_M 37).1 ∈ ms_tb ∧ Jvm.Cond.instanceMethod (mc_M 37).1 ∈ ms_tb ∧ Jvm.Cond.selects (mc_M 37).1.cls (mc_M 37).1 (mc_M 37).1 ∈ ms_tb ∧ ∃ q, mt_cl[2]? = some q ∧ q.1 = (mc_M 37).1.cls := ⟨mk_ca37, mk_tb (mk_sub7 (List.mem_of_getElem? (i := 221) rfl) rfl), mk_im37, mk_se37, _, rfl, rfl⟩
set_option maxRecDepth 100000 in
theorem mk_V58 : ms_callee mc_M 32 (3 - 1) ∧ Jvm.Cond.methodLink (mk_nm 2) 113 (mc_M 32).1 ∈ ms_tb ∧ Jvm.Cond.instanceMethod (mc_M 32).1 ∈ ms_tb ∧ Jvm.Cond.selects (mc_M 32).1.cls (mc_M 32).1 (mc_M 32).1 ∈ ms_tb ∧ ∃ q, mt_cl[2]? = some q ∧ q.1 = (mc_M 32).1.cls := ⟨mk_ca32, mk_tb (mk_sub8 (List.mem_of_getElem? (i := 11) rfl) rfl), mk_im32, mk_se32, _, rfl, rfl⟩
set_option maxRecDepth 100000 in
theorem mk_V59 : ms_callee mc_M 34 (2 - 1) ∧ Jvm.Cond.methodLink (mk_nm 2) 117 (mc_M 34).1 ∈ ms_tb ∧ Jvm.Cond.instanceMethod (mc_M 34).1 ∈ ms_tb ∧ Jvm.Cond.selects (mc_M 34).1.cls (mc_M 34).1 (mc_M 34).1 ∈ ms_tb ∧ ∃ q, mt_cl[2]? = some q ∧ q.1 = (mc_M 34).1.cls := ⟨mk_ca34, mk_tb (mk_sub8 (List.mem_of_getElem? (i := 16) rfl) rfl), mk_im34, mk_se34, _, rfl, rfl⟩
set_option maxRecDepth 100000 in
theorem mk_V60 : ms_callee mc_M 80 (2 - 1) ∧ Jvm.Cond.methodLink (mk_nm 2) 123 (mc_M 80).1 ∈ ms_tb ∧ Jvm.Cond.instanceMethod (mc_M 80).1 ∈ ms_tb ∧ Jvm.Cond.selects (mc_M 80).1.cls (mc_M 80).1 (mc_M 80).1 ∈ ms_tb ∧ ∃ q, mt_cl[4]? = some q ∧ q.1 = (mc_M 80).1.cls := ⟨mk_ca80, mk_tb (mk_sub7 (List.mem_of_getElem? (i := 220) rfl) rfl), mk_im80, mk_se80, _, rfl, rfl⟩
set_option maxRecDepth 100000 in
theorem mk_V61 : ms_callee mc_M 84 (2 - 1) ∧ Jvm.Cond.methodLink (mk_nm 2) 126 (mc_M 84).1 ∈ ms_tb ∧ Jvm.Cond.instanceMethod (mc_M 84).1 ∈ ms_tb ∧ Jvm.Cond.selects (mc_M 84).1.cls (mc_M 84).1 (mc_M 84).1 ∈ ms_tb ∧ ∃ q, mt_cl[4]? = some q ∧ q.1 = (mc_M 84).1.cls := ⟨mk_ca84, mk_tb (mk_sub8 (List.mem_of_getElem? (i := 20) rfl) rfl), mk_im84, mk_se84, _, rfl, rfl⟩
set_option maxRecDepth 100000 in
theorem mk_V62 : ms_callee mc_M 35 (2 - 1) ∧ Jvm.Cond.methodLink (mk_nm 2) 129 (mc_M 35).1 ∈ ms_tb ∧ Jvm.Cond.instanceMethod (mc_M 35).1 ∈ ms_tb ∧ Jvm.Cond.selects (mc_M 35).1.cls (mc_M 35).1 (mc_M 35).1 ∈ ms_tb ∧ ∃ q, mt_cl[2]? = some q ∧ q.1 = (mc_M 35).1.cls := ⟨mk_ca35, mk_tb (mk_sub8 (List.mem_of_getElem? (i := 21) rfl) rfl), mk_im35, mk_se35, _, rfl, rfl⟩
set_option maxRecDepth 100000 in
theorem mk_V63 : ms_callee mc_M 31 (2 - 1) ∧ Jvm.Cond.methodLink (mk_nm 2) 136 (mc_M 31).1 ∈ ms_tb ∧ Jvm.Cond.instanceMethod (mc_M 31).1 ∈ ms_tb ∧ Jvm.Cond.selects (mc_M 31).1.cls (mc_M 31).1 (mc_M 31).1 ∈ ms_tb ∧ ∃ q, mt_cl[2]? = some q ∧ q.1 = (mc_M 31).1.cls := ⟨mk_ca31, mk_tb (mk_sub7 (List.mem_of_getElem? (i := 237) rfl) rfl), mk_im31, mk_se31, _, rfl, rfl⟩
set_option maxRecDepth 100000 in
theorem mk_V64 : ms_callee mc_M 81 (2 - 1) ∧ Jvm.Cond.methodLink (mk_nm 2) 143 (mc_M 81).1 ∈ ms_tb ∧ Jvm.Cond.instanceMethod (mc_M 81).1 ∈ ms_tb ∧ Jvm.Cond.selects (mc_M 81).1.cls (mc_M 81).1 (mc_M 81).1 ∈ ms_tb ∧ ∃ q, mt_cl[4]? = some q ∧ q.1 = (mc_M 81).1.cls := ⟨mk_ca81, mk_tb (mk_sub8 (List.mem_of_getElem? (i := 15) rfl) rfl), mk_im81, mk_se81, _, rfl, rfl⟩
set_option maxRecDepth 100000 in
theorem mk_V65 : ms_callee mc_M 38 (2 - 1) ∧ Jvm.Cond.methodLink (mk_nm 2) 188 (mc_M 38).1 ∈ ms_tb ∧ Jvm.Cond.instanceMethod (mc_M 38).1 ∈ ms_tb ∧ Jvm.Cond.selects (mc_M 38).1.cls (mc_M 38).1 (mc_M 38).1 ∈ ms_tb ∧ ∃ q, mt_cl[2]? = some q ∧ q.1 = (mc_M 38).1.cls := ⟨mk_ca38, mk_tb (mk_sub7 (List.mem_of_getElem? (i := 225) rfl) rfl), mk_im38, mk_se38, _, rfl, rfl⟩
set_option maxRecDepth 100000 in
theorem mk_V66 : ms_callee mc_M 40 (3 - 1) ∧ Jvm.Cond.methodLink (mk_nm 2) 191 (mc_M 40).1 ∈ ms_tb ∧ Jvm.Cond.instanceMethod (mc_M 40).1 ∈ ms_tb ∧ Jvm.Cond.selects (mc_M 40).1.cls (mc_M 40).1 (mc_M 40).1 ∈ ms_tb ∧ ∃ q, mt_cl[2]? = some q ∧ q.1 = (mc_M 40).1.cls := ⟨mk_ca40, mk_tb (mk_sub7 (List.mem_of_getElem? (i := 229) rfl) rfl), mk_im40, mk_se40, _, rfl, rfl⟩
set_option maxRecDepth 100000 in
theorem mk_V67 : ms_callee mc_M 41 (3 - 1) ∧ Jvm.Cond.methodLink (mk_nm 2) 194 (mc_M 41).1 ∈ ms_tb ∧ Jvm.Cond.instanceMethod (mc_M 41).1 ∈ ms_tb ∧ Jvm.Cond.selects (mc_M 41).1.cls (mc_M 41).1 (mc_M 41).1 ∈ ms_tb ∧ ∃ q, mt_cl[2]? = some q ∧ q.1 = (mc_M 41).1.cls := ⟨mk_ca41, mk_tb (mk_sub7 (List.mem_of_getElem? (i := 233) rfl) rfl), mk_im41, mk_se41, _, rfl, rfl⟩
set_option maxRecDepth 100000 in
theorem mk_V68 : ms_callee mc_M 39 (2 - 1) ∧ Jvm.Cond.methodLink (mk_nm 2) 197 (mc_M 39).1 ∈ ms_tb ∧ Jvm.Cond.instanceMethod (mc_M 39).1 ∈ ms_tb ∧ Jvm.Cond.selects (mc_M 39).1.cls (mc_M 39).1 (mc_M 39).1 ∈ ms_tb ∧ ∃ q, mt_cl[2]? = some q ∧ q.1 = (mc_M 39).1.cls := ⟨mk_ca39, mk_tb (mk_sub8 (List.mem_of_getElem? (i := 1) rfl) rfl), mk_im39, mk_se39, _, rfl, rfl⟩
set_option maxRecDepth 100000 in
theorem mk_V69 : ms_callee mc_M 42 (4 - 1) ∧ Jvm.Cond.methodLink (mk_nm 2) 201 (mc_M 42).1 ∈ ms_tb ∧ Jvm.Cond.instanceMethod (mc_M 42).1 ∈ ms_tb ∧ Jvm.Cond.selects (mc_M 42).1.cls (mc_M 42).1 (mc_M 42).1 ∈ ms_tb ∧ ∃ q, mt_cl[2]? = some q ∧ q.1 = (mc_M 42).1.cls := ⟨mk_ca42, mk_tb (mk_sub8 (List.mem_of_getElem? (i := 7) rfl) rfl), mk_im42, mk_se42, _, rfl, rfl⟩
set_option maxRecDepth 100000 in
theorem mk_V70 : ms_callee mc_M 45 (2 - 1) ∧ Jvm.Cond.methodLink (mk_nm 3) 51 (mc_M 45).1 ∈ ms_tb ∧ Jvm.Cond.instanceMethod (mc_M 45).1 ∈ ms_tb ∧ Jvm.Cond.selects (mc_M 45).1.cls (mc_M 45).1 (mc_M 45).1 ∈ ms_tb ∧ ∃ q, mt_cl[3]? = some q ∧ q.1 = (mc_M 45).1.cls := ⟨mk_ca45, mk_tb (mk_sub6 (List.mem_of_getElem? (i := 53) rfl) rfl), mk_im45, mk_se45, _, rfl, rfl⟩
set_option maxRecDepth 100000 in
theorem mk_V71 : ms_callee mc_M 51 (2 - 1) ∧ Jvm.Cond.methodLink (mk_nm 3) 59 (mc_M 51).1 ∈ ms_tb ∧ Jvm.Cond.instanceMethod (mc_M 51).1 ∈ ms_tb ∧ Jvm.Cond.selects (mc_M 51).1.cls (mc_M 51).1 (mc_M 51).1 ∈ ms_tb ∧ ∃ q, mt_cl[3]? = some q ∧ q.1 = (mc_M 51).1.cls := ⟨mk_ca51, mk_tb (mk_sub6 (List.mem_of_getElem? (i := 62) rfl) rfl), mk_im51, mk_se51, _, rfl, rfl⟩
set_option maxRecDepth 100000 in
theorem mk_V72 : ms_callee mc_M 55 (2 - 1) ∧ Jvm.Cond.methodLink (mk_nm 3) 62 (mc_M 55).1 ∈ ms_tb ∧ Jvm.Cond.instanceMethod (mc_M 55).1 ∈ ms_tb ∧ Jvm.Cond.selects (mc_M 55).1.cls (mc_M 55).1 (mc_M 55).1 ∈ ms_tb ∧ ∃ q, mt_cl[3]? = some q ∧ q.1 = (mc_M 55).1.cls := ⟨mk_ca55, mk_tb (mk_sub6 (List.mem_of_getElem? (i := 78) rfl) rfl), mk_im55, mk_se55, _, rfl, rfl⟩
set_option maxRecDepth 100000 in
theorem mk_V73 : ms_callee mc_M 56 (3 - 1) ∧ Jvm.Cond.methodLink (mk_nm 3) 65 (mc_M 56).1 ∈ ms_tb ∧ Jvm.Cond.instanceMethod (mc_M 56).1 ∈ ms_tb ∧ Jvm.Cond.selects (mc_M 56).1.cls (mc_M 56).1 (mc_M 56).1 ∈ ms_tb ∧ ∃ q, mt_cl[3]? = some q ∧ q.1 = (mc_M 56).1.cls := ⟨mk_ca56, mk_tb (mk_sub6 (List.mem_of_getElem? (i := 114) rfl) rfl), mk_im56, mk_se56, _, rfl, rfl⟩
set_option maxRecDepth 100000 in
theorem mk_V74 : ms_callee mc_M 58 (1 - 1) ∧ Jvm.Cond.methodLink (mk_nm 3) 69 (mc_M 58).1 ∈ ms_tb ∧ Jvm.Cond.instanceMethod (mc_M 58).1 ∈ ms_tb ∧ Jvm.Cond.selects (mc_M 58).1.cls (mc_M 58).1 (mc_M 58).1 ∈ ms_tb ∧ ∃ q, mt_cl[3]? = some q ∧ q.1 = (mc_M 58).1.cls := ⟨mk_ca58, mk_tb (mk_sub6 (List.mem_of_getElem? (i := 126) rfl) rfl), mk_im58, mk_se58, _, rfl, rfl⟩
set_option maxRecDepth 100000 in
theorem mk_V75 : ms_callee mc_M 66 (2 - 1) ∧ Jvm.Cond.methodLink (mk_nm 3) 72 (mc_M 66).1 ∈ ms_tb ∧ Jvm.Cond.instanceMethod (mc_M 66).1 ∈ ms_tb ∧ Jvm.Cond.selects (mc_M 66).1.cls (mc_M 66).1 (mc_M 66).1 ∈ ms_tb ∧ ∃ q, mt_cl[3]? = some q ∧ q.1 = (mc_M 66).1.cls := ⟨mk_ca66, mk_tb (mk_sub6 (List.mem_of_getElem? (i := 197) rfl) rfl), mk_im66, mk_se66, _, rfl, rfl⟩
set_option maxRecDepth 100000 in
theorem mk_V76 : ms_callee mc_M 71 (2 - 1) ∧ Jvm.Cond.methodLink (mk_nm 3) 75 (mc_M 71).1 ∈ ms_tb ∧ Jvm.Cond.instanceMethod (mc_M 71).1 ∈ ms_tb ∧ Jvm.Cond.selects (mc_M 71).1.cls (mc_M 71).1 (mc_M 71).1 ∈ ms_tb ∧ ∃ q, mt_cl[3]? = some q ∧ q.1 = (mc_M 71).1.cls := ⟨mk_ca71, mk_tb (mk_sub6 (List.mem_of_getElem? (i := 219) rfl) rfl), mk_im71, mk_se71, _, rfl, rfl⟩
set_option maxRecDepth 100000 in
theorem mk_V77 : ms_callee mc_M 70 (3 - 1) ∧ Jvm.Cond.methodLink (mk_nm 3) 78 (mc_M 70).1 ∈ ms_tb ∧ Jvm.Cond.instanceMethod (mc_M 70).1 ∈ ms_tb ∧ Jvm.Cond.selects (mc_M 70).1.cls (mc_M 70).1 (mc_M 70).1 ∈ ms_tb ∧ ∃ q, mt_cl[3]? = some q ∧ q.1 = (mc_M 70).1.cls := ⟨mk_ca70, mk_tb (mk_sub7 (List.mem_of_getElem? (i := 5) rfl) rfl), mk_im70, mk_se70, _, rfl, rfl⟩
set_option maxRecDepth 100000 in
theorem mk_V78 : ms_callee mc_M 75 (3 - 1) ∧ Jvm.Cond.methodLink (mk_nm 3) 81 (mc_M 75).1 ∈ ms_tb ∧ Jvm.Cond.instanceMethod (mc_M 75).1 ∈ ms_tb ∧ Jvm.Cond.selects (mc_M 75).1.cls (mc_M 75).1 (mc_M 75).1 ∈ ms_tb ∧ ∃ q, mt_cl[3]? = some q ∧ q.1 = (mc_M 75).1.cls := ⟨mk_ca75, mk_tb (mk_sub7 (List.mem_of_getElem? (i := 18) rfl) rfl), mk_im75, mk_se75, _, rfl, rfl⟩
set_option maxRecDepth 100000 in
theorem mk_V79 : ms_callee mc_M 138 (1 - 1) ∧ Jvm.Cond.methodLink (mk_nm 3) 84 (mc_M 138).1 ∈ ms_tb ∧ Jvm.Cond.instanceMethod (mc_M 138).1 ∈ ms_tb ∧ Jvm.Cond.selects (mc_M 138).1.cls (mc_M 138).1 (mc_M 138).1 ∈ ms_tb ∧ ∃ q, mt_cl[7]? = some q ∧ q.1 = (mc_M 138).1.cls := ⟨mk_ca138, mk_tb (mk_sub7 (List.mem_of_getElem? (i := 39) rfl) rfl), mk_im138, mk_se138, _, rfl, rfl⟩
set_option maxRecDepth 100000 in
theorem mk_V80 : ms_callee mc_M 46 (3 - 1) ∧ Jvm.Cond.methodLink (mk_nm 3) 89 (mc_M 46).1 ∈ ms_tb ∧ Jvm.Cond.instanceMethod (mc_M 46).1 ∈ ms_tb ∧ Jvm.Cond.selects (mc_M 46).1.cls (mc_M 46).1 (mc_M 46).1 ∈ ms_tb ∧ ∃ q, mt_cl[3]? = some q ∧ q.1 = (mc_M 46).1.cls := ⟨mk_ca46, mk_tb (mk_sub6 (List.mem_of_getElem? (i := 57) rfl) rfl), mk_im46, mk_se46, _, rfl, rfl⟩
set_option maxRecDepth 100000 in
theorem mk_V81 : ms_callee mc_M 49 (1 - 1) ∧ Jvm.Cond.methodLink (mk_nm 3) 104 (mc_M 49).1 ∈ ms_tb ∧ Jvm.Cond.instanceMethod (mc_M 49).1 ∈ ms_tb ∧ Jvm.Cond.selects (mc_M 49).1.cls (mc_M 49).1 (mc_M 49).1 ∈ ms_tb ∧ ∃ q, mt_cl[3]? = some q ∧ q.1 = (mc_M 49).1.cls := ⟨mk_ca49, mk_tb (mk_sub6 (List.mem_of_getElem? (i := 74) rfl) rfl), mk_im49, mk_se49, _, rfl, rfl⟩
set_option maxRecDepth 100000 in
theorem mk_V82 : ms_callee mc_M 47 (1 - 1) ∧ Jvm.Cond.methodLink (mk_nm 3) 108 (mc_M 47).1 ∈ ms_tb ∧ Jvm.Cond.instanceMethod (mc_M 47).1 ∈ ms_tb ∧ Jvm.Cond.selects (mc_M 47).1.cls (mc_M 47).1 (mc_M 47).1 ∈ ms_tb ∧ ∃ q, mt_cl[3]? = some q ∧ q.1 = (mc_M 47).1.cls := ⟨mk_ca47, mk_tb (mk_sub6 (List.mem_of_getElem? (i := 66) rfl) rfl), mk_im47, mk_se47, _, rfl, rfl⟩
set_option maxRecDepth 100000 in
theorem mk_V83 : ms_callee mc_M 50 (1 - 1) ∧ Jvm.Cond.methodLink (mk_nm 3) 111 (mc_M 50).1 ∈ ms_tb ∧ Jvm.Cond.instanceMethod (mc_M 50).1 ∈ ms_tb ∧ Jvm.Cond.selects (mc_M 50).1.cls (mc_M 50).1 (mc_M 50).1 ∈ ms_tb ∧ ∃ q, mt_cl[3]? = some q ∧ q.1 = (mc_M 50).1.cls := ⟨mk_ca50, mk_tb (mk_sub6 (List.mem_of_getElem? (i := 70) rfl) rfl), mk_im50, mk_se50, _, rfl, rfl⟩
set_option maxRecDepth 100000 in
theorem mk_V84 : ms_callee mc_M 54 (3 - 1) ∧ Jvm.Cond.methodLink (mk_nm 3) 126 (mc_M 54).1 ∈ ms_tb ∧ Jvm.Cond.instanceMethod (mc_M 54).1 ∈ ms_tb ∧ Jvm.Cond.selects (mc_M 54).1.cls (mc_M 54).1 (mc_M 54).1 ∈ ms_tb ∧ ∃ q, mt_cl[3]? = some q ∧ q.1 = (mc_M 54).1.cls := ⟨mk_ca54, mk_tb (mk_sub6 (List.mem_of_getElem? (i := 164) rfl) rfl), mk_im54, mk_se54, _, rfl, rfl⟩
set_option maxRecDepth 100000 in
theorem mk_V85 : ms_callee mc_M 133 (2 - 1) ∧ Jvm.Cond.methodLink (mk_nm 3) 132 (mc_M 133).1 ∈ ms_tb ∧ Jvm.Cond.instanceMethod (mc_M 133).1 ∈ ms_tb ∧ Jvm.Cond.selects (mc_M 133).1.cls (mc_M 133).1 (mc_M 133).1 ∈ ms_tb ∧ ∃ q, mt_cl[7]? = some q ∧ q.1 = (mc_M 133).1.cls := ⟨mk_ca133, mk_tb (mk_sub6 (List.mem_of_getElem? (i := 82) rfl) rfl), mk_im133, mk_se133, _, rfl, rfl⟩
set_option maxRecDepth 100000 in
theorem mk_V86 : ms_callee mc_M 117 (1 - 1) ∧ Jvm.Cond.methodLink (mk_nm 3) 135 (mc_M 117).1 ∈ ms_tb ∧ Jvm.Cond.instanceMethod (mc_M 117).1 ∈ ms_tb ∧ Jvm.Cond.selects (mc_M 117).1.cls (mc_M 117).1 (mc_M 117).1 ∈ ms_tb ∧ ∃ q, mt_cl[6]? = some q ∧ q.1 = (mc_M 117).1.cls := ⟨mk_ca117, mk_tb (mk_sub6 (List.mem_of_getElem? (i := 86) rfl) rfl), mk_im117, mk_se117, _, rfl, rfl⟩
set_option maxRecDepth 100000 in
theorem mk_V87 : ms_callee mc_M 120 (2 - 1) ∧ Jvm.Cond.methodLink (mk_nm 3) 138 (mc_M 120).1 ∈ ms_tb ∧ Jvm.Cond.instanceMethod (mc_M 120).1 ∈ ms_tb ∧ Jvm.Cond.selects (mc_M 120).1.cls (mc_M 120).1 (mc_M 120).1 ∈ ms_tb ∧ ∃ q, mt_cl[6]? = some q ∧ q.1 = (mc_M 120).1.cls := ⟨mk_ca120, mk_tb (mk_sub6 (List.mem_of_getElem? (i := 90) rfl) rfl), mk_im120, mk_se120, _, rfl, rfl⟩
set_option maxRecDepth 100000 in
theorem mk_V88 : ms_callee mc_M 134 (3 - 1) ∧ Jvm.Cond.methodLink (mk_nm 3) 142 (mc_M 134).1 ∈ ms_tb ∧ Jvm.Cond.instanceMethod (mc_M 134).1 ∈ ms_tb ∧ Jvm.Cond.selects (mc_M 134).1.cls (mc_M 134).1 (mc_M 134).1 ∈ ms_tb ∧ ∃ q, mt_cl[7]? = some q ∧ q.1 = (mc_M 134).1.cls := ⟨mk_ca134, mk_tb (mk_sub6 (List.mem_of_getElem? (i := 102) rfl) rfl), mk_im134, mk_se134, _, rfl, rfl⟩
set_option maxRecDepth 100000 in
theorem mk_V89 : ms_callee mc_M 121 (3 - 1) ∧ Jvm.Cond.methodLink (mk_nm 3) 146 (mc_M 121).1 ∈ ms_tb ∧ Jvm.Cond.instanceMethod (mc_M 121).1 ∈ ms_tb ∧ Jvm.Cond.selects (mc_M 121).1.cls (mc_M 121).1 (mc_M 121).1 ∈ ms_tb ∧ ∃ q, mt_cl[6]? = some q ∧ q.1 = (mc_M 121).1.cls := ⟨mk_ca121, mk_tb (mk_sub6 (List.mem_of_getElem? (i := 106) rfl) rfl), mk_im121, mk_se121, _, rfl, rfl⟩
set_option maxRecDepth 100000 in
theorem mk_V90 : ms_callee mc_M 136 (1 - 1) ∧ Jvm.Cond.methodLink (mk_nm 3) 149 (mc_M 136).1 ∈ ms_tb ∧ Jvm.Cond.instanceMethod (mc_M 136).1 ∈ ms_tb ∧ Jvm.Cond.selects (mc_M 136).1.cls (mc_M 136).1 (mc_M 136).1 ∈ ms_tb ∧ ∃ q, mt_cl[7]? = some q ∧ q.1 = (mc_M 136).1.cls := ⟨mk_ca136, mk_tb (mk_sub6 (List.mem_of_getElem? (i := 110) rfl) rfl), mk_im136, mk_se136, _, rfl, rfl⟩
set_option maxRecDepth 100000 in
theorem mk_V91 : ms_callee mc_M 52 (1 - 1) ∧ Jvm.Cond.methodLink (mk_nm 3) 152 (mc_M 52).1 ∈ ms_tb ∧ Jvm.Cond.instanceMethod (mc_M 52).1 ∈ ms_tb ∧ Jvm.Cond.selects (mc_M 52).1.cls (mc_M 52).1 (mc_M 52).1 ∈ ms_tb ∧ ∃ q, mt_cl[3]? = some q ∧ q.1 = (mc_M 52).1.cls := ⟨mk_ca52, mk_tb (mk_sub6 (List.mem_of_getElem? (i := 118) rfl) rfl), mk_im52, mk_se52, _, rfl, rfl⟩
set_option maxRecDepth 100000 in
theorem mk_V92 : ms_callee mc_M 118 (1 - 1) ∧ Jvm.Cond.methodLink (mk_nm 3) 156 (mc_M 118).1 ∈ ms_tb ∧ Jvm.Cond.instanceMethod (mc_M 118).1 ∈ ms_tb ∧ Jvm.Cond.selects (mc_M 118).1.cls (mc_M 118).1 (mc_M 118).1 ∈ ms_tb ∧ ∃ q, mt_cl[6]? = some q ∧ q.1 = (mc_M 118).1.cls := ⟨mk_ca118, mk_tb (mk_sub6 (List.mem_of_getElem? (i := 122) rfl) rfl), mk_im118, mk_se118, _, rfl, rfl⟩
set_option maxRecDepth 100000 in
theorem mk_V93 : ms_callee mc_M 132 (5 - 1) ∧ Jvm.Cond.methodLink (mk_nm 3) 165 (mc_M 132).1 ∈ ms_tb ∧ Jvm.Cond.instanceMethod (mc_M 132).1 ∈ ms_tb ∧ Jvm.Cond.selects (mc_M 132).1.cls (mc_M 132).1 (mc_M 132).1 ∈ ms_tb ∧ ∃ q, mt_cl[7]? = some q ∧ q.1 = (mc_M 132).1.cls := ⟨mk_ca132, mk_tb (mk_sub6 (List.mem_of_getElem? (i := 134) rfl) rfl), mk_im132, mk_se132, _, rfl, rfl⟩
set_option maxRecDepth 100000 in
theorem mk_V94 : ms_callee mc_M 57 (2 - 1) ∧ Jvm.Cond.methodLink (mk_nm 3) 169 (mc_M 57).1 ∈ ms_tb ∧ Jvm.Cond.instanceMethod (mc_M 57).1 ∈ ms_tb ∧ Jvm.Cond.selects (mc_M 57).1.cls (mc_M 57).1 (mc_M 57).1 ∈ ms_tb ∧ ∃ q, mt_cl[3]? = some q ∧ q.1 = (mc_M 57).1.cls := ⟨mk_ca57, mk_tb (mk_sub6 (List.mem_of_getElem? (i := 130) rfl) rfl), mk_im57, mk_se57, _, rfl, rfl⟩
set_option maxRecDepth 100000 in
theorem mk_V95 : ms_callee mc_M 61 (1 - 1) ∧ Jvm.Cond.methodLink (mk_nm 3) 172 (mc_M 61).1 ∈ ms_tb ∧ Jvm.Cond.instanceMethod (mc_M 61).1 ∈ ms_tb ∧ Jvm.Cond.selects (mc_M 61).1.cls (mc_M 61).1 (mc_M 61).1 ∈ ms_tb ∧ ∃ q, mt_cl[3]? = some q ∧ q.1 = (mc_M 61).1.cls := ⟨mk_ca61, mk_tb (mk_sub6 (List.mem_of_getElem? (i := 139) rfl) rfl), mk_im61, mk_se61, _, rfl, rfl⟩
set_option maxRecDepth 100000 in
theorem mk_V96 : ms_callee mc_M 59 (3 - 1) ∧ Jvm.Cond.methodLink (mk_nm 3) 175 (mc_M 59).1 ∈ ms_tb ∧ Jvm.Cond.instanceMethod (mc_M 59).1 ∈ ms_tb ∧ Jvm.Cond.selects (mc_M 59).1.cls (mc_M 59).1 (mc_M 59).1 ∈ ms_tb ∧ ∃ q, mt_cl[3]? = some q ∧ q.1 = (mc_M 59).1.cls := ⟨mk_ca59, mk_tb (mk_sub6 (List.mem_of_getElem? (i := 189) rfl) rfl), mk_im59, mk_se59, _, rfl, rfl⟩
set_option maxRecDepth 100000 in
theorem mk_V97 : ms_callee mc_M 60 (1 - 1) ∧ Jvm.Cond.methodLink (mk_nm 3) 178 (mc_M 60).1 ∈ ms_tb ∧ Jvm.Cond.instanceMethod (mc_M 60).1 ∈ ms_tb ∧ Jvm.Cond.selects (mc_M 60).1.cls (mc_M 60).1 (mc_M 60).1 ∈ ms_tb ∧ ∃ q, mt_cl[3]? = some q ∧ q.1 = (mc_M 60).1.cls := ⟨mk_ca60, mk_tb (mk_sub6 (List.mem_of_getElem? (i := 193) rfl) rfl), mk_im60, mk_se60, _, rfl, rfl⟩
set_option maxRecDepth 100000 in
theorem mk_V98 : ms_callee mc_M 48 (2 - 1) ∧ Jvm.Cond.methodLink (mk_nm 3) 187 (mc_M 48).1 ∈ ms_tb ∧ Jvm.Cond.instanceMethod (mc_M 48).1 ∈ ms_tb ∧ Jvm.Cond.selects (mc_M 48).1.cls (mc_M 48).1 (mc_M 48).1 ∈ ms_tb ∧ ∃ q, mt_cl[3]? = some q ∧ q.1 = (mc_M 48).1.cls := ⟨mk_ca48, mk_tb (mk_sub6 (List.mem_of_getElem? (i := 143) rfl) rfl), mk_im48, mk_se48, _, rfl, rfl⟩
set_option maxRecDepth 100000 in
theorem mk_V99 : ms_callee mc_M 62 (1 - 1) ∧ Jvm.Cond.methodLink (mk_nm 3) 191 (mc_M 62).1 ∈ ms_tb ∧ Jvm.Cond.instanceMethod (mc_M 62).1 ∈ ms_tb ∧ Jvm.Cond.selects (mc_M 62).1.cls (mc_M 62).1 (mc_M 62).1 ∈ ms_tb ∧ ∃ q, mt_cl[3]? = some q ∧ q.1 = (mc_M 62).1.cls := ⟨mk_ca62, mk_tb (mk_sub6 (List.mem_of_getElem? (i := 147) rfl) rfl), mk_im62, mk_se62, _, rfl, rfl⟩
set_option maxRecDepth 100000 in
theorem mk_V100 : ms_callee mc_M 64 (1 - 1) ∧ Jvm.Cond.methodLink (mk_nm 3) 194 (mc_M 64).1 ∈ ms_tb ∧ Jvm.Cond.instanceMethod (mc_M 64).1 ∈ ms_tb ∧ Jvm.Cond.selects (mc_M 64).1.cls (mc_M 64).1 (mc_M 64).1 ∈ ms_tb ∧ ∃ q, mt_cl[3]? = some q ∧ q.1 = (mc_M 64).1.cls := ⟨mk_ca64, mk_tb (mk_sub6 (List.mem_of_getElem? (i := 168) rfl) rfl), mk_im64, mk_se64, _, rfl, rfl⟩
set_option maxRecDepth 100000 in
theorem mk_V101 : ms_callee mc_M 65 (1 - 1) ∧ Jvm.Cond.methodLink (mk_nm 3) 200 (mc_M 65).1 ∈ ms_tb ∧ Jvm.Cond.instanceMethod (mc_M 65).1 ∈ ms_tb ∧ Jvm.Cond.selects (mc_M 65).1.cls (mc_M 65).1 (mc_M 65).1 ∈ ms_tb ∧ ∃ q, mt_cl[3]? = some q ∧ q.1 = (mc_M 65).1.cls := ⟨mk_ca65, mk_tb (mk_sub6 (List.mem_of_getElem? (i := 181) rfl) rfl), mk_im65, mk_se65, _, rfl, rfl⟩
set_option maxRecDepth 100000 in
theorem mk_V102 : ms_callee mc_M 123 (2 - 1) ∧ Jvm.Cond.methodLink (mk_nm 3) 203 (mc_M 123).1 ∈ ms_tb ∧ Jvm.Cond.instanceMethod (mc_M 123).1 ∈ ms_tb ∧ Jvm.Cond.selects (mc_M 123).1.cls (mc_M 123).1 (mc_M 123).1 ∈ ms_tb ∧ ∃ q, mt_cl[6]? = some q ∧ q.1 = (mc_M 123).1.cls := ⟨mk_ca123, mk_tb (mk_sub6 (List.mem_of_getElem? (i := 177) rfl) rfl), mk_im123, mk_se123, _, rfl, rfl⟩
set_option maxRecDepth 100000 in
theorem mk_V103 : ms_callee mc_M 124 (2 - 1) ∧ Jvm.Cond.methodLink (mk_nm 3) 206 (mc_M 124).1 ∈ ms_tb ∧ Jvm.Cond.instanceMethod (mc_M 124).1 ∈ ms_tb ∧ Jvm.Cond.selects (mc_M 124).1.cls (mc_M 124).1 (mc_M 124).1 ∈ ms_tb ∧ ∃ q, mt_cl[6]? = some q ∧ q.1 = (mc_M 124).1.cls := ⟨mk_ca124, mk_tb (mk_sub6 (List.mem_of_getElem? (i := 185) rfl) rfl), mk_im124, mk_se124, _, rfl, rfl⟩
set_option maxRecDepth 100000 in
theorem mk_V104 : ms_callee mc_M 63 (1 - 1) ∧ Jvm.Cond.methodLink (mk_nm 3) 215 (mc_M 63).1 ∈ ms_tb ∧ Jvm.Cond.instanceMethod (mc_M 63).1 ∈ ms_tb ∧ Jvm.Cond.selects (mc_M 63).1.cls (mc_M 63).1 (mc_M 63).1 ∈ ms_tb ∧ ∃ q, mt_cl[3]? = some q ∧ q.1 = (mc_M 63).1.cls := ⟨mk_ca63, mk_tb (mk_sub6 (List.mem_of_getElem? (i := 151) rfl) rfl), mk_im63, mk_se63, _, rfl, rfl⟩
set_option maxRecDepth 100000 in
theorem mk_V105 : ms_callee mc_M 53 (3 - 1) ∧ Jvm.Cond.methodLink (mk_nm 3) 221 (mc_M 53).1 ∈ ms_tb ∧ Jvm.Cond.instanceMethod (mc_M 53).1 ∈ ms_tb ∧ Jvm.Cond.selects (mc_M 53).1.cls (mc_M 53).1 (mc_M 53).1 ∈ ms_tb ∧ ∃ q, mt_cl[3]? = some q ∧ q.1 = (mc_M 53).1.cls := ⟨mk_ca53, mk_tb (mk_sub6 (List.mem_of_getElem? (i := 160) rfl) rfl), mk_im53, mk_se53, _, rfl, rfl⟩
set_option maxRecDepth 100000 in
theorem mk_V106 : ms_callee mc_M 137 (3 - 1) ∧ Jvm.Cond.methodLink (mk_nm 3) 231 (mc_M 137).1 ∈ ms_tb ∧ Jvm.Cond.instanceMethod (mc_M 137).1 ∈ ms_tb ∧ Jvm.Cond.selects (mc_M 137).1.cls (mc_M 137).1 (mc_M 137).1 ∈ ms_tb ∧ ∃ q, mt_cl[7]? = some q ∧ q.1 = (mc_M 137).1.cls := ⟨mk_ca137, mk_tb (mk_sub6 (List.mem_of_getElem? (i := 155) rfl) rfl), mk_im137, mk_se137, _, rfl, rfl⟩
set_option maxRecDepth 100000 in
theorem mk_V107 : ms_callee mc_M 182 (3 - 1) ∧ Jvm.Cond.methodLink (mk_nm 3) 234 (mc_M 182).1 ∈ ms_tb ∧ Jvm.Cond.instanceMethod (mc_M 182).1 ∈ ms_tb ∧ Jvm.Cond.selects (mc_M 182).1.cls (mc_M 182).1 (mc_M 182).1 ∈ ms_tb ∧ ∃ q, mt_cl[10]? = some q ∧ q.1 = (mc_M 182).1.cls := ⟨mk_ca182, mk_tb (mk_sub6 (List.mem_of_getElem? (i := 159) rfl) rfl), mk_im182, mk_se182, _, rfl, rfl⟩
set_option maxRecDepth 100000 in
theorem mk_V108 : ms_callee mc_M 119 (2 - 1) ∧ Jvm.Cond.methodLink (mk_nm 3) 238 (mc_M 119).1 ∈ ms_tb ∧ Jvm.Cond.instanceMethod (mc_M 119).1 ∈ ms_tb ∧ Jvm.Cond.selects (mc_M 119).1.cls (mc_M 119).1 (mc_M 119).1 ∈ ms_tb ∧ ∃ q, mt_cl[6]? = some q ∧ q.1 = (mc_M 119).1.cls := ⟨mk_ca119, mk_tb (mk_sub6 (List.mem_of_getElem? (i := 172) rfl) rfl), mk_im119, mk_se119, _, rfl, rfl⟩
set_option maxRecDepth 100000 in
theorem mk_V109 : ms_callee mc_M 122 (2 - 1) ∧ Jvm.Cond.methodLink (mk_nm 3) 241 (mc_M 122).1 ∈ ms_tb ∧ Jvm.Cond.instanceMethod (mc_M 122).1 ∈ ms_tb ∧ Jvm.Cond.selects (mc_M 122).1.cls (mc_M 122).1 (mc_M 122).1 ∈ ms_tb ∧ ∃ q, mt_cl[6]? = some q ∧ q.1 = (mc_M 122).1.cls := ⟨mk_ca122, mk_tb (mk_sub6 (List.mem_of_getElem? (i := 173) rfl) rfl), mk_im122, mk_se122, _, rfl, rfl⟩
set_option maxRecDepth 100000 in
theorem mk_V110 : ms_callee mc_M 67 (1 - 1) ∧ Jvm.Cond.methodLink (mk_nm 3) 247 (mc_M 67).1 ∈ ms_tb ∧ Jvm.Cond.instanceMethod (mc_M 67).1 ∈ ms_tb ∧ Jvm.Cond.selects (mc_M 67).1.cls (mc_M 67).1 (mc_M 67).1 ∈ ms_tb ∧ ∃ q, mt_cl[3]? = some q ∧ q.1 = (mc_M 67).1.cls := ⟨mk_ca67, mk_tb (mk_sub6 (List.mem_of_getElem? (i := 201) rfl) rfl), mk_im67, mk_se67, _, rfl, rfl⟩
set_option maxRecDepth 100000 in
theorem mk_V111 : ms_callee mc_M 177 (2 - 1) ∧ Jvm.Cond.methodLink (mk_nm 3) 250 (mc_M 177).1 ∈ ms_tb ∧ Jvm.Cond.instanceMethod (mc_M 177).1 ∈ ms_tb ∧ Jvm.Cond.selects (mc_M 177).1.cls (mc_M 177).1 (mc_M 177).1 ∈ ms_tb ∧ ∃ q, mt_cl[10]? = some q ∧ q.1 = (mc_M 177).1.cls := ⟨mk_ca177, mk_tb (mk_sub6 (List.mem_of_getElem? (i := 205) rfl) rfl), mk_im177, mk_se177, _, rfl, rfl⟩
set_option maxRecDepth 100000 in
theorem mk_V112 : ms_callee mc_M 68 (1 - 1) ∧ Jvm.Cond.methodLink (mk_nm 3) 256 (mc_M 68).1 ∈ ms_tb ∧ Jvm.Cond.instanceMethod (mc_M 68).1 ∈ ms_tb ∧ Jvm.Cond.selects (mc_M 68).1.cls (mc_M 68).1 (mc_M 68).1 ∈ ms_tb ∧ ∃ q, mt_cl[3]? = some q ∧ q.1 = (mc_M 68).1.cls := ⟨mk_ca68, mk_tb (mk_sub6 (List.mem_of_getElem? (i := 207) rfl) rfl), mk_im68, mk_se68, _, rfl, rfl⟩
set_option maxRecDepth 100000 in
theorem mk_V113 : ms_callee mc_M 69 (2 - 1) ∧ Jvm.Cond.methodLink (mk_nm 3) 259 (mc_M 69).1 ∈ ms_tb ∧ Jvm.Cond.instanceMethod (mc_M 69).1 ∈ ms_tb ∧ Jvm.Cond.selects (mc_M 69).1.cls (mc_M 69).1 (mc_M 69).1 ∈ ms_tb ∧ ∃ q, mt_cl[3]? = some q ∧ q.1 = (mc_M 69).1.cls := ⟨mk_ca69, mk_tb (mk_sub6 (List.mem_of_getElem? (i := 211) rfl) rfl), mk_im69, mk_se69, _, rfl, rfl⟩
set_option maxRecDepth 100000 in
theorem mk_V114 : ms_callee mc_M 135 (2 - 1) ∧ Jvm.Cond.methodLink (mk_nm 3) 274 (mc_M 135).1 ∈ ms_tb ∧ Jvm.Cond.instanceMethod (mc_M 135).1 ∈ ms_tb ∧ Jvm.Cond.selects (mc_M 135).1.cls (mc_M 135).1 (mc_M 135).1 ∈ ms_tb ∧ ∃ q, mt_cl[7]? = some q ∧ q.1 = (mc_M 135).1.cls := ⟨mk_ca135, mk_tb (mk_sub6 (List.mem_of_getElem? (i := 215) rfl) rfl), mk_im135, mk_se135, _, rfl, rfl⟩
set_option maxRecDepth 100000 in
theorem mk_V115 : ms_callee mc_M 129 (1 - 1) ∧ Jvm.Cond.methodLink (mk_nm 3) 291 (mc_M 129).1 ∈ ms_tb ∧ Jvm.Cond.instanceMethod (mc_M 129).1 ∈ ms_tb ∧ Jvm.Cond.selects (mc_M 129).1.cls (mc_M 129).1 (mc_M 129).1 ∈ ms_tb ∧ ∃ q, mt_cl[7]? = some q ∧ q.1 = (mc_M 129).1.cls := ⟨mk_ca129, mk_tb (mk_sub7 (List.mem_of_getElem? (i := 9) rfl) rfl), mk_im129, mk_se129, _, rfl, rfl⟩
set_option maxRecDepth 100000 in
theorem mk_V116 : ms_callee mc_M 126 (4 - 1) ∧ Jvm.Cond.methodLink (mk_nm 3) 297 (mc_M 126).1 ∈ ms_tb ∧ Jvm.Cond.instanceMethod (mc_M 126).1 ∈ ms_tb ∧ Jvm.Cond.selects (mc_M 126).1.cls (mc_M 126).1 (mc_M 126).1 ∈ ms_tb ∧ ∃ q, mt_cl[7]? = some q ∧ q.1 = (mc_M 126).1.cls := ⟨mk_ca126, mk_tb (mk_sub6 (List.mem_of_getElem? (i := 223) rfl) rfl), mk_im126, mk_se126, _, rfl, rfl⟩
set_option maxRecDepth 100000 in
theorem mk_V117 : ms_callee mc_M 128 (3 - 1) ∧ Jvm.Cond.methodLink (mk_nm 3) 301 (mc_M 128).1 ∈ ms_tb ∧ Jvm.Cond.instanceMethod (mc_M 128).1 ∈ ms_tb ∧ Jvm.Cond.selects (mc_M 128).1.cls (mc_M 128).1 (mc_M 128).1 ∈ ms_tb ∧ ∃ q, mt_cl[7]? = some q ∧ q.1 = (mc_M 128).1.cls := ⟨mk_ca128, mk_tb (mk_sub7 (List.mem_of_getElem? (i := 13) rfl) rfl), mk_im128, mk_se128, _, rfl, rfl⟩
set_option maxRecDepth 100000 in
theorem mk_V118 : ms_callee mc_M 127 (3 - 1) ∧ Jvm.Cond.methodLink (mk_nm 3) 304 (mc_M 127).1 ∈ ms_tb ∧ Jvm.Cond.instanceMethod (mc_M 127).1 ∈ ms_tb ∧ Jvm.Cond.selects (mc_M 127).1.cls (mc_M 127).1 (mc_M 127).1 ∈ ms_tb ∧ ∃ q, mt_cl[7]? = some q ∧ q.1 = (mc_M 127).1.cls := ⟨mk_ca127, mk_tb (mk_sub6 (List.mem_of_getElem? (i := 227) rfl) rfl), mk_im127, mk_se127, _, rfl, rfl⟩
set_option maxRecDepth 100000 in
theorem mk_V119 : ms_callee mc_M 72 (2 - 1) ∧ Jvm.Cond.methodLink (mk_nm 3) 307 (mc_M 72).1 ∈ ms_tb ∧ Jvm.Cond.instanceMethod (mc_M 72).1 ∈ ms_tb ∧ Jvm.Cond.selects (mc_M 72).1.cls (mc_M 72).1 (mc_M 72).1 ∈ ms_tb ∧ ∃ q, mt_cl[3]? = some q ∧ q.1 = (mc_M 72).1.cls := ⟨mk_ca72, mk_tb (mk_sub6 (List.mem_of_getElem? (i := 231) rfl) rfl), mk_im72, mk_se72, _, rfl, rfl⟩
set_option maxRecDepth 100000 in
theorem mk_V120 : ms_callee mc_M 73 (2 - 1) ∧ Jvm.Cond.methodLink (mk_nm 3) 310 (mc_M 73).1 ∈ ms_tb ∧ Jvm.Cond.instanceMethod (mc_M 73).1 ∈ ms_tb ∧ Jvm.Cond.selects (mc_M 73).1.cls (mc_M 73).1 (mc_M 73).1 ∈ ms_tb ∧ ∃ q, mt_cl[3]? = some q ∧ q.1 = (mc_M 73).1.cls := ⟨mk_ca73, mk_tb (mk_sub6 (List.mem_of_getElem? (i := 235) rfl) rfl), mk_im73, mk_se73, _, rfl, rfl⟩
set_option maxRecDepth 100000 in
theorem mk_V121 : ms_callee mc_M 74 (1 - 1) ∧ Jvm.Cond.methodLink (mk_nm 3) 317 (mc_M 74).1 ∈ ms_tb ∧ Jvm.Cond.instanceMethod (mc_M 74).1 ∈ ms_tb ∧ Jvm.Cond.selects (mc_M 74).1.cls (mc_M 74).1 (mc_M 74).1 ∈ ms_tb ∧ ∃ q, mt_cl[3]? = some q ∧ q.1 = (mc_M 74).1.cls := ⟨mk_ca74, mk_tb (mk_sub7 (List.mem_of_getElem? (i := 1) rfl) rfl), mk_im74, mk_se74, _, rfl, rfl⟩
set_option maxRecDepth 100000 in
theorem mk_V122 : ms_callee mc_M 130 (3 - 1) ∧ Jvm.Cond.methodLink (mk_nm 3) 321 (mc_M 130).1 ∈ ms_tb ∧ Jvm.Cond.instanceMethod (mc_M 130).1 ∈ ms_tb ∧ Jvm.Cond.selects (mc_M 130).1.cls (mc_M 130).1 (mc_M 130).1 ∈ ms_tb ∧ ∃ q, mt_cl[7]? = some q ∧ q.1 = (mc_M 130).1.cls := ⟨mk_ca130, mk_tb (mk_sub7 (List.mem_of_getElem? (i := 22) rfl) rfl), mk_im130, mk_se130, _, rfl, rfl⟩
set_option maxRecDepth 100000 in
theorem mk_V123 : ms_callee mc_M 76 (1 - 1) ∧ Jvm.Cond.methodLink (mk_nm 3) 324 (mc_M 76).1 ∈ ms_tb ∧ Jvm.Cond.instanceMethod (mc_M 76).1 ∈ ms_tb ∧ Jvm.Cond.selects (mc_M 76).1.cls (mc_M 76).1 (mc_M 76).1 ∈ ms_tb ∧ ∃ q, mt_cl[3]? = some q ∧ q.1 = (mc_M 76).1.cls := ⟨mk_ca76, mk_tb (mk_sub7 (List.mem_of_getElem? (i := 26) rfl) rfl), mk_im76, mk_se76, _, rfl, rfl⟩
set_option maxRecDepth 100000 in
theorem mk_V124 : ms_callee mc_M 77 (1 - 1) ∧ Jvm.Cond.methodLink (mk_nm 3) 327 (mc_M 77).1 ∈ ms_tb ∧ Jvm.Cond.instanceMethod (mc_M 77).1 ∈ ms_tb ∧ Jvm.Cond.selects (mc_M 77).1.cls (mc_M 77).1 (mc_M 77).1 ∈ ms_tb ∧ ∃ q, mt_cl[3]? = some q ∧ q.1 = (mc_M 77).1.cls := ⟨mk_ca77, mk_tb (mk_sub7 (List.mem_of_getElem? (i := 30) rfl) rfl), mk_im77, mk_se77, _, rfl, rfl⟩
set_option maxRecDepth 100000 in
theorem mk_V125 : ms_callee mc_M 131 (2 - 1) ∧ Jvm.Cond.methodLink (mk_nm 3) 334 (mc_M 131).1 ∈ ms_tb ∧ Jvm.Cond.instanceMethod (mc_M 131).1 ∈ ms_tb ∧ Jvm.Cond.selects (mc_M 131).1.cls (mc_M 131).1 (mc_M 131).1 ∈ ms_tb ∧ ∃ q, mt_cl[7]? = some q ∧ q.1 = (mc_M 131).1.cls := ⟨mk_ca131, mk_tb (mk_sub7 (List.mem_of_getElem? (i := 34) rfl) rfl), mk_im131, mk_se131, _, rfl, rfl⟩
set_option maxRecDepth 100000 in
theorem mk_V126 : ms_callee mc_M 79 (1 - 1) ∧ Jvm.Cond.methodLink (mk_nm 4) 73 (mc_M 79).1 ∈ ms_tb ∧ Jvm.Cond.instanceMethod (mc_M 79).1 ∈ ms_tb ∧ Jvm.Cond.selects (mc_M 79).1.cls (mc_M 79).1 (mc_M 79).1 ∈ ms_tb ∧ ∃ q, mt_cl[4]? = some q ∧ q.1 = (mc_M 79).1.cls := ⟨mk_ca79, mk_tb (mk_sub1 (List.mem_of_getElem? (i := 163) rfl) rfl), mk_im79, mk_se79, _, rfl, rfl⟩
set_option maxRecDepth 100000 in
theorem mk_V127 : ms_callee mc_M 137 (3 - 1) ∧ Jvm.Cond.methodLink (mk_nm 4) 104 (mc_M 137).1 ∈ ms_tb ∧ Jvm.Cond.instanceMethod (mc_M 137).1 ∈ ms_tb ∧ Jvm.Cond.selects (mc_M 137).1.cls (mc_M 137).1 (mc_M 137).1 ∈ ms_tb ∧ ∃ q, mt_cl[7]? = some q ∧ q.1 = (mc_M 137).1.cls := ⟨mk_ca137, mk_tb (mk_sub7 (List.mem_of_getElem? (i := 49) rfl) rfl), mk_im137, mk_se137, _, rfl, rfl⟩
set_option maxRecDepth 100000 in
theorem mk_V128 : ms_callee mc_M 86 (3 - 1) ∧ Jvm.Cond.methodLink (mk_nm 4) 111 (mc_M 86).1 ∈ ms_tb ∧ Jvm.Cond.instanceMethod (mc_M 86).1 ∈ ms_tb ∧ Jvm.Cond.selects (mc_M 86).1.cls (mc_M 86).1 (mc_M 86).1 ∈ ms_tb ∧ ∃ q, mt_cl[4]? = some q ∧ q.1 = (mc_M 86).1.cls := ⟨mk_ca86, mk_tb (mk_sub7 (List.mem_of_getElem? (i := 50) rfl) rfl), mk_im86, mk_se86, _, rfl, rfl⟩
set_option maxRecDepth 100000 in
theorem mk_V129 : ms_callee mc_M 87 (2 - 1) ∧ Jvm.Cond.methodLink (mk_nm 4) 116 (mc_M 87).1 ∈ ms_tb ∧ Jvm.Cond.instanceMethod (mc_M 87).1 ∈ ms_tb ∧ Jvm.Cond.selects (mc_M 87).1.cls (mc_M 87).1 (mc_M 87).1 ∈ ms_tb ∧ ∃ q, mt_cl[4]? = some q ∧ q.1 = (mc_M 87).1.cls := ⟨mk_ca87, mk_tb (mk_sub7 (List.mem_of_getElem? (i := 55) rfl) rfl), mk_im87, mk_se87, _, rfl, rfl⟩
set_option maxRecDepth 100000 in
theorem mk_V130 : ms_callee mc_M 89 (2 - 1) ∧ Jvm.Cond.methodLink (mk_nm 4) 121 (mc_M 89).1 ∈ ms_tb ∧ Jvm.Cond.instanceMethod (mc_M 89).1 ∈ ms_tb ∧ Jvm.Cond.selects (mc_M 89).1.cls (mc_M 89).1 (mc_M 89).1 ∈ ms_tb ∧ ∃ q, mt_cl[4]? = some q ∧ q.1 = (mc_M 89).1.cls := ⟨mk_ca89, mk_tb (mk_sub7 (List.mem_of_getElem? (i := 59) rfl) rfl), mk_im89, mk_se89, _, rfl, rfl⟩
set_option maxRecDepth 100000 in
theorem mk_V131 : ms_callee mc_M 88 (2 - 1) ∧ Jvm.Cond.methodLink (mk_nm 4) 125 (mc_M 88).1 ∈ ms_tb ∧ Jvm.Cond.instanceMethod (mc_M 88).1 ∈ ms_tb ∧ Jvm.Cond.selects (mc_M 88).1.cls (mc_M 88).1 (mc_M 88).1 ∈ ms_tb ∧ ∃ q, mt_cl[4]? = some q ∧ q.1 = (mc_M 88).1.cls := ⟨mk_ca88, mk_tb (mk_sub7 (List.mem_of_getElem? (i := 75) rfl) rfl), mk_im88, mk_se88, _, rfl, rfl⟩
set_option maxRecDepth 100000 in
theorem mk_V132 : ms_callee mc_M 92 (1 - 1) ∧ Jvm.Cond.methodLink (mk_nm 4) 128 (mc_M 92).1 ∈ ms_tb ∧ Jvm.Cond.instanceMethod (mc_M 92).1 ∈ ms_tb ∧ Jvm.Cond.selects (mc_M 92).1.cls (mc_M 92).1 (mc_M 92).1 ∈ ms_tb ∧ ∃ q, mt_cl[4]? = some q ∧ q.1 = (mc_M 92).1.cls := ⟨mk_ca92, mk_tb (mk_sub7 (List.mem_of_getElem? (i := 79) rfl) rfl), mk_im92, mk_se92, _, rfl, rfl⟩
set_option maxRecDepth 100000 in
theorem mk_V133 : ms_callee mc_M 93 (1 - 1) ∧ Jvm.Cond.methodLink (mk_nm 4) 131 (mc_M 93).1 ∈ ms_tb ∧ Jvm.Cond.instanceMethod (mc_M 93).1 ∈ ms_tb ∧ Jvm.Cond.selects (mc_M 93).1.cls (mc_M 93).1 (mc_M 93).1 ∈ ms_tb ∧ ∃ q, mt_cl[4]? = some q ∧ q.1 = (mc_M 93).1.cls := ⟨mk_ca93, mk_tb (mk_sub7 (List.mem_of_getElem? (i := 83) rfl) rfl), mk_im93, mk_se93, _, rfl, rfl⟩
set_option maxRecDepth 100000 in
theorem mk_V134 : ms_callee mc_M 90 (2 - 1) ∧ Jvm.Cond.methodLink (mk_nm 4) 150 (mc_M 90).1 ∈ ms_tb ∧ Jvm.Cond.instanceMethod (mc_M 90).1 ∈ ms_tb ∧ Jvm.Cond.selects (mc_M 90).1.cls (mc_M 90).1 (mc_M 90).1 ∈ ms_tb ∧ ∃ q, mt_cl[4]? = some q ∧ q.1 = (mc_M 90).1.cls := ⟨mk_ca90, mk_tb (mk_sub7 (List.mem_of_getElem? (i := 63) rfl) rfl), mk_im90, mk_se90, _, rfl, rfl⟩
set_option maxRecDepth 100000 in
theorem mk_V135 : ms_callee mc_M 80 (2 - 1) ∧ Jvm.Cond.methodLink (mk_nm 4) 154 (mc_M 80).1 ∈ ms_tb ∧ Jvm.Cond.instanceMethod (mc_M 80).1 ∈ ms_tb ∧ Jvm.Cond.selects (mc_M 80).1.cls (mc_M 80).1 (mc_M 80).1 ∈ ms_tb ∧ ∃ q, mt_cl[4]? = some q ∧ q.1 = (mc_M 80).1.cls := ⟨mk_ca80, mk_tb (mk_sub7 (List.mem_of_getElem? (i := 67) rfl) rfl), mk_im80, mk_se80, _, rfl, rfl⟩
set_option maxRecDepth 100000 in
theorem mk_V136 : ms_callee mc_M 81 (2 - 1) ∧ Jvm.Cond.methodLink (mk_nm 4) 157 (mc_M 81).1 ∈ ms_tb ∧ Jvm.Cond.instanceMethod (mc_M 81).1 ∈ ms_tb ∧ Jvm.Cond.selects (mc_M 81).1.cls (mc_M 81).1 (mc_M 81).1 ∈ ms_tb ∧ ∃ q, mt_cl[4]? = some q ∧ q.1 = (mc_M 81).1.cls := ⟨mk_ca81, mk_tb (mk_sub7 (List.mem_of_getElem? (i := 68) rfl) rfl), mk_im81, mk_se81, _, rfl, rfl⟩
set_option maxRecDepth 100000 in
theorem mk_V137 : ms_callee mc_M 91 (2 - 1) ∧ Jvm.Cond.methodLink (mk_nm 4) 160 (mc_M 91).1 ∈ ms_tb ∧ Jvm.Cond.instanceMethod (mc_M 91).1 ∈ ms_tb ∧ Jvm.Cond.selects (mc_M 91).1.cls (mc_M 91).1 (mc_M 91).1 ∈ ms_tb ∧ ∃ q, mt_cl[4]? = some q ∧ q.1 = (mc_M 91).1.cls := ⟨mk_ca91, mk_tb (mk_sub7 (List.mem_of_getElem? (i := 69) rfl) rfl), mk_im91, mk_se91, _, rfl, rfl⟩
set_option maxRecDepth 100000 in
theorem mk_V138 : ms_callee mc_M 166 (1 - 1) ∧ Jvm.Cond.methodLink (mk_nm 4) 163 (mc_M 166).1 ∈ ms_tb ∧ Jvm.Cond.instanceMethod (mc_M 166).1 ∈ ms_tb ∧ Jvm.Cond.selects (mc_M 166).1.cls (mc_M 166).1 (mc_M 166).1 ∈ ms_tb ∧ ∃ q, mt_cl[9]? = some q ∧ q.1 = (mc_M 166).1.cls := ⟨mk_ca166, mk_tb (mk_sub7 (List.mem_of_getElem? (i := 74) rfl) rfl), mk_im166, mk_se166, _, rfl, rfl⟩
set_option maxRecDepth 100000 in
theorem mk_V139 : ms_callee mc_M 94 (2 - 1) ∧ Jvm.Cond.methodLink (mk_nm 4) 187 (mc_M 94).1 ∈ ms_tb ∧ Jvm.Cond.instanceMethod (mc_M 94).1 ∈ ms_tb ∧ Jvm.Cond.selects (mc_M 94).1.cls (mc_M 94).1 (mc_M 94).1 ∈ ms_tb ∧ ∃ q, mt_cl[4]? = some q ∧ q.1 = (mc_M 94).1.cls := ⟨mk_ca94, mk_tb (mk_sub7 (List.mem_of_getElem? (i := 87) rfl) rfl), mk_im94, mk_se94, _, rfl, rfl⟩
set_option maxRecDepth 100000 in
theorem mk_V140 : ms_callee mc_M 95 (2 - 1) ∧ Jvm.Cond.methodLink (mk_nm 4) 190 (mc_M 95).1 ∈ ms_tb ∧ Jvm.Cond.instanceMethod (mc_M 95).1 ∈ ms_tb ∧ Jvm.Cond.selects (mc_M 95).1.cls (mc_M 95).1 (mc_M 95).1 ∈ ms_tb ∧ ∃ q, mt_cl[4]? = some q ∧ q.1 = (mc_M 95).1.cls := ⟨mk_ca95, mk_tb (mk_sub7 (List.mem_of_getElem? (i := 91) rfl) rfl), mk_im95, mk_se95, _, rfl, rfl⟩
set_option maxRecDepth 100000 in
theorem mk_V141 : ms_callee mc_M 105 (1 - 1) ∧ Jvm.Cond.methodLink (mk_nm 5) 73 (mc_M 105).1 ∈ ms_tb ∧ Jvm.Cond.instanceMethod (mc_M 105).1 ∈ ms_tb ∧ Jvm.Cond.selects (mc_M 105).1.cls (mc_M 105).1 (mc_M 105).1 ∈ ms_tb ∧ ∃ q, mt_cl[5]? = some q ∧ q.1 = (mc_M 105).1.cls := ⟨mk_ca105, mk_tb (mk_sub4 (List.mem_of_getElem? (i := 66) rfl) rfl), mk_im105, mk_se105, _, rfl, rfl⟩
set_option maxRecDepth 100000 in
theorem mk_V142 : ms_callee mc_M 106 (2 - 1) ∧ Jvm.Cond.methodLink (mk_nm 5) 76 (mc_M 106).1 ∈ ms_tb ∧ Jvm.Cond.instanceMethod (mc_M 106).1 ∈ ms_tb ∧ Jvm.Cond.selects (mc_M 106).1.cls (mc_M 106).1 (mc_M 106).1 ∈ ms_tb ∧ ∃ q, mt_cl[5]? = some q ∧ q.1 = (mc_M 106).1.cls := ⟨mk_ca106, mk_tb (mk_sub4 (List.mem_of_getElem? (i := 70) rfl) rfl), mk_im106, mk_se106, _, rfl, rfl⟩
set_option maxRecDepth 100000 in
theorem mk_V143 : ms_callee mc_M 107 (1 - 1) ∧ Jvm.Cond.methodLink (mk_nm 5) 80 (mc_M 107).1 ∈ ms_tb ∧ Jvm.Cond.instanceMethod (mc_M 107).1 ∈ ms_tb ∧ Jvm.Cond.selects (mc_M 107).1.cls (mc_M 107).1 (mc_M 107).1 ∈ ms_tb ∧ ∃ q, mt_cl[5]? = some q ∧ q.1 = (mc_M 107).1.cls := ⟨mk_ca107, mk_tb (mk_sub4 (List.mem_of_getElem? (i := 78) rfl) rfl), mk_im107, mk_se107, _, rfl, rfl⟩
set_option maxRecDepth 100000 in
theorem mk_V144 : ms_callee mc_M 109 (1 - 1) ∧ Jvm.Cond.methodLink (mk_nm 5) 83 (mc_M 109).1 ∈ ms_tb ∧ Jvm.Cond.instanceMethod (mc_M 109).1 ∈ ms_tb ∧ Jvm.Cond.selects (mc_M 109).1.cls (mc_M 109).1 (mc_M 109).1 ∈ ms_tb ∧ ∃ q, mt_cl[5]? = some q ∧ q.1 = (mc_M 109).1.cls := ⟨mk_ca109, mk_tb (mk_sub4 (List.mem_of_getElem? (i := 84) rfl) rfl), mk_im109, mk_se109, _, rfl, rfl⟩
set_option maxRecDepth 100000 in
theorem mk_V145 : ms_callee mc_M 111 (1 - 1) ∧ Jvm.Cond.methodLink (mk_nm 5) 87 (mc_M 111).1 ∈ ms_tb ∧ Jvm.Cond.instanceMethod (mc_M 111).1 ∈ ms_tb ∧ Jvm.Cond.selects (mc_M 111).1.cls (mc_M 111).1 (mc_M 111).1 ∈ ms_tb ∧ ∃ q, mt_cl[5]? = some q ∧ q.1 = (mc_M 111).1.cls := ⟨mk_ca111, mk_tb (mk_sub4 (List.mem_of_getElem? (i := 96) rfl) rfl), mk_im111, mk_se111, _, rfl, rfl⟩
set_option maxRecDepth 100000 in
theorem mk_V146 : ms_callee mc_M 102 (4 - 1) ∧ Jvm.Cond.methodLink (mk_nm 5) 90 (mc_M 102).1 ∈ ms_tb ∧ Jvm.Cond.instanceMethod (mc_M 102).1 ∈ ms_tb ∧ Jvm.Cond.selects (mc_M 102).1.cls (mc_M 102).1 (mc_M 102).1 ∈ ms_tb ∧ ∃ q, mt_cl[5]? = some q ∧ q.1 = (mc_M 102).1.cls := ⟨mk_ca102, mk_tb (mk_sub4 (List.mem_of_getElem? (i := 100) rfl) rfl), mk_im102, mk_se102, _, rfl, rfl⟩
set_option maxRecDepth 100000 in
theorem mk_V147 : ms_callee mc_M 112 (1 - 1) ∧ Jvm.Cond.methodLink (mk_nm 5) 94 (mc_M 112).1 ∈ ms_tb ∧ Jvm.Cond.instanceMethod (mc_M 112).1 ∈ ms_tb ∧ Jvm.Cond.selects (mc_M 112).1.cls (mc_M 112).1 (mc_M 112).1 ∈ ms_tb ∧ ∃ q, mt_cl[5]? = some q ∧ q.1 = (mc_M 112).1.cls := ⟨mk_ca112, mk_tb (mk_sub4 (List.mem_of_getElem? (i := 112) rfl) rfl), mk_im112, mk_se112, _, rfl, rfl⟩
set_option maxRecDepth 100000 in
theorem mk_V148 : ms_callee mc_M 101 (4 - 1) ∧ Jvm.Cond.methodLink (mk_nm 5) 100 (mc_M 101).1 ∈ ms_tb ∧ Jvm.Cond.instanceMethod (mc_M 101).1 ∈ ms_tb ∧ Jvm.Cond.selects (mc_M 101).1.cls (mc_M 101).1 (mc_M 101).1 ∈ ms_tb ∧ ∃ q, mt_cl[5]? = some q ∧ q.1 = (mc_M 101).1.cls := ⟨mk_ca101, mk_tb (mk_sub4 (List.mem_of_getElem? (i := 104) rfl) rfl), mk_im101, mk_se101, _, rfl, rfl⟩
set_option maxRecDepth 100000 in
theorem mk_V149 : ms_callee mc_M 146 (3 - 1) ∧ Jvm.Cond.methodLink (mk_nm 5) 104 (mc_M 146).1 ∈ ms_tb ∧ Jvm.Cond.instanceMethod (mc_M 146).1 ∈ ms_tb ∧ Jvm.Cond.selects (mc_M 146).1.cls (mc_M 146).1 (mc_M 146).1 ∈ ms_tb ∧ ∃ q, mt_cl[8]? = some q ∧ q.1 = (mc_M 146).1.cls := ⟨mk_ca146, mk_tb (mk_sub4 (List.mem_of_getElem? (i := 74) rfl) rfl), mk_im146, mk_se146, _, rfl, rfl⟩
set_option maxRecDepth 100000 in
theorem mk_V150 : ms_callee mc_M 103 (2 - 1) ∧ Jvm.Cond.methodLink (mk_nm 5) 110 (mc_M 103).1 ∈ ms_tb ∧ Jvm.Cond.instanceMethod (mc_M 103).1 ∈ ms_tb ∧ Jvm.Cond.selects (mc_M 103).1.cls (mc_M 103).1 (mc_M 103).1 ∈ ms_tb ∧ ∃ q, mt_cl[5]? = some q ∧ q.1 = (mc_M 103).1.cls := ⟨mk_ca103, mk_tb (mk_sub4 (List.mem_of_getElem? (i := 108) rfl) rfl), mk_im103, mk_se103, _, rfl, rfl⟩
set_option maxRecDepth 100000 in
theorem mk_V151 : ms_callee mc_M 108 (1 - 1) ∧ Jvm.Cond.methodLink (mk_nm 5) 126 (mc_M 108).1 ∈ ms_tb ∧ Jvm.Cond.instanceMethod (mc_M 108).1 ∈ ms_tb ∧ Jvm.Cond.selects (mc_M 108).1.cls (mc_M 108).1 (mc_M 108).1 ∈ ms_tb ∧ ∃ q, mt_cl[5]? = some q ∧ q.1 = (mc_M 108).1.cls := ⟨mk_ca108, mk_tb (mk_sub4 (List.mem_of_getElem? (i := 88) rfl) rfl), mk_im108, mk_se108, _, rfl, rfl⟩
set_option maxRecDepth 100000 in
theorem mk_V152 : ms_callee mc_M 114 (2 - 1) ∧ Jvm.Cond.methodLink (mk_nm 5) 167 (mc_M 114).1 ∈ ms_tb ∧ Jvm.Cond.instanceMethod (mc_M 114).1 ∈ ms_tb ∧ Jvm.Cond.selects (mc_M 114).1.cls (mc_M 114).1 (mc_M 114).1 ∈ ms_tb ∧ ∃ q, mt_cl[5]? = some q ∧ q.1 = (mc_M 114).1.cls := ⟨mk_ca114, mk_tb (mk_sub4 (List.mem_of_getElem? (i := 125) rfl) rfl), mk_im114, mk_se114, _, rfl, rfl⟩
set_option maxRecDepth 100000 in
theorem mk_V153 : ms_callee mc_M 182 (3 - 1) ∧ Jvm.Cond.methodLink (mk_nm 6) 47 (mc_M 182).1 ∈ ms_tb ∧ Jvm.Cond.instanceMethod (mc_M 182).1 ∈ ms_tb ∧ Jvm.Cond.selects (mc_M 182).1.cls (mc_M 182).1 (mc_M 182).1 ∈ ms_tb ∧ ∃ q, mt_cl[10]? = some q ∧ q.1 = (mc_M 182).1.cls := ⟨mk_ca182, mk_tb (mk_sub6 (List.mem_of_getElem? (i := 98) rfl) rfl), mk_im182, mk_se182, _, rfl, rfl⟩
set_option maxRecDepth 100000 in
theorem mk_V154 : ms_callee mc_M 119 (2 - 1) ∧ Jvm.Cond.methodLink (mk_nm 6) 51 (mc_M 119).1 ∈ ms_tb ∧ Jvm.Cond.instanceMethod (mc_M 119).1 ∈ ms_tb ∧ Jvm.Cond.selects (mc_M 119).1.cls (mc_M 119).1 (mc_M 119).1 ∈ ms_tb ∧ ∃ q, mt_cl[6]? = some q ∧ q.1 = (mc_M 119).1.cls := ⟨mk_ca119, mk_tb (mk_sub6 (List.mem_of_getElem? (i := 94) rfl) rfl), mk_im119, mk_se119, _, rfl, rfl⟩
set_option maxRecDepth 100000 in
theorem mk_V155 : ms_callee mc_M 127 (3 - 1) ∧ Jvm.Cond.methodLink (mk_nm 7) 52 (mc_M 127).1 ∈ ms_tb ∧ Jvm.Cond.instanceMethod (mc_M 127).1 ∈ ms_tb ∧ Jvm.Cond.selects (mc_M 127).1.cls (mc_M 127).1 (mc_M 127).1 ∈ ms_tb ∧ ∃ q, mt_cl[7]? = some q ∧ q.1 = (mc_M 127).1.cls := ⟨mk_ca127, mk_tb (mk_sub7 (List.mem_of_getElem? (i := 17) rfl) rfl), mk_im127, mk_se127, _, rfl, rfl⟩
set_option maxRecDepth 100000 in
theorem mk_V156 : ms_callee mc_M 130 (3 - 1) ∧ Jvm.Cond.methodLink (mk_nm 7) 64 (mc_M 130).1 ∈ ms_tb ∧ Jvm.Cond.instanceMethod (mc_M 130).1 ∈ ms_tb ∧ Jvm.Cond.selects (mc_M 130).1.cls (mc_M 130).1 (mc_M 130).1 ∈ ms_tb ∧ ∃ q, mt_cl[7]? = some q ∧ q.1 = (mc_M 130).1.cls := ⟨mk_ca130, mk_tb (mk_sub7 (List.mem_of_getElem? (i := 38) rfl) rfl), mk_im130, mk_se130, _, rfl, rfl⟩
set_option maxRecDepth 100000 in
theorem mk_V157 : ms_callee mc_M 137 (3 - 1) ∧ Jvm.Cond.methodLink (mk_nm 7) 83 (mc_M 137).1 ∈ ms_tb ∧ Jvm.Cond.instanceMethod (mc_M 137).1 ∈ ms_tb ∧ Jvm.Cond.selects (mc_M 137).1.cls (mc_M 137).1 (mc_M 137).1 ∈ ms_tb ∧ ∃ q, mt_cl[7]? = some q ∧ q.1 = (mc_M 137).1.cls := ⟨mk_ca137, mk_tb (mk_sub7 (List.mem_of_getElem? (i := 43) rfl) rfl), mk_im137, mk_se137, _, rfl, rfl⟩
set_option maxRecDepth 100000 in
theorem mk_V158 : ms_callee mc_M 142 (1 - 1) ∧ Jvm.Cond.methodLink (mk_nm 8) 40 (mc_M 142).1 ∈ ms_tb ∧ Jvm.Cond.instanceMethod (mc_M 142).1 ∈ ms_tb ∧ Jvm.Cond.selects (mc_M 142).1.cls (mc_M 142).1 (mc_M 142).1 ∈ ms_tb ∧ ∃ q, mt_cl[8]? = some q ∧ q.1 = (mc_M 142).1.cls := ⟨mk_ca142, mk_tb (mk_sub3 (List.mem_of_getElem? (i := 182) rfl) rfl), mk_im142, mk_se142, _, rfl, rfl⟩
set_option maxRecDepth 100000 in
theorem mk_V159 : ms_callee mc_M 149 (2 - 1) ∧ Jvm.Cond.methodLink (mk_nm 8) 56 (mc_M 149).1 ∈ ms_tb ∧ Jvm.Cond.instanceMethod (mc_M 149).1 ∈ ms_tb ∧ Jvm.Cond.selects (mc_M 149).1.cls (mc_M 149).1 (mc_M 149).1 ∈ ms_tb ∧ ∃ q, mt_cl[8]? = some q ∧ q.1 = (mc_M 149).1.cls := ⟨mk_ca149, mk_tb (mk_sub3 (List.mem_of_getElem? (i := 206) rfl) rfl), mk_im149, mk_se149, _, rfl, rfl⟩
set_option maxRecDepth 100000 in
theorem mk_V160 : ms_callee mc_M 144 (2 - 1) ∧ Jvm.Cond.methodLink (mk_nm 8) 60 (mc_M 144).1 ∈ ms_tb ∧ Jvm.Cond.instanceMethod (mc_M 144).1 ∈ ms_tb ∧ Jvm.Cond.selects (mc_M 144).1.cls (mc_M 144).1 (mc_M 144).1 ∈ ms_tb ∧ ∃ q, mt_cl[8]? = some q ∧ q.1 = (mc_M 144).1.cls := ⟨mk_ca144, mk_tb (mk_sub3 (List.mem_of_getElem? (i := 178) rfl) rfl), mk_im144, mk_se144, _, rfl, rfl⟩
set_option maxRecDepth 100000 in
theorem mk_V161 : ms_callee mc_M 155 (2 - 1) ∧ Jvm.Cond.methodLink (mk_nm 8) 79 (mc_M 155).1 ∈ ms_tb ∧ Jvm.Cond.instanceMethod (mc_M 155).1 ∈ ms_tb ∧ Jvm.Cond.selects (mc_M 155).1.cls (mc_M 155).1 (mc_M 155).1 ∈ ms_tb ∧ ∃ q, mt_cl[8]? = some q ∧ q.1 = (mc_M 155).1.cls := ⟨mk_ca155, mk_tb (mk_sub4 (List.mem_of_getElem? (i := 167) rfl) rfl), mk_im155, mk_se155, _, rfl, rfl⟩
set_option maxRecDepth 100000 in
theorem mk_V162 : ms_callee mc_M 146 (3 - 1) ∧ Jvm.Cond.methodLink (mk_nm 8) 83 (mc_M 146).1 ∈ ms_tb ∧ Jvm.Cond.instanceMethod (mc_M 146).1 ∈ ms_tb ∧ Jvm.Cond.selects (mc_M 146).1.cls (mc_M 146).1 (mc_M 146).1 ∈ ms_tb ∧ ∃ q, mt_cl[8]? = some q ∧ q.1 = (mc_M 146).1.cls := ⟨mk_ca146, mk_tb (mk_sub4 (List.mem_of_getElem? (i := 171) rfl) rfl), mk_im146, mk_se146, _, rfl, rfl⟩
set_option maxRecDepth 100000 in
theorem mk_V163 : ms_callee mc_M 157 (3 - 1) ∧ Jvm.Cond.methodLink (mk_nm 8) 87 (mc_M 157).1 ∈ ms_tb ∧ Jvm.Cond.instanceMethod (mc_M 157).1 ∈ ms_tb ∧ Jvm.Cond.selects (mc_M 157).1.cls (mc_M 157).1 (mc_M 157).1 ∈ ms_tb ∧ ∃ q, mt_cl[8]? = some q ∧ q.1 = (mc_M 157).1.cls := ⟨mk_ca157, mk_tb (mk_sub4 (List.mem_of_getElem? (i := 181) rfl) rfl), mk_im157, mk_se157, _, rfl, rfl⟩
set_option maxRecDepth 100000 in
theorem mk_V164 : ms_callee mc_M 160 (3 - 1) ∧ Jvm.Cond.methodLink (mk_nm 8) 91 (mc_M 160).1 ∈ ms_tb ∧ Jvm.Cond.instanceMethod (mc_M 160).1 ∈ ms_tb ∧ Jvm.Cond.selects (mc_M 160).1.cls (mc_M 160).1 (mc_M 160).1 ∈ ms_tb ∧ ∃ q, mt_cl[8]? = some q ∧ q.1 = (mc_M 160).1.cls := ⟨mk_ca160, mk_tb (mk_sub3 (List.mem_of_getElem? (i := 235) rfl) rfl), mk_im160, mk_se160, _, rfl, rfl⟩
set_option maxRecDepth 100000 in
theorem mk_V165 : ms_callee mc_M 161 (1 - 1) ∧ Jvm.Cond.methodLink (mk_nm 8) 95 (mc_M 161).1 ∈ ms_tb ∧ Jvm.Cond.instanceMethod (mc_M 161).1 ∈ ms_tb ∧ Jvm.Cond.selects (mc_M 161).1.cls (mc_M 161).1 (mc_M 161).1 ∈ ms_tb ∧ ∃ q, mt_cl[8]? = some q ∧ q.1 = (mc_M 161).1.cls := ⟨mk_ca161, mk_tb (mk_sub4 (List.mem_of_getElem? (i := 2) rfl) rfl), mk_im161, mk_se161, _, rfl, rfl⟩
set_option maxRecDepth 100000 in
theorem mk_V166 : ms_callee mc_M 162 (2 - 1) ∧ Jvm.Cond.methodLink (mk_nm 8) 98 (mc_M 162).1 ∈ ms_tb ∧ Jvm.Cond.instanceMethod (mc_M 162).1 ∈ ms_tb ∧ Jvm.Cond.selects (mc_M 162).1.cls (mc_M 162).1 (mc_M 162).1 ∈ ms_tb ∧ ∃ q, mt_cl[8]? = some q ∧ q.1 = (mc_M 162).1.cls := ⟨mk_ca162, mk_tb (mk_sub4 (List.mem_of_getElem? (i := 7) rfl) rfl), mk_im162, mk_se162, _, rfl, rfl⟩
set_option maxRecDepth 100000 in
theorem mk_V167 : ms_callee mc_M 171 (2 - 1) ∧ Jvm.Cond.methodLink (mk_nm 10) 31 (mc_M 171).1 ∈ ms_tb ∧ Jvm.Cond.instanceMethod (mc_M 171).1 ∈ ms_tb ∧ Jvm.Cond.selects (mc_M 171).1.cls (mc_M 171).1 (mc_M 171).1 ∈ ms_tb ∧ ∃ q, mt_cl[10]? = some q ∧ q.1 = (mc_M 171).1.cls := ⟨mk_ca171, mk_tb (mk_sub5 (List.mem_of_getElem? (i := 34) rfl) rfl), mk_im171, mk_se171, _, rfl, rfl⟩
set_option maxRecDepth 100000 in
theorem mk_V168 : ms_callee mc_M 174 (2 - 1) ∧ Jvm.Cond.methodLink (mk_nm 10) 35 (mc_M 174).1 ∈ ms_tb ∧ Jvm.Cond.instanceMethod (mc_M 174).1 ∈ ms_tb ∧ Jvm.Cond.selects (mc_M 174).1.cls (mc_M 174).1 (mc_M 174).1 ∈ ms_tb ∧ ∃ q, mt_cl[10]? = some q ∧ q.1 = (mc_M 174).1.cls := ⟨mk_ca174, mk_tb (mk_sub5 (List.mem_of_getElem? (i := 42) rfl) rfl), mk_im174, mk_se174, _, rfl, rfl⟩
set_option maxRecDepth 100000 in
theorem mk_V169 : ms_callee mc_M 178 (3 - 1) ∧ Jvm.Cond.methodLink (mk_nm 10) 38 (mc_M 178).1 ∈ ms_tb ∧ Jvm.Cond.instanceMethod (mc_M 178).1 ∈ ms_tb ∧ Jvm.Cond.selects (mc_M 178).1.cls (mc_M 178).1 (mc_M 178).1 ∈ ms_tb ∧ ∃ q, mt_cl[10]? = some q ∧ q.1 = (mc_M 178).1.cls := ⟨mk_ca178, mk_tb (mk_sub5 (List.mem_of_getElem? (i := 155) rfl) rfl), mk_im178, mk_se178, _, rfl, rfl⟩
set_option maxRecDepth 100000 in
theorem mk_V170 : ms_callee mc_M 169 (4 - 1) ∧ Jvm.Cond.methodLink (mk_nm 10) 42 (mc_M 169).1 ∈ ms_tb ∧ Jvm.Cond.instanceMethod (mc_M 169).1 ∈ ms_tb ∧ Jvm.Cond.selects (mc_M 169).1.cls (mc_M 169).1 (mc_M 169).1 ∈ ms_tb ∧ ∃ q, mt_cl[10]? = some q ∧ q.1 = (mc_M 169).1.cls := ⟨mk_ca169, mk_tb (mk_sub5 (List.mem_of_getElem? (i := 196) rfl) rfl), mk_im169, mk_se169, _, rfl, rfl⟩
set_option maxRecDepth 100000 in
theorem mk_V171 : ms_callee mc_M 170 (2 - 1) ∧ Jvm.Cond.methodLink (mk_nm 10) 50 (mc_M 170).1 ∈ ms_tb ∧ Jvm.Cond.instanceMethod (mc_M 170).1 ∈ ms_tb ∧ Jvm.Cond.selects (mc_M 170).1.cls (mc_M 170).1 (mc_M 170).1 ∈ ms_tb ∧ ∃ q, mt_cl[10]? = some q ∧ q.1 = (mc_M 170).1.cls := ⟨mk_ca170, mk_tb (mk_sub5 (List.mem_of_getElem? (i := 38) rfl) rfl), mk_im170, mk_se170, _, rfl, rfl⟩
set_option maxRecDepth 100000 in
theorem mk_V172 : ms_callee mc_M 175 (2 - 1) ∧ Jvm.Cond.methodLink (mk_nm 10) 57 (mc_M 175).1 ∈ ms_tb ∧ Jvm.Cond.instanceMethod (mc_M 175).1 ∈ ms_tb ∧ Jvm.Cond.selects (mc_M 175).1.cls (mc_M 175).1 (mc_M 175).1 ∈ ms_tb ∧ ∃ q, mt_cl[10]? = some q ∧ q.1 = (mc_M 175).1.cls := ⟨mk_ca175, mk_tb (mk_sub5 (List.mem_of_getElem? (i := 49) rfl) rfl), mk_im175, mk_se175, _, rfl, rfl⟩
set_option maxRecDepth 100000 in
theorem mk_V173 : ms_callee mc_M 176 (2 - 1) ∧ Jvm.Cond.methodLink (mk_nm 10) 63 (mc_M 176).1 ∈ ms_tb ∧ Jvm.Cond.instanceMethod (mc_M 176).1 ∈ ms_tb ∧ Jvm.Cond.selects (mc_M 176).1.cls (mc_M 176).1 (mc_M 176).1 ∈ ms_tb ∧ ∃ q, mt_cl[10]? = some q ∧ q.1 = (mc_M 176).1.cls := ⟨mk_ca176, mk_tb (mk_sub5 (List.mem_of_getElem? (i := 56) rfl) rfl), mk_im176, mk_se176, _, rfl, rfl⟩
set_option maxRecDepth 100000 in
theorem mk_V174 : ms_callee mc_M 177 (2 - 1) ∧ Jvm.Cond.methodLink (mk_nm 10) 76 (mc_M 177).1 ∈ ms_tb ∧ Jvm.Cond.instanceMethod (mc_M 177).1 ∈ ms_tb ∧ Jvm.Cond.selects (mc_M 177).1.cls (mc_M 177).1 (mc_M 177).1 ∈ ms_tb ∧ ∃ q, mt_cl[10]? = some q ∧ q.1 = (mc_M 177).1.cls := ⟨mk_ca177, mk_tb (mk_sub5 (List.mem_of_getElem? (i := 60) rfl) rfl), mk_im177, mk_se177, _, rfl, rfl⟩
set_option maxRecDepth 100000 in
theorem mk_V175 : ms_callee mc_M 180 (3 - 1) ∧ Jvm.Cond.methodLink (mk_nm 10) 86 (mc_M 180).1 ∈ ms_tb ∧ Jvm.Cond.instanceMethod (mc_M 180).1 ∈ ms_tb ∧ Jvm.Cond.selects (mc_M 180).1.cls (mc_M 180).1 (mc_M 180).1 ∈ ms_tb ∧ ∃ q, mt_cl[10]? = some q ∧ q.1 = (mc_M 180).1.cls := ⟨mk_ca180, mk_tb (mk_sub5 (List.mem_of_getElem? (i := 159) rfl) rfl), mk_im180, mk_se180, _, rfl, rfl⟩
set_option maxRecDepth 100000 in
theorem mk_V176 : ms_callee mc_M 181 (4 - 1) ∧ Jvm.Cond.methodLink (mk_nm 10) 91 (mc_M 181).1 ∈ ms_tb ∧ Jvm.Cond.instanceMethod (mc_M 181).1 ∈ ms_tb ∧ Jvm.Cond.selects (mc_M 181).1.cls (mc_M 181).1 (mc_M 181).1 ∈ ms_tb ∧ ∃ q, mt_cl[10]? = some q ∧ q.1 = (mc_M 181).1.cls := ⟨mk_ca181, mk_tb (mk_sub5 (List.mem_of_getElem? (i := 164) rfl) rfl), mk_im181, mk_se181, _, rfl, rfl⟩
set_option maxRecDepth 100000 in
theorem mk_V177 : ms_callee mc_M 1 (1 - 1) ∧ Jvm.Cond.methodLink (mk_nm 11) 54 (mc_M 1).1 ∈ ms_tb ∧ Jvm.Cond.instanceMethod (mc_M 1).1 ∈ ms_tb ∧ Jvm.Cond.selects (mc_M 1).1.cls (mc_M 1).1 (mc_M 1).1 ∈ ms_tb ∧ ∃ q, mt_cl[0]? = some q ∧ q.1 = (mc_M 1).1.cls := ⟨mk_ca1, mk_tb (mk_sub3 (List.mem_of_getElem? (i := 137) rfl) rfl), mk_im1, mk_se1, _, rfl, rfl⟩
set_option maxRecDepth 100000 in
theorem mk_V178 : ms_callee mc_M 187 (1 - 1) ∧ Jvm.Cond.methodLink (mk_nm 11) 57 (mc_M 187).1 ∈ ms_tb ∧ Jvm.Cond.instanceMethod (mc_M 187).1 ∈ ms_tb ∧ Jvm.Cond.selects (mc_M 187).1.cls (mc_M 187).1 (mc_M 187).1 ∈ ms_tb ∧ ∃ q, mt_cl[11]? = some q ∧ q.1 = (mc_M 187).1.cls := ⟨mk_ca187, mk_tb (mk_sub4 (List.mem_of_getElem? (i := 204) rfl) rfl), mk_im187, mk_se187, _, rfl, rfl⟩
set_option maxRecDepth 100000 in
theorem mk_V179 : ms_callee mc_M 185 (2 - 1) ∧ Jvm.Cond.methodLink (mk_nm 11) 64 (mc_M 185).1 ∈ ms_tb ∧ Jvm.Cond.instanceMethod (mc_M 185).1 ∈ ms_tb ∧ Jvm.Cond.selects (mc_M 185).1.cls (mc_M 185).1 (mc_M 185).1 ∈ ms_tb ∧ ∃ q, mt_cl[11]? = some q ∧ q.1 = (mc_M 185).1.cls := ⟨mk_ca185, mk_tb (mk_sub5 (List.mem_of_getElem? (i := 20) rfl) rfl), mk_im185, mk_se185, _, rfl, rfl⟩
set_option maxRecDepth 100000 in
theorem mk_V180 : ms_callee mc_M 168 (1 - 1) ∧ Jvm.Cond.methodLink (mk_nm 11) 73 (mc_M 168).1 ∈ ms_tb ∧ Jvm.Cond.instanceMethod (mc_M 168).1 ∈ ms_tb ∧ Jvm.Cond.selects (mc_M 168).1.cls (mc_M 168).1 (mc_M 168).1 ∈ ms_tb ∧ ∃ q, mt_cl[10]? = some q ∧ q.1 = (mc_M 168).1.cls := ⟨mk_ca168, mk_tb (mk_sub5 (List.mem_of_getElem? (i := 30) rfl) rfl), mk_im168, mk_se168, _, rfl, rfl⟩
set_option maxRecDepth 100000 in
theorem mk_V181 : ms_callee mc_M 44 (1 - 1) ∧ Jvm.Cond.methodLink (mk_nm 11) 85 (mc_M 44).1 ∈ ms_tb ∧ Jvm.Cond.instanceMethod (mc_M 44).1 ∈ ms_tb ∧ Jvm.Cond.selects (mc_M 44).1.cls (mc_M 44).1 (mc_M 44).1 ∈ ms_tb ∧ ∃ q, mt_cl[3]? = some q ∧ q.1 = (mc_M 44).1.cls := ⟨mk_ca44, mk_tb (mk_sub6 (List.mem_of_getElem? (i := 49) rfl) rfl), mk_im44, mk_se44, _, rfl, rfl⟩
set_option maxRecDepth 100000 in
theorem mk_V182 : ms_callee mc_M 79 (1 - 1) ∧ Jvm.Cond.methodLink (mk_nm 11) 95 (mc_M 79).1 ∈ ms_tb ∧ Jvm.Cond.instanceMethod (mc_M 79).1 ∈ ms_tb ∧ Jvm.Cond.selects (mc_M 79).1.cls (mc_M 79).1 (mc_M 79).1 ∈ ms_tb ∧ ∃ q, mt_cl[4]? = some q ∧ q.1 = (mc_M 79).1.cls := ⟨mk_ca79, mk_tb (mk_sub7 (List.mem_of_getElem? (i := 44) rfl) rfl), mk_im79, mk_se79, _, rfl, rfl⟩
set_option maxRecDepth 100000 in
theorem mk_V183 : ms_callee mc_M 85 (3 - 1) ∧ Jvm.Cond.methodLink (mk_nm 11) 98 (mc_M 85).1 ∈ ms_tb ∧ Jvm.Cond.instanceMethod (mc_M 85).1 ∈ ms_tb ∧ Jvm.Cond.selects (mc_M 85).1.cls (mc_M 85).1 (mc_M 85).1 ∈ ms_tb ∧ ∃ q, mt_cl[4]? = some q ∧ q.1 = (mc_M 85).1.cls := ⟨mk_ca85, mk_tb (mk_sub7 (List.mem_of_getElem? (i := 45) rfl) rfl), mk_im85, mk_se85, _, rfl, rfl⟩
set_option maxRecDepth 100000 in
theorem mk_V184 : ms_callee mc_M 27 (1 - 1) ∧ Jvm.Cond.methodLink (mk_nm 11) 104 (mc_M 27).1 ∈ ms_tb ∧ Jvm.Cond.instanceMethod (mc_M 27).1 ∈ ms_tb ∧ Jvm.Cond.selects (mc_M 27).1.cls (mc_M 27).1 (mc_M 27).1 ∈ ms_tb ∧ ∃ q, mt_cl[2]? = some q ∧ q.1 = (mc_M 27).1.cls := ⟨mk_ca27, mk_tb (mk_sub7 (List.mem_of_getElem? (i := 95) rfl) rfl), mk_im27, mk_se27, _, rfl, rfl⟩
set_option maxRecDepth 100000 in
theorem mk_V185 : ms_callee mc_M 144 (2 - 1) ∧ Jvm.Cond.methodLink (mk_nm 11) 121 (mc_M 144).1 ∈ ms_tb ∧ Jvm.Cond.instanceMethod (mc_M 144).1 ∈ ms_tb ∧ Jvm.Cond.selects (mc_M 144).1.cls (mc_M 144).1 (mc_M 144).1 ∈ ms_tb ∧ ∃ q, mt_cl[8]? = some q ∧ q.1 = (mc_M 144).1.cls := ⟨mk_ca144, mk_tb (mk_sub4 (List.mem_of_getElem? (i := 209) rfl) rfl), mk_im144, mk_se144, _, rfl, rfl⟩
set_option maxRecDepth 100000 in
theorem mk_V186 : ms_callee mc_M 192 (2 - 1) ∧ Jvm.Cond.methodLink (mk_nm 11) 134 (mc_M 192).1 ∈ ms_tb ∧ Jvm.Cond.instanceMethod (mc_M 192).1 ∈ ms_tb ∧ Jvm.Cond.selects (mc_M 192).1.cls (mc_M 192).1 (mc_M 192).1 ∈ ms_tb ∧ ∃ q, mt_cl[11]? = some q ∧ q.1 = (mc_M 192).1.cls := ⟨mk_ca192, mk_tb (mk_sub7 (List.mem_of_getElem? (i := 111) rfl) rfl), mk_im192, mk_se192, _, rfl, rfl⟩
set_option maxRecDepth 100000 in
theorem mk_V187 : ms_callee mc_M 80 (2 - 1) ∧ Jvm.Cond.methodLink (mk_nm 11) 154 (mc_M 80).1 ∈ ms_tb ∧ Jvm.Cond.instanceMethod (mc_M 80).1 ∈ ms_tb ∧ Jvm.Cond.selects (mc_M 80).1.cls (mc_M 80).1 (mc_M 80).1 ∈ ms_tb ∧ ∃ q, mt_cl[4]? = some q ∧ q.1 = (mc_M 80).1.cls := ⟨mk_ca80, mk_tb (mk_sub7 (List.mem_of_getElem? (i := 115) rfl) rfl), mk_im80, mk_se80, _, rfl, rfl⟩
set_option maxRecDepth 100000 in
theorem mk_V188 : ms_callee mc_M 81 (2 - 1) ∧ Jvm.Cond.methodLink (mk_nm 11) 158 (mc_M 81).1 ∈ ms_tb ∧ Jvm.Cond.instanceMethod (mc_M 81).1 ∈ ms_tb ∧ Jvm.Cond.selects (mc_M 81).1.cls (mc_M 81).1 (mc_M 81).1 ∈ ms_tb ∧ ∃ q, mt_cl[4]? = some q ∧ q.1 = (mc_M 81).1.cls := ⟨mk_ca81, mk_tb (mk_sub7 (List.mem_of_getElem? (i := 116) rfl) rfl), mk_im81, mk_se81, _, rfl, rfl⟩
set_option maxRecDepth 100000 in
theorem mk_V189 : ms_callee mc_M 193 (6 - 1) ∧ Jvm.Cond.methodLink (mk_nm 11) 164 (mc_M 193).1 ∈ ms_tb ∧ Jvm.Cond.instanceMethod (mc_M 193).1 ∈ ms_tb ∧ Jvm.Cond.selects (mc_M 193).1.cls (mc_M 193).1 (mc_M 193).1 ∈ ms_tb ∧ ∃ q, mt_cl[11]? = some q ∧ q.1 = (mc_M 193).1.cls := ⟨mk_ca193, mk_tb (mk_sub7 (List.mem_of_getElem? (i := 121) rfl) rfl), mk_im193, mk_se193, _, rfl, rfl⟩
set_option maxRecDepth 100000 in
theorem mk_V190 : ms_callee mc_M 197 (3 - 1) ∧ Jvm.Cond.methodLink (mk_nm 11) 170 (mc_M 197).1 ∈ ms_tb ∧ Jvm.Cond.instanceMethod (mc_M 197).1 ∈ ms_tb ∧ Jvm.Cond.selects (mc_M 197).1.cls (mc_M 197).1 (mc_M 197).1 ∈ ms_tb ∧ ∃ q, mt_cl[11]? = some q ∧ q.1 = (mc_M 197).1.cls := ⟨mk_ca197, mk_tb (mk_sub7 (List.mem_of_getElem? (i := 126) rfl) rfl), mk_im197, mk_se197, _, rfl, rfl⟩
set_option maxRecDepth 100000 in
theorem mk_V191 : ms_callee mc_M 146 (3 - 1) ∧ Jvm.Cond.methodLink (mk_nm 11) 178 (mc_M 146).1 ∈ ms_tb ∧ Jvm.Cond.instanceMethod (mc_M 146).1 ∈ ms_tb ∧ Jvm.Cond.selects (mc_M 146).1.cls (mc_M 146).1 (mc_M 146).1 ∈ ms_tb ∧ ∃ q, mt_cl[8]? = some q ∧ q.1 = (mc_M 146).1.cls := ⟨mk_ca146, mk_tb (mk_sub7 (List.mem_of_getElem? (i := 133) rfl) rfl), mk_im146, mk_se146, _, rfl, rfl⟩
set_option maxRecDepth 100000 in
theorem mk_V192 : ms_callee mc_M 194 (3 - 1) ∧ Jvm.Cond.methodLink (mk_nm 11) 182 (mc_M 194).1 ∈ ms_tb ∧ Jvm.Cond.instanceMethod (mc_M 194).1 ∈ ms_tb ∧ Jvm.Cond.selects (mc_M 194).1.cls (mc_M 194).1 (mc_M 194).1 ∈ ms_tb ∧ ∃ q, mt_cl[11]? = some q ∧ q.1 = (mc_M 194).1.cls := ⟨mk_ca194, mk_tb (mk_sub7 (List.mem_of_getElem? (i := 138) rfl) rfl), mk_im194, mk_se194, _, rfl, rfl⟩
set_option maxRecDepth 100000 in
theorem mk_V193 : ms_callee mc_M 147 (4 - 1) ∧ Jvm.Cond.methodLink (mk_nm 11) 190 (mc_M 147).1 ∈ ms_tb ∧ Jvm.Cond.instanceMethod (mc_M 147).1 ∈ ms_tb ∧ Jvm.Cond.selects (mc_M 147).1.cls (mc_M 147).1 (mc_M 147).1 ∈ ms_tb ∧ ∃ q, mt_cl[8]? = some q ∧ q.1 = (mc_M 147).1.cls := ⟨mk_ca147, mk_tb (mk_sub7 (List.mem_of_getElem? (i := 146) rfl) rfl), mk_im147, mk_se147, _, rfl, rfl⟩
set_option maxRecDepth 100000 in
theorem mk_V194 : ms_callee mc_M 159 (2 - 1) ∧ Jvm.Cond.methodLink (mk_nm 11) 197 (mc_M 159).1 ∈ ms_tb ∧ Jvm.Cond.instanceMethod (mc_M 159).1 ∈ ms_tb ∧ Jvm.Cond.selects (mc_M 159).1.cls (mc_M 159).1 (mc_M 159).1 ∈ ms_tb ∧ ∃ q, mt_cl[8]? = some q ∧ q.1 = (mc_M 159).1.cls := ⟨mk_ca159, mk_tb (mk_sub7 (List.mem_of_getElem? (i := 147) rfl) rfl), mk_im159, mk_se159, _, rfl, rfl⟩
set_option maxRecDepth 100000 in
theorem mk_V195 : ms_callee mc_M 188 (1 - 1) ∧ Jvm.Cond.methodLink (mk_nm 11) 201 (mc_M 188).1 ∈ ms_tb ∧ Jvm.Cond.instanceMethod (mc_M 188).1 ∈ ms_tb ∧ Jvm.Cond.selects (mc_M 188).1.cls (mc_M 188).1 (mc_M 188).1 ∈ ms_tb ∧ ∃ q, mt_cl[11]? = some q ∧ q.1 = (mc_M 188).1.cls := ⟨mk_ca188, mk_tb (mk_sub7 (List.mem_of_getElem? (i := 148) rfl) rfl), mk_im188, mk_se188, _, rfl, rfl⟩
set_option maxRecDepth 100000 in
theorem mk_V196 : ms_callee mc_M 150 (2 - 1) ∧ Jvm.Cond.methodLink (mk_nm 11) 204 (mc_M 150).1 ∈ ms_tb ∧ Jvm.Cond.instanceMethod (mc_M 150).1 ∈ ms_tb ∧ Jvm.Cond.selects (mc_M 150).1.cls (mc_M 150).1 (mc_M 150).1 ∈ ms_tb ∧ ∃ q, mt_cl[8]? = some q ∧ q.1 = (mc_M 150).1.cls := ⟨mk_ca150, mk_tb (mk_sub7 (List.mem_of_getElem? (i := 164) rfl) rfl), mk_im150, mk_se150, _, rfl, rfl⟩
set_option maxRecDepth 100000 in
theorem mk_V197 : ms_callee mc_M 204 (1 - 1) ∧ Jvm.Cond.methodLink (mk_nm 11) 208 (mc_M 204).1 ∈ ms_tb ∧ Jvm.Cond.instanceMethod (mc_M 204).1 ∈ ms_tb ∧ Jvm.Cond.selects (mc_M 204).1.cls (mc_M 204).1 (mc_M 204).1 ∈ ms_tb ∧ ∃ q, mt_cl[11]? = some q ∧ q.1 = (mc_M 204).1.cls := ⟨mk_ca204, mk_tb (mk_sub7 (List.mem_of_getElem? (i := 169) rfl) rfl), mk_im204, mk_se204, _, rfl, rfl⟩
set_option maxRecDepth 100000 in
theorem mk_V198 : ms_callee mc_M 205 (2 - 1) ∧ Jvm.Cond.methodLink (mk_nm 11) 214 (mc_M 205).1 ∈ ms_tb ∧ Jvm.Cond.instanceMethod (mc_M 205).1 ∈ ms_tb ∧ Jvm.Cond.selects (mc_M 205).1.cls (mc_M 205).1 (mc_M 205).1 ∈ ms_tb ∧ ∃ q, mt_cl[11]? = some q ∧ q.1 = (mc_M 205).1.cls := ⟨mk_ca205, mk_tb (mk_sub7 (List.mem_of_getElem? (i := 173) rfl) rfl), mk_im205, mk_se205, _, rfl, rfl⟩
set_option maxRecDepth 100000 in
theorem mk_V199 : ms_callee mc_M 165 (1 - 1) ∧ Jvm.Cond.methodLink (mk_nm 11) 217 (mc_M 165).1 ∈ ms_tb ∧ Jvm.Cond.instanceMethod (mc_M 165).1 ∈ ms_tb ∧ Jvm.Cond.selects (mc_M 165).1.cls (mc_M 165).1 (mc_M 165).1 ∈ ms_tb ∧ ∃ q, mt_cl[9]? = some q ∧ q.1 = (mc_M 165).1.cls := ⟨mk_ca165, mk_tb (mk_sub7 (List.mem_of_getElem? (i := 177) rfl) rfl), mk_im165, mk_se165, _, rfl, rfl⟩
set_option maxRecDepth 100000 in
theorem mk_V200 : ms_callee mc_M 17 (3 - 1) ∧ Jvm.Cond.methodLink (mk_nm 11) 221 (mc_M 17).1 ∈ ms_tb ∧ Jvm.Cond.instanceMethod (mc_M 17).1 ∈ ms_tb ∧ Jvm.Cond.selects (mc_M 17).1.cls (mc_M 17).1 (mc_M 17).1 ∈ ms_tb ∧ ∃ q, mt_cl[1]? = some q ∧ q.1 = (mc_M 17).1.cls := ⟨mk_ca17, mk_tb (mk_sub7 (List.mem_of_getElem? (i := 178) rfl) rfl), mk_im17, mk_se17, _, rfl, rfl⟩
set_option maxRecDepth 100000 in
theorem mk_V201 : ms_callee mc_M 13 (3 - 1) ∧ Jvm.Cond.methodLink (mk_nm 11) 225 (mc_M 13).1 ∈ ms_tb ∧ Jvm.Cond.instanceMethod (mc_M 13).1 ∈ ms_tb ∧ Jvm.Cond.selects (mc_M 13).1.cls (mc_M 13).1 (mc_M 13).1 ∈ ms_tb ∧ ∃ q, mt_cl[1]? = some q ∧ q.1 = (mc_M 13).1.cls := ⟨mk_ca13, mk_tb (mk_sub7 (List.mem_of_getElem? (i := 179) rfl) rfl), mk_im13, mk_se13, _, rfl, rfl⟩
set_option maxRecDepth 100000 in
theorem mk_V202 : ms_callee mc_M 166 (1 - 1) ∧ Jvm.Cond.methodLink (mk_nm 11) 228 (mc_M 166).1 ∈ ms_tb ∧ Jvm.Cond.instanceMethod (mc_M 166).1 ∈ ms_tb ∧ Jvm.Cond.selects (mc_M 166).1.cls (mc_M 166).1 (mc_M 166).1 ∈ ms_tb ∧ ∃ q, mt_cl[9]? = some q ∧ q.1 = (mc_M 166).1.cls := ⟨mk_ca166, mk_tb (mk_sub7 (List.mem_of_getElem? (i := 180) rfl) rfl), mk_im166, mk_se166, _, rfl, rfl⟩
set_option maxRecDepth 100000 in
theorem mk_V203 : ms_callee mc_M 145 (3 - 1) ∧ Jvm.Cond.methodLink (mk_nm 11) 238 (mc_M 145).1 ∈ ms_tb ∧ Jvm.Cond.instanceMethod (mc_M 145).1 ∈ ms_tb ∧ Jvm.Cond.selects (mc_M 145).1.cls (mc_M 145).1 (mc_M 145).1 ∈ ms_tb ∧ ∃ q, mt_cl[8]? = some q ∧ q.1 = (mc_M 145).1.cls := ⟨mk_ca145, mk_tb (mk_sub7 (List.mem_of_getElem? (i := 181) rfl) rfl), mk_im145, mk_se145, _, rfl, rfl⟩
set_option maxRecDepth 100000 in
theorem mk_V204 : ms_callee mc_M 149 (2 - 1) ∧ Jvm.Cond.methodLink (mk_nm 11) 242 (mc_M 149).1 ∈ ms_tb ∧ Jvm.Cond.instanceMethod (mc_M 149).1 ∈ ms_tb ∧ Jvm.Cond.selects (mc_M 149).1.cls (mc_M 149).1 (mc_M 149).1 ∈ ms_tb ∧ ∃ q, mt_cl[8]? = some q ∧ q.1 = (mc_M 149).1.cls := ⟨mk_ca149, mk_tb (mk_sub7 (List.mem_of_getElem? (i := 182) rfl) rfl), mk_im149, mk_se149, _, rfl, rfl⟩
set_option maxRecDepth 100000 in
theorem mk_V205 : ms_callee mc_M 26 (2 - 1) ∧ Jvm.Cond.methodLink (mk_nm 11) 251 (mc_M 26).1 ∈ ms_tb ∧ Jvm.Cond.instanceMethod (mc_M 26).1 ∈ ms_tb ∧ Jvm.Cond.selects (mc_M 26).1.cls (mc_M 26).1 (mc_M 26).1 ∈ ms_tb ∧ ∃ q, mt_cl[2]? = some q ∧ q.1 = (mc_M 26).1.cls := ⟨mk_ca26, mk_tb (mk_sub7 (List.mem_of_getElem? (i := 187) rfl) rfl), mk_im26, mk_se26, _, rfl, rfl⟩
set_option maxRecDepth 100000 in
theorem mk_V206 : ms_callee mc_M 28 (4 - 1) ∧ Jvm.Cond.methodLink (mk_nm 11) 257 (mc_M 28).1 ∈ ms_tb ∧ Jvm.Cond.instanceMethod (mc_M 28).1 ∈ ms_tb ∧ Jvm.Cond.selects (mc_M 28).1.cls (mc_M 28).1 (mc_M 28).1 ∈ ms_tb ∧ ∃ q, mt_cl[2]? = some q ∧ q.1 = (mc_M 28).1.cls := ⟨mk_ca28, mk_tb (mk_sub7 (List.mem_of_getElem? (i := 199) rfl) rfl), mk_im28, mk_se28, _, rfl, rfl⟩
set_option maxRecDepth 100000 in
theorem mk_V207 : ms_callee mc_M 222 (2 - 1) ∧ Jvm.Cond.methodLink (mk_nm 11) 286 (mc_M 222).1 ∈ ms_tb ∧ Jvm.Cond.instanceMethod (mc_M 222).1 ∈ ms_tb ∧ Jvm.Cond.selects (mc_M 222).1.cls (mc_M 222).1 (mc_M 222).1 ∈ ms_tb ∧ ∃ q, mt_cl[11]? = some q ∧ q.1 = (mc_M 222).1.cls := ⟨mk_ca222, mk_tb (mk_sub8 (List.mem_of_getElem? (i := 50) rfl) rfl), mk_im222, mk_se222, _, rfl, rfl⟩
set_option maxRecDepth 100000 in
theorem mk_V208 : ms_callee mc_M 215 (3 - 1) ∧ Jvm.Cond.methodLink (mk_nm 11) 298 (mc_M 215).1 ∈ ms_tb ∧ Jvm.Cond.instanceMethod (mc_M 215).1 ∈ ms_tb ∧ Jvm.Cond.selects (mc_M 215).1.cls (mc_M 215).1 (mc_M 215).1 ∈ ms_tb ∧ ∃ q, mt_cl[11]? = some q ∧ q.1 = (mc_M 215).1.cls := ⟨mk_ca215, mk_tb (mk_sub8 (List.mem_of_getElem? (i := 62) rfl) rfl), mk_im215, mk_se215, _, rfl, rfl⟩
set_option maxRecDepth 100000 in
theorem mk_V209 : ms_callee mc_M 216 (3 - 1) ∧ Jvm.Cond.methodLink (mk_nm 11) 301 (mc_M 216).1 ∈ ms_tb ∧ Jvm.Cond.instanceMethod (mc_M 216).1 ∈ ms_tb ∧ Jvm.Cond.selects (mc_M 216).1.cls (mc_M 216).1 (mc_M 216).1 ∈ ms_tb ∧ ∃ q, mt_cl[11]? = some q ∧ q.1 = (mc_M 216).1.cls := ⟨mk_ca216, mk_tb (mk_sub8 (List.mem_of_getElem? (i := 93) rfl) rfl), mk_im216, mk_se216, _, rfl, rfl⟩
set_option maxRecDepth 100000 in
theorem mk_V210 : ms_callee mc_M 218 (3 - 1) ∧ Jvm.Cond.methodLink (mk_nm 11) 304 (mc_M 218).1 ∈ ms_tb ∧ Jvm.Cond.instanceMethod (mc_M 218).1 ∈ ms_tb ∧ Jvm.Cond.selects (mc_M 218).1.cls (mc_M 218).1 (mc_M 218).1 ∈ ms_tb ∧ ∃ q, mt_cl[11]? = some q ∧ q.1 = (mc_M 218).1.cls := ⟨mk_ca218, mk_tb (mk_sub8 (List.mem_of_getElem? (i := 104) rfl) rfl), mk_im218, mk_se218, _, rfl, rfl⟩
set_option maxRecDepth 100000 in
theorem mk_V211 : ms_callee mc_M 219 (1 - 1) ∧ Jvm.Cond.methodLink (mk_nm 11) 307 (mc_M 219).1 ∈ ms_tb ∧ Jvm.Cond.instanceMethod (mc_M 219).1 ∈ ms_tb ∧ Jvm.Cond.selects (mc_M 219).1.cls (mc_M 219).1 (mc_M 219).1 ∈ ms_tb ∧ ∃ q, mt_cl[11]? = some q ∧ q.1 = (mc_M 219).1.cls := ⟨mk_ca219, mk_tb (mk_sub8 (List.mem_of_getElem? (i := 66) rfl) rfl), mk_im219, mk_se219, _, rfl, rfl⟩
set_option maxRecDepth 100000 in
theorem mk_V212 : ms_callee mc_M 82 (3 - 1) ∧ Jvm.Cond.methodLink (mk_nm 11) 310 (mc_M 82).1 ∈ ms_tb ∧ Jvm.Cond.instanceMethod (mc_M 82).1 ∈ ms_tb ∧ Jvm.Cond.selects (mc_M 82).1.cls (mc_M 82).1 (mc_M 82).1 ∈ ms_tb ∧ ∃ q, mt_cl[4]? = some q ∧ q.1 = (mc_M 82).1.cls := ⟨mk_ca82, mk_tb (mk_sub8 (List.mem_of_getElem? (i := 71) rfl) rfl), mk_im82, mk_se82, _, rfl, rfl⟩
set_option maxRecDepth 100000 in
theorem mk_V213 : ms_callee mc_M 221 (2 - 1) ∧ Jvm.Cond.methodLink (mk_nm 11) 313 (mc_M 221).1 ∈ ms_tb ∧ Jvm.Cond.instanceMethod (mc_M 221).1 ∈ ms_tb ∧ Jvm.Cond.selects (mc_M 221).1.cls (mc_M 221).1 (mc_M 221).1 ∈ ms_tb ∧ ∃ q, mt_cl[11]? = some q ∧ q.1 = (mc_M 221).1.cls := ⟨mk_ca221, mk_tb (mk_sub8 (List.mem_of_getElem? (i := 75) rfl) rfl), mk_im221, mk_se221, _, rfl, rfl⟩
set_option maxRecDepth 100000 in
theorem mk_V214 : ms_callee mc_M 220 (3 - 1) ∧ Jvm.Cond.methodLink (mk_nm 11) 316 (mc_M 220).1 ∈ ms_tb ∧ Jvm.Cond.instanceMethod (mc_M 220).1 ∈ ms_tb ∧ Jvm.Cond.selects (mc_M 220).1.cls (mc_M 220).1 (mc_M 220).1 ∈ ms_tb ∧ ∃ q, mt_cl[11]? = some q ∧ q.1 = (mc_M 220).1.cls := ⟨mk_ca220, mk_tb (mk_sub8 (List.mem_of_getElem? (i := 81) rfl) rfl), mk_im220, mk_se220, _, rfl, rfl⟩
set_option maxRecDepth 100000 in
theorem mk_V215 : ms_callee mc_M 217 (5 - 1) ∧ Jvm.Cond.methodLink (mk_nm 11) 320 (mc_M 217).1 ∈ ms_tb ∧ Jvm.Cond.instanceMethod (mc_M 217).1 ∈ ms_tb ∧ Jvm.Cond.selects (mc_M 217).1.cls (mc_M 217).1 (mc_M 217).1 ∈ ms_tb ∧ ∃ q, mt_cl[11]? = some q ∧ q.1 = (mc_M 217).1.cls := ⟨mk_ca217, mk_tb (mk_sub8 (List.mem_of_getElem? (i := 97) rfl) rfl), mk_im217, mk_se217, _, rfl, rfl⟩
set_option maxRecDepth 100000 in
theorem mk_V216 : ms_callee mc_M 224 (2 - 1) ∧ Jvm.Cond.methodLink (mk_nm 11) 324 (mc_M 224).1 ∈ ms_tb ∧ Jvm.Cond.instanceMethod (mc_M 224).1 ∈ ms_tb ∧ Jvm.Cond.selects (mc_M 224).1.cls (mc_M 224).1 (mc_M 224).1 ∈ ms_tb ∧ ∃ q, mt_cl[11]? = some q ∧ q.1 = (mc_M 224).1.cls := ⟨mk_ca224, mk_tb (mk_sub8 (List.mem_of_getElem? (i := 56) rfl) rfl), mk_im224, mk_se224, _, rfl, rfl⟩
set_option maxRecDepth 100000 in
theorem mk_V217 : ms_callee mc_M 223 (2 - 1) ∧ Jvm.Cond.methodLink (mk_nm 11) 333 (mc_M 223).1 ∈ ms_tb ∧ Jvm.Cond.instanceMethod (mc_M 223).1 ∈ ms_tb ∧ Jvm.Cond.selects (mc_M 223).1.cls (mc_M 223).1 (mc_M 223).1 ∈ ms_tb ∧ ∃ q, mt_cl[11]? = some q ∧ q.1 = (mc_M 223).1.cls := ⟨mk_ca223, mk_tb (mk_sub8 (List.mem_of_getElem? (i := 86) rfl) rfl), mk_im223, mk_se223, _, rfl, rfl⟩
set_option maxRecDepth 100000 in
theorem mk_V218 : ms_callee mc_M 83 (3 - 1) ∧ Jvm.Cond.methodLink (mk_nm 11) 337 (mc_M 83).1 ∈ ms_tb ∧ Jvm.Cond.instanceMethod (mc_M 83).1 ∈ ms_tb ∧ Jvm.Cond.selects (mc_M 83).1.cls (mc_M 83).1 (mc_M 83).1 ∈ ms_tb ∧ ∃ q, mt_cl[4]? = some q ∧ q.1 = (mc_M 83).1.cls := ⟨mk_ca83, mk_tb (mk_sub8 (List.mem_of_getElem? (i := 108) rfl) rfl), mk_im83, mk_se83, _, rfl, rfl⟩
set_option maxRecDepth 100000 in
theorem mk_V219 : ms_callee mc_M 175 (2 - 1) ∧ Jvm.Cond.methodLink (mk_nm 11) 352 (mc_M 175).1 ∈ ms_tb ∧ Jvm.Cond.instanceMethod (mc_M 175).1 ∈ ms_tb ∧ Jvm.Cond.selects (mc_M 175).1.cls (mc_M 175).1 (mc_M 175).1 ∈ ms_tb ∧ ∃ q, mt_cl[10]? = some q ∧ q.1 = (mc_M 175).1.cls := ⟨mk_ca175, mk_tb (mk_sub8 (List.mem_of_getElem? (i := 79) rfl) rfl), mk_im175, mk_se175, _, rfl, rfl⟩
set_option maxRecDepth 100000 in
theorem mk_V220 : ms_callee mc_M 170 (2 - 1) ∧ Jvm.Cond.methodLink (mk_nm 11) 355 (mc_M 170).1 ∈ ms_tb ∧ Jvm.Cond.instanceMethod (mc_M 170).1 ∈ ms_tb ∧ Jvm.Cond.selects (mc_M 170).1.cls (mc_M 170).1 (mc_M 170).1 ∈ ms_tb ∧ ∃ q, mt_cl[10]? = some q ∧ q.1 = (mc_M 170).1.cls := ⟨mk_ca170, mk_tb (mk_sub8 (List.mem_of_getElem? (i := 80) rfl) rfl), mk_im170, mk_se170, _, rfl, rfl⟩
set_option maxRecDepth 100000 in
theorem mk_V221 : ms_callee mc_M 226 (1 - 1) ∧ Jvm.Cond.methodLink (mk_nm 12) 68 (mc_M 226).1 ∈ ms_tb ∧ Jvm.Cond.instanceMethod (mc_M 226).1 ∈ ms_tb ∧ Jvm.Cond.selects (mc_M 226).1.cls (mc_M 226).1 (mc_M 226).1 ∈ ms_tb ∧ ∃ q, mt_cl[12]? = some q ∧ q.1 = (mc_M 226).1.cls := ⟨mk_ca226, mk_tb (mk_sub11 (List.mem_of_getElem? (i := 50) rfl) rfl), mk_im226, mk_se226, _, rfl, rfl⟩
set_option maxRecDepth 100000 in
theorem mk_V222 : ms_callee mc_M 281 (2 - 1) ∧ Jvm.Cond.methodLink (mk_nm 12) 72 (mc_M 281).1 ∈ ms_tb ∧ Jvm.Cond.instanceMethod (mc_M 281).1 ∈ ms_tb ∧ Jvm.Cond.selects (mc_M 281).1.cls (mc_M 281).1 (mc_M 281).1 ∈ ms_tb ∧ ∃ q, mt_cl[13]? = some q ∧ q.1 = (mc_M 281).1.cls := ⟨mk_ca281, mk_tb (mk_sub9 (List.mem_of_getElem? (i := 79) rfl) rfl), mk_im281, mk_se281, _, rfl, rfl⟩
set_option maxRecDepth 100000 in
theorem mk_V223 : ms_callee mc_M 231 (3 - 1) ∧ Jvm.Cond.methodLink (mk_nm 12) 118 (mc_M 231).1 ∈ ms_tb ∧ Jvm.Cond.instanceMethod (mc_M 231).1 ∈ ms_tb ∧ Jvm.Cond.selects (mc_M 231).1.cls (mc_M 231).1 (mc_M 231).1 ∈ ms_tb ∧ ∃ q, mt_cl[12]? = some q ∧ q.1 = (mc_M 231).1.cls := ⟨mk_ca231, mk_tb (mk_sub11 (List.mem_of_getElem? (i := 97) rfl) rfl), mk_im231, mk_se231, _, rfl, rfl⟩
set_option maxRecDepth 100000 in
theorem mk_V224 : ms_callee mc_M 229 (2 - 1) ∧ Jvm.Cond.methodLink (mk_nm 12) 122 (mc_M 229).1 ∈ ms_tb ∧ Jvm.Cond.instanceMethod (mc_M 229).1 ∈ ms_tb ∧ Jvm.Cond.selects (mc_M 229).1.cls (mc_M 229).1 (mc_M 229).1 ∈ ms_tb ∧ ∃ q, mt_cl[12]? = some q ∧ q.1 = (mc_M 229).1.cls := ⟨mk_ca229, mk_tb (mk_sub11 (List.mem_of_getElem? (i := 101) rfl) rfl), mk_im229, mk_se229, _, rfl, rfl⟩
set_option maxRecDepth 100000 in
theorem mk_V225 : ms_callee mc_M 283 (2 - 1) ∧ Jvm.Cond.methodLink (mk_nm 12) 130 (mc_M 283).1 ∈ ms_tb ∧ Jvm.Cond.instanceMethod (mc_M 283).1 ∈ ms_tb ∧ Jvm.Cond.selects (mc_M 283).1.cls (mc_M 283).1 (mc_M 283).1 ∈ ms_tb ∧ ∃ q, mt_cl[13]? = some q ∧ q.1 = (mc_M 283).1.cls := ⟨mk_ca283, mk_tb (mk_sub11 (List.mem_of_getElem? (i := 105) rfl) rfl), mk_im283, mk_se283, _, rfl, rfl⟩
set_option maxRecDepth 100000 in
theorem mk_V226 : ms_callee mc_M 284 (2 - 1) ∧ Jvm.Cond.methodLink (mk_nm 12) 134 (mc_M 284).1 ∈ ms_tb ∧ Jvm.Cond.instanceMethod (mc_M 284).1 ∈ ms_tb ∧ Jvm.Cond.selects (mc_M 284).1.cls (mc_M 284).1 (mc_M 284).1 ∈ ms_tb ∧ ∃ q, mt_cl[13]? = some q ∧ q.1 = (mc_M 284).1.cls := ⟨mk_ca284, mk_tb (mk_sub11 (List.mem_of_getElem? (i := 117) rfl) rfl), mk_im284, mk_se284, _, rfl, rfl⟩
set_option maxRecDepth 100000 in
theorem mk_V227 : ms_callee mc_M 234 (3 - 1) ∧ Jvm.Cond.methodLink (mk_nm 12) 137 (mc_M 234).1 ∈ ms_tb ∧ Jvm.Cond.instanceMethod (mc_M 234).1 ∈ ms_tb ∧ Jvm.Cond.selects (mc_M 234).1.cls (mc_M 234).1 (mc_M 234).1 ∈ ms_tb ∧ ∃ q, mt_cl[12]? = some q ∧ q.1 = (mc_M 234).1.cls := ⟨mk_ca234, mk_tb (mk_sub11 (List.mem_of_getElem? (i := 121) rfl) rfl), mk_im234, mk_se234, _, rfl, rfl⟩
set_option maxRecDepth 100000 in
theorem mk_V228 : ms_callee mc_M 233 (2 - 1) ∧ Jvm.Cond.methodLink (mk_nm 12) 147 (mc_M 233).1 ∈ ms_tb ∧ Jvm.Cond.instanceMethod (mc_M 233).1 ∈ ms_tb ∧ Jvm.Cond.selects (mc_M 233).1.cls (mc_M 233).1 (mc_M 233).1 ∈ ms_tb ∧ ∃ q, mt_cl[12]? = some q ∧ q.1 = (mc_M 233).1.cls := ⟨mk_ca233, mk_tb (mk_sub11 (List.mem_of_getElem? (i := 93) rfl) rfl), mk_im233, mk_se233, _, rfl, rfl⟩
set_option maxRecDepth 100000 in
theorem mk_V229 : ms_callee mc_M 232 (3 - 1) ∧ Jvm.Cond.methodLink (mk_nm 12) 151 (mc_M 232).1 ∈ ms_tb ∧ Jvm.Cond.instanceMethod (mc_M 232).1 ∈ ms_tb ∧ Jvm.Cond.selects (mc_M 232).1.cls (mc_M 232).1 (mc_M 232).1 ∈ ms_tb ∧ ∃ q, mt_cl[12]? = some q ∧ q.1 = (mc_M 232).1.cls := ⟨mk_ca232, mk_tb (mk_sub11 (List.mem_of_getElem? (i := 127) rfl) rfl), mk_im232, mk_se232, _, rfl, rfl⟩
set_option maxRecDepth 100000 in
theorem mk_V230 : ms_callee mc_M 235 (2 - 1) ∧ Jvm.Cond.methodLink (mk_nm 12) 154 (mc_M 235).1 ∈ ms_tb ∧ Jvm.Cond.instanceMethod (mc_M 235).1 ∈ ms_tb ∧ Jvm.Cond.selects (mc_M 235).1.cls (mc_M 235).1 (mc_M 235).1 ∈ ms_tb ∧ ∃ q, mt_cl[12]? = some q ∧ q.1 = (mc_M 235).1.cls := ⟨mk_ca235, mk_tb (mk_sub11 (List.mem_of_getElem? (i := 133) rfl) rfl), mk_im235, mk_se235, _, rfl, rfl⟩
set_option maxRecDepth 100000 in
theorem mk_V231 : ms_callee mc_M 228 (2 - 1) ∧ Jvm.Cond.methodLink (mk_nm 12) 160 (mc_M 228).1 ∈ ms_tb ∧ Jvm.Cond.instanceMethod (mc_M 228).1 ∈ ms_tb ∧ Jvm.Cond.selects (mc_M 228).1.cls (mc_M 228).1 (mc_M 228).1 ∈ ms_tb ∧ ∃ q, mt_cl[12]? = some q ∧ q.1 = (mc_M 228).1.cls := ⟨mk_ca228, mk_tb (mk_sub11 (List.mem_of_getElem? (i := 38) rfl) rfl), mk_im228, mk_se228, _, rfl, rfl⟩
set_option maxRecDepth 100000 in
theorem mk_V232 : ms_callee mc_M 236 (4 - 1) ∧ Jvm.Cond.methodLink (mk_nm 12) 163 (mc_M 236).1 ∈ ms_tb ∧ Jvm.Cond.instanceMethod (mc_M 236).1 ∈ ms_tb ∧ Jvm.Cond.selects (mc_M 236).1.cls (mc_M 236).1 (mc_M 236).1 ∈ ms_tb ∧ ∃ q, mt_cl[12]? = some q ∧ q.1 = (mc_M 236).1.cls := ⟨mk_ca236, mk_tb (mk_sub11 (List.mem_of_getElem? (i := 137) rfl) rfl), mk_im236, mk_se236, _, rfl, rfl⟩
set_option maxRecDepth 100000 in
theorem mk_V233 : ms_callee mc_M 237 (6 - 1) ∧ Jvm.Cond.methodLink (mk_nm 12) 166 (mc_M 237).1 ∈ ms_tb ∧ Jvm.Cond.instanceMethod (mc_M 237).1 ∈ ms_tb ∧ Jvm.Cond.selects (mc_M 237).1.cls (mc_M 237).1 (mc_M 237).1 ∈ ms_tb ∧ ∃ q, mt_cl[12]? = some q ∧ q.1 = (mc_M 237).1.cls := ⟨mk_ca237, mk_tb (mk_sub11 (List.mem_of_getElem? (i := 143) rfl) rfl), mk_im237, mk_se237, _, rfl, rfl⟩
set_option maxRecDepth 100000 in
theorem mk_V234 : ms_callee mc_M 282 (3 - 1) ∧ Jvm.Cond.methodLink (mk_nm 12) 172 (mc_M 282).1 ∈ ms_tb ∧ Jvm.Cond.instanceMethod (mc_M 282).1 ∈ ms_tb ∧ Jvm.Cond.selects (mc_M 282).1.cls (mc_M 282).1 (mc_M 282).1 ∈ ms_tb ∧ ∃ q, mt_cl[13]? = some q ∧ q.1 = (mc_M 282).1.cls := ⟨mk_ca282, mk_tb (mk_sub11 (List.mem_of_getElem? (i := 142) rfl) rfl), mk_im282, mk_se282, _, rfl, rfl⟩
set_option maxRecDepth 100000 in
theorem mk_V235 : ms_callee mc_M 239 (5 - 1) ∧ Jvm.Cond.methodLink (mk_nm 12) 176 (mc_M 239).1 ∈ ms_tb ∧ Jvm.Cond.instanceMethod (mc_M 239).1 ∈ ms_tb ∧ Jvm.Cond.selects (mc_M 239).1.cls (mc_M 239).1 (mc_M 239).1 ∈ ms_tb ∧ ∃ q, mt_cl[12]? = some q ∧ q.1 = (mc_M 239).1.cls := ⟨mk_ca239, mk_tb (mk_sub11 (List.mem_of_getElem? (i := 147) rfl) rfl), mk_im239, mk_se239, _, rfl, rfl⟩
set_option maxRecDepth 100000 in
theorem mk_V236 : ms_callee mc_M 240 (5 - 1) ∧ Jvm.Cond.methodLink (mk_nm 12) 180 (mc_M 240).1 ∈ ms_tb ∧ Jvm.Cond.instanceMethod (mc_M 240).1 ∈ ms_tb ∧ Jvm.Cond.selects (mc_M 240).1.cls (mc_M 240).1 (mc_M 240).1 ∈ ms_tb ∧ ∃ q, mt_cl[12]? = some q ∧ q.1 = (mc_M 240).1.cls := ⟨mk_ca240, mk_tb (mk_sub11 (List.mem_of_getElem? (i := 158) rfl) rfl), mk_im240, mk_se240, _, rfl, rfl⟩
set_option maxRecDepth 100000 in
theorem mk_V237 : ms_callee mc_M 238 (3 - 1) ∧ Jvm.Cond.methodLink (mk_nm 12) 183 (mc_M 238).1 ∈ ms_tb ∧ Jvm.Cond.instanceMethod (mc_M 238).1 ∈ ms_tb ∧ Jvm.Cond.selects (mc_M 238).1.cls (mc_M 238).1 (mc_M 238).1 ∈ ms_tb ∧ ∃ q, mt_cl[12]? = some q ∧ q.1 = (mc_M 238).1.cls := ⟨mk_ca238, mk_tb (mk_sub11 (List.mem_of_getElem? (i := 151) rfl) rfl), mk_im238, mk_se238, _, rfl, rfl⟩
set_option maxRecDepth 100000 in
theorem mk_V238 : ms_callee mc_M 243 (3 - 1) ∧ Jvm.Cond.methodLink (mk_nm 12) 207 (mc_M 243).1 ∈ ms_tb ∧ Jvm.Cond.instanceMethod (mc_M 243).1 ∈ ms_tb ∧ Jvm.Cond.selects (mc_M 243).1.cls (mc_M 243).1 (mc_M 243).1 ∈ ms_tb ∧ ∃ q, mt_cl[12]? = some q ∧ q.1 = (mc_M 243).1.cls := ⟨mk_ca243, mk_tb (mk_sub11 (List.mem_of_getElem? (i := 162) rfl) rfl), mk_im243, mk_se243, _, rfl, rfl⟩
set_option maxRecDepth 100000 in
theorem mk_V239 : ms_callee mc_M 241 (3 - 1) ∧ Jvm.Cond.methodLink (mk_nm 12) 211 (mc_M 241).1 ∈ ms_tb ∧ Jvm.Cond.instanceMethod (mc_M 241).1 ∈ ms_tb ∧ Jvm.Cond.selects (mc_M 241).1.cls (mc_M 241).1 (mc_M 241).1 ∈ ms_tb ∧ ∃ q, mt_cl[12]? = some q ∧ q.1 = (mc_M 241).1.cls := ⟨mk_ca241, mk_tb (mk_sub11 (List.mem_of_getElem? (i := 166) rfl) rfl), mk_im241, mk_se241, _, rfl, rfl⟩
set_option maxRecDepth 100000 in
theorem mk_V240 : ms_callee mc_M 245 (2 - 1) ∧ Jvm.Cond.methodLink (mk_nm 12) 214 (mc_M 245).1 ∈ ms_tb ∧ Jvm.Cond.instanceMethod (mc_M 245).1 ∈ ms_tb ∧ Jvm.Cond.selects (mc_M 245).1.cls (mc_M 245).1 (mc_M 245).1 ∈ ms_tb ∧ ∃ q, mt_cl[12]? = some q ∧ q.1 = (mc_M 245).1.cls := ⟨mk_ca245, mk_tb (mk_sub11 (List.mem_of_getElem? (i := 182) rfl) rfl), mk_im245, mk_se245, _, rfl, rfl⟩
set_option maxRecDepth 100000 in
theorem mk_V241 : ms_callee mc_M 244 (1 - 1) ∧ Jvm.Cond.methodLink (mk_nm 12) 221 (mc_M 244).1 ∈ ms_tb ∧ Jvm.Cond.instanceMethod (mc_M 244).1 ∈ ms_tb ∧ Jvm.Cond.selects (mc_M 244).1.cls (mc_M 244).1 (mc_M 244).1 ∈ ms_tb ∧ ∃ q, mt_cl[12]? = some q ∧ q.1 = (mc_M 244).1.cls := ⟨mk_ca244, mk_tb (mk_sub11 (List.mem_of_getElem? (i := 170) rfl) rfl), mk_im244, mk_se244, _, rfl, rfl⟩
set_option maxRecDepth 100000 in
theorem mk_V242 : ms_callee mc_M 288 (1 - 1) ∧ Jvm.Cond.methodLink (mk_nm 12) 224 (mc_M 288).1 ∈ ms_tb ∧ Jvm.Cond.instanceMethod (mc_M 288).1 ∈ ms_tb ∧ Jvm.Cond.selects (mc_M 288).1.cls (mc_M 288).1 (mc_M 288).1 ∈ ms_tb ∧ ∃ q, mt_cl[13]? = some q ∧ q.1 = (mc_M 288).1.cls := ⟨mk_ca288, mk_tb (mk_sub12 (List.mem_of_getElem? (i := 7) rfl) rfl), mk_im288, mk_se288, _, rfl, rfl⟩
set_option maxRecDepth 100000 in
theorem mk_V243 : ms_callee mc_M 246 (3 - 1) ∧ Jvm.Cond.methodLink (mk_nm 12) 227 (mc_M 246).1 ∈ ms_tb ∧ Jvm.Cond.instanceMethod (mc_M 246).1 ∈ ms_tb ∧ Jvm.Cond.selects (mc_M 246).1.cls (mc_M 246).1 (mc_M 246).1 ∈ ms_tb ∧ ∃ q, mt_cl[12]? = some q ∧ q.1 = (mc_M 246).1.cls := ⟨mk_ca246, mk_tb (mk_sub11 (List.mem_of_getElem? (i := 178) rfl) rfl), mk_im246, mk_se246, _, rfl, rfl⟩
set_option maxRecDepth 100000 in
theorem mk_V244 : ms_callee mc_M 291 (2 - 1) ∧ Jvm.Cond.methodLink (mk_nm 12) 230 (mc_M 291).1 ∈ ms_tb ∧ Jvm.Cond.instanceMethod (mc_M 291).1 ∈ ms_tb ∧ Jvm.Cond.selects (mc_M 291).1.cls (mc_M 291).1 (mc_M 291).1 ∈ ms_tb ∧ ∃ q, mt_cl[13]? = some q ∧ q.1 = (mc_M 291).1.cls := ⟨mk_ca291, mk_tb (mk_sub12 (List.mem_of_getElem? (i := 15) rfl) rfl), mk_im291, mk_se291, _, rfl, rfl⟩
set_option maxRecDepth 100000 in
theorem mk_V245 : ms_callee mc_M 292 (4 - 1) ∧ Jvm.Cond.methodLink (mk_nm 12) 234 (mc_M 292).1 ∈ ms_tb ∧ Jvm.Cond.instanceMethod (mc_M 292).1 ∈ ms_tb ∧ Jvm.Cond.selects (mc_M 292).1.cls (mc_M 292).1 (mc_M 292).1 ∈ ms_tb ∧ ∃ q, mt_cl[13]? = some q ∧ q.1 = (mc_M 292).1.cls := ⟨mk_ca292, mk_tb (mk_sub12 (List.mem_of_getElem? (i := 19) rfl) rfl), mk_im292, mk_se292, _, rfl, rfl⟩
set_option maxRecDepth 100000 in
theorem mk_V246 : ms_callee mc_M 287 (2 - 1) ∧ Jvm.Cond.methodLink (mk_nm 12) 238 (mc_M 287).1 ∈ ms_tb ∧ Jvm.Cond.instanceMethod (mc_M 287).1 ∈ ms_tb ∧ Jvm.Cond.selects (mc_M 287).1.cls (mc_M 287).1 (mc_M 287).1 ∈ ms_tb ∧ ∃ q, mt_cl[13]? = some q ∧ q.1 = (mc_M 287).1.cls := ⟨mk_ca287, mk_tb (mk_sub12 (List.mem_of_getElem? (i := 24) rfl) rfl), mk_im287, mk_se287, _, rfl, rfl⟩
set_option maxRecDepth 100000 in
theorem mk_V247 : ms_callee mc_M 285 (4 - 1) ∧ Jvm.Cond.methodLink (mk_nm 12) 241 (mc_M 285).1 ∈ ms_tb ∧ Jvm.Cond.instanceMethod (mc_M 285).1 ∈ ms_tb ∧ Jvm.Cond.selects (mc_M 285).1.cls (mc_M 285).1 (mc_M 285).1 ∈ ms_tb ∧ ∃ q, mt_cl[13]? = some q ∧ q.1 = (mc_M 285).1.cls := ⟨mk_ca285, mk_tb (mk_sub11 (List.mem_of_getElem? (i := 186) rfl) rfl), mk_im285, mk_se285, _, rfl, rfl⟩
set_option maxRecDepth 100000 in
theorem mk_V248 : ms_callee mc_M 286 (1 - 1) ∧ Jvm.Cond.methodLink (mk_nm 12) 245 (mc_M 286).1 ∈ ms_tb ∧ Jvm.Cond.instanceMethod (mc_M 286).1 ∈ ms_tb ∧ Jvm.Cond.selects (mc_M 286).1.cls (mc_M 286).1 (mc_M 286).1 ∈ ms_tb ∧ ∃ q, mt_cl[13]? = some q ∧ q.1 = (mc_M 286).1.cls := ⟨mk_ca286, mk_tb (mk_sub11 (List.mem_of_getElem? (i := 194) rfl) rfl), mk_im286, mk_se286, _, rfl, rfl⟩
set_option maxRecDepth 100000 in
theorem mk_V249 : ms_callee mc_M 248 (4 - 1) ∧ Jvm.Cond.methodLink (mk_nm 12) 248 (mc_M 248).1 ∈ ms_tb ∧ Jvm.Cond.instanceMethod (mc_M 248).1 ∈ ms_tb ∧ Jvm.Cond.selects (mc_M 248).1.cls (mc_M 248).1 (mc_M 248).1 ∈ ms_tb ∧ ∃ q, mt_cl[12]? = some q ∧ q.1 = (mc_M 248).1.cls := ⟨mk_ca248, mk_tb (mk_sub11 (List.mem_of_getElem? (i := 174) rfl) rfl), mk_im248, mk_se248, _, rfl, rfl⟩
set_option maxRecDepth 100000 in
theorem mk_V250 : ms_callee mc_M 250 (5 - 1) ∧ Jvm.Cond.methodLink (mk_nm 12) 252 (mc_M 250).1 ∈ ms_tb ∧ Jvm.Cond.instanceMethod (mc_M 250).1 ∈ ms_tb ∧ Jvm.Cond.selects (mc_M 250).1.cls (mc_M 250).1 (mc_M 250).1 ∈ ms_tb ∧ ∃ q, mt_cl[12]? = some q ∧ q.1 = (mc_M 250).1.cls := ⟨mk_ca250, mk_tb (mk_sub11 (List.mem_of_getElem? (i := 70) rfl) rfl), mk_im250, mk_se250, _, rfl, rfl⟩
set_option maxRecDepth 100000 in
theorem mk_V251 : ms_callee mc_M 251 (6 - 1) ∧ Jvm.Cond.methodLink (mk_nm 12) 256 (mc_M 251).1 ∈ ms_tb ∧ Jvm.Cond.instanceMethod (mc_M 251).1 ∈ ms_tb ∧ Jvm.Cond.selects (mc_M 251).1.cls (mc_M 251).1 (mc_M 251).1 ∈ ms_tb ∧ ∃ q, mt_cl[12]? = some q ∧ q.1 = (mc_M 251).1.cls := ⟨mk_ca251, mk_tb (mk_sub11 (List.mem_of_getElem? (i := 74) rfl) rfl), mk_im251, mk_se251, _, rfl, rfl⟩
set_option maxRecDepth 100000 in
theorem mk_V252 : ms_callee mc_M 252 (6 - 1) ∧ Jvm.Cond.methodLink (mk_nm 12) 260 (mc_M 252).1 ∈ ms_tb ∧ Jvm.Cond.instanceMethod (mc_M 252).1 ∈ ms_tb ∧ Jvm.Cond.selects (mc_M 252).1.cls (mc_M 252).1 (mc_M 252).1 ∈ ms_tb ∧ ∃ q, mt_cl[12]? = some q ∧ q.1 = (mc_M 252).1.cls := ⟨mk_ca252, mk_tb (mk_sub11 (List.mem_of_getElem? (i := 89) rfl) rfl), mk_im252, mk_se252, _, rfl, rfl⟩
set_option maxRecDepth 100000 in
theorem mk_V253 : ms_callee mc_M 227 (2 - 1) ∧ Jvm.Cond.methodLink (mk_nm 12) 264 (mc_M 227).1 ∈ ms_tb ∧ Jvm.Cond.instanceMethod (mc_M 227).1 ∈ ms_tb ∧ Jvm.Cond.selects (mc_M 227).1.cls (mc_M 227).1 (mc_M 227).1 ∈ ms_tb ∧ ∃ q, mt_cl[12]? = some q ∧ q.1 = (mc_M 227).1.cls := ⟨mk_ca227, mk_tb (mk_sub11 (List.mem_of_getElem? (i := 78) rfl) rfl), mk_im227, mk_se227, _, rfl, rfl⟩
set_option maxRecDepth 100000 in
theorem mk_V254 : ms_callee mc_M 293 (2 - 1) ∧ Jvm.Cond.methodLink (mk_nm 12) 268 (mc_M 293).1 ∈ ms_tb ∧ Jvm.Cond.instanceMethod (mc_M 293).1 ∈ ms_tb ∧ Jvm.Cond.selects (mc_M 293).1.cls (mc_M 293).1 (mc_M 293).1 ∈ ms_tb ∧ ∃ q, mt_cl[13]? = some q ∧ q.1 = (mc_M 293).1.cls := ⟨mk_ca293, mk_tb (mk_sub11 (List.mem_of_getElem? (i := 82) rfl) rfl), mk_im293, mk_se293, _, rfl, rfl⟩
set_option maxRecDepth 100000 in
theorem mk_V255 : ms_callee mc_M 249 (2 - 1) ∧ Jvm.Cond.methodLink (mk_nm 12) 271 (mc_M 249).1 ∈ ms_tb ∧ Jvm.Cond.instanceMethod (mc_M 249).1 ∈ ms_tb ∧ Jvm.Cond.selects (mc_M 249).1.cls (mc_M 249).1 (mc_M 249).1 ∈ ms_tb ∧ ∃ q, mt_cl[12]? = some q ∧ q.1 = (mc_M 249).1.cls := ⟨mk_ca249, mk_tb (mk_sub11 (List.mem_of_getElem? (i := 190) rfl) rfl), mk_im249, mk_se249, _, rfl, rfl⟩
set_option maxRecDepth 100000 in
theorem mk_V256 : ms_callee mc_M 254 (2 - 1) ∧ Jvm.Cond.methodLink (mk_nm 12) 274 (mc_M 254).1 ∈ ms_tb ∧ Jvm.Cond.instanceMethod (mc_M 254).1 ∈ ms_tb ∧ Jvm.Cond.selects (mc_M 254).1.cls (mc_M 254).1 (mc_M 254).1 ∈ ms_tb ∧ ∃ q, mt_cl[12]? = some q ∧ q.1 = (mc_M 254).1.cls := ⟨mk_ca254, mk_tb (mk_sub11 (List.mem_of_getElem? (i := 42) rfl) rfl), mk_im254, mk_se254, _, rfl, rfl⟩
set_option maxRecDepth 100000 in
theorem mk_V257 : ms_callee mc_M 255 (2 - 1) ∧ Jvm.Cond.methodLink (mk_nm 12) 280 (mc_M 255).1 ∈ ms_tb ∧ Jvm.Cond.instanceMethod (mc_M 255).1 ∈ ms_tb ∧ Jvm.Cond.selects (mc_M 255).1.cls (mc_M 255).1 (mc_M 255).1 ∈ ms_tb ∧ ∃ q, mt_cl[12]? = some q ∧ q.1 = (mc_M 255).1.cls := ⟨mk_ca255, mk_tb (mk_sub11 (List.mem_of_getElem? (i := 46) rfl) rfl), mk_im255, mk_se255, _, rfl, rfl⟩
set_option maxRecDepth 100000 in
theorem mk_V258 : ms_callee mc_M 256 (2 - 1) ∧ Jvm.Cond.methodLink (mk_nm 12) 283 (mc_M 256).1 ∈ ms_tb ∧ Jvm.Cond.instanceMethod (mc_M 256).1 ∈ ms_tb ∧ Jvm.Cond.selects (mc_M 256).1.cls (mc_M 256).1 (mc_M 256).1 ∈ ms_tb ∧ ∃ q, mt_cl[12]? = some q ∧ q.1 = (mc_M 256).1.cls := ⟨mk_ca256, mk_tb (mk_sub11 (List.mem_of_getElem? (i := 30) rfl) rfl), mk_im256, mk_se256, _, rfl, rfl⟩
set_option maxRecDepth 100000 in
theorem mk_V259 : ms_callee mc_M 253 (2 - 1) ∧ Jvm.Cond.methodLink (mk_nm 12) 286 (mc_M 253).1 ∈ ms_tb ∧ Jvm.Cond.instanceMethod (mc_M 253).1 ∈ ms_tb ∧ Jvm.Cond.selects (mc_M 253).1.cls (mc_M 253).1 (mc_M 253).1 ∈ ms_tb ∧ ∃ q, mt_cl[12]? = some q ∧ q.1 = (mc_M 253).1.cls := ⟨mk_ca253, mk_tb (mk_sub11 (List.mem_of_getElem? (i := 34) rfl) rfl), mk_im253, mk_se253, _, rfl, rfl⟩
set_option maxRecDepth 100000 in
theorem mk_V260 : ms_callee mc_M 261 (5 - 1) ∧ Jvm.Cond.methodLink (mk_nm 12) 292 (mc_M 261).1 ∈ ms_tb ∧ Jvm.Cond.instanceMethod (mc_M 261).1 ∈ ms_tb ∧ Jvm.Cond.selects (mc_M 261).1.cls (mc_M 261).1 (mc_M 261).1 ∈ ms_tb ∧ ∃ q, mt_cl[12]? = some q ∧ q.1 = (mc_M 261).1.cls := ⟨mk_ca261, mk_tb (mk_sub11 (List.mem_of_getElem? (i := 58) rfl) rfl), mk_im261, mk_se261, _, rfl, rfl⟩
set_option maxRecDepth 100000 in
theorem mk_V261 : ms_callee mc_M 290 (3 - 1) ∧ Jvm.Cond.methodLink (mk_nm 12) 296 (mc_M 290).1 ∈ ms_tb ∧ Jvm.Cond.instanceMethod (mc_M 290).1 ∈ ms_tb ∧ Jvm.Cond.selects (mc_M 290).1.cls (mc_M 290).1 (mc_M 290).1 ∈ ms_tb ∧ ∃ q, mt_cl[13]? = some q ∧ q.1 = (mc_M 290).1.cls := ⟨mk_ca290, mk_tb (mk_sub11 (List.mem_of_getElem? (i := 209) rfl) rfl), mk_im290, mk_se290, _, rfl, rfl⟩
set_option maxRecDepth 100000 in
theorem mk_V262 : ms_callee mc_M 294 (2 - 1) ∧ Jvm.Cond.methodLink (mk_nm 12) 305 (mc_M 294).1 ∈ ms_tb ∧ Jvm.Cond.instanceMethod (mc_M 294).1 ∈ ms_tb ∧ Jvm.Cond.selects (mc_M 294).1.cls (mc_M 294).1 (mc_M 294).1 ∈ ms_tb ∧ ∃ q, mt_cl[13]? = some q ∧ q.1 = (mc_M 294).1.cls := ⟨mk_ca294, mk_tb (mk_sub9 (List.mem_of_getElem? (i := 75) rfl) rfl), mk_im294, mk_se294, _, rfl, rfl⟩
set_option maxRecDepth 100000 in
theorem mk_V263 : ms_callee mc_M 264 (5 - 1) ∧ Jvm.Cond.methodLink (mk_nm 12) 315 (mc_M 264).1 ∈ ms_tb ∧ Jvm.Cond.instanceMethod (mc_M 264).1 ∈ ms_tb ∧ Jvm.Cond.selects (mc_M 264).1.cls (mc_M 264).1 (mc_M 264).1 ∈ ms_tb ∧ ∃ q, mt_cl[12]? = some q ∧ q.1 = (mc_M 264).1.cls := ⟨mk_ca264, mk_tb (mk_sub11 (List.mem_of_getElem? (i := 62) rfl) rfl), mk_im264, mk_se264, _, rfl, rfl⟩
set_option maxRecDepth 100000 in
theorem mk_V264 : ms_callee mc_M 268 (5 - 1) ∧ Jvm.Cond.methodLink (mk_nm 12) 318 (mc_M 268).1 ∈ ms_tb ∧ Jvm.Cond.instanceMethod (mc_M 268).1 ∈ ms_tb ∧ Jvm.Cond.selects (mc_M 268).1.cls (mc_M 268).1 (mc_M 268).1 ∈ ms_tb ∧ ∃ q, mt_cl[12]? = some q ∧ q.1 = (mc_M 268).1.cls := ⟨mk_ca268, mk_tb (mk_sub11 (List.mem_of_getElem? (i := 214) rfl) rfl), mk_im268, mk_se268, _, rfl, rfl⟩
set_option maxRecDepth 100000 in
theorem mk_V265 : ms_callee mc_M 265 (5 - 1) ∧ Jvm.Cond.methodLink (mk_nm 12) 321 (mc_M 265).1 ∈ ms_tb ∧ Jvm.Cond.instanceMethod (mc_M 265).1 ∈ ms_tb ∧ Jvm.Cond.selects (mc_M 265).1.cls (mc_M 265).1 (mc_M 265).1 ∈ ms_tb ∧ ∃ q, mt_cl[12]? = some q ∧ q.1 = (mc_M 265).1.cls := ⟨mk_ca265, mk_tb (mk_sub11 (List.mem_of_getElem? (i := 239) rfl) rfl), mk_im265, mk_se265, _, rfl, rfl⟩
set_option maxRecDepth 100000 in
theorem mk_V266 : ms_callee mc_M 258 (3 - 1) ∧ Jvm.Cond.methodLink (mk_nm 12) 324 (mc_M 258).1 ∈ ms_tb ∧ Jvm.Cond.instanceMethod (mc_M 258).1 ∈ ms_tb ∧ Jvm.Cond.selects (mc_M 258).1.cls (mc_M 258).1 (mc_M 258).1 ∈ ms_tb ∧ ∃ q, mt_cl[12]? = some q ∧ q.1 = (mc_M 258).1.cls := ⟨mk_ca258, mk_tb (mk_sub11 (List.mem_of_getElem? (i := 66) rfl) rfl), mk_im258, mk_se258, _, rfl, rfl⟩
set_option maxRecDepth 100000 in
theorem mk_V267 : ms_callee mc_M 262 (4 - 1) ∧ Jvm.Cond.methodLink (mk_nm 12) 328 (mc_M 262).1 ∈ ms_tb ∧ Jvm.Cond.instanceMethod (mc_M 262).1 ∈ ms_tb ∧ Jvm.Cond.selects (mc_M 262).1.cls (mc_M 262).1 (mc_M 262).1 ∈ ms_tb ∧ ∃ q, mt_cl[12]? = some q ∧ q.1 = (mc_M 262).1.cls := ⟨mk_ca262, mk_tb (mk_sub12 (List.mem_of_getElem? (i := 33) rfl) rfl), mk_im262, mk_se262, _, rfl, rfl⟩
set_option maxRecDepth 100000 in
theorem mk_V268 : ms_callee mc_M 259 (2 - 1) ∧ Jvm.Cond.methodLink (mk_nm 12) 332 (mc_M 259).1 ∈ ms_tb ∧ Jvm.Cond.instanceMethod (mc_M 259).1 ∈ ms_tb ∧ Jvm.Cond.selects (mc_M 259).1.cls (mc_M 259).1 (mc_M 259).1 ∈ ms_tb ∧ ∃ q, mt_cl[12]? = some q ∧ q.1 = (mc_M 259).1.cls := ⟨mk_ca259, mk_tb (mk_sub11 (List.mem_of_getElem? (i := 201) rfl) rfl), mk_im259, mk_se259, _, rfl, rfl⟩
set_option maxRecDepth 100000 in
theorem mk_V269 : ms_callee mc_M 260 (4 - 1) ∧ Jvm.Cond.methodLink (mk_nm 12) 335 (mc_M 260).1 ∈ ms_tb ∧ Jvm.Cond.instanceMethod (mc_M 260).1 ∈ ms_tb ∧ Jvm.Cond.selects (mc_M 260).1.cls (mc_M 260).1 (mc_M 260).1 ∈ ms_tb ∧ ∃ q, mt_cl[12]? = some q ∧ q.1 = (mc_M 260).1.cls := ⟨mk_ca260, mk_tb (mk_sub11 (List.mem_of_getElem? (i := 205) rfl) rfl), mk_im260, mk_se260, _, rfl, rfl⟩
set_option maxRecDepth 100000 in
theorem mk_V270 : ms_callee mc_M 247 (5 - 1) ∧ Jvm.Cond.methodLink (mk_nm 12) 339 (mc_M 247).1 ∈ ms_tb ∧ Jvm.Cond.instanceMethod (mc_M 247).1 ∈ ms_tb ∧ Jvm.Cond.selects (mc_M 247).1.cls (mc_M 247).1 (mc_M 247).1 ∈ ms_tb ∧ ∃ q, mt_cl[12]? = some q ∧ q.1 = (mc_M 247).1.cls := ⟨mk_ca247, mk_tb (mk_sub12 (List.mem_of_getElem? (i := 3) rfl) rfl), mk_im247, mk_se247, _, rfl, rfl⟩
set_option maxRecDepth 100000 in
theorem mk_V271 : ms_callee mc_M 230 (3 - 1) ∧ Jvm.Cond.methodLink (mk_nm 12) 343 (mc_M 230).1 ∈ ms_tb ∧ Jvm.Cond.instanceMethod (mc_M 230).1 ∈ ms_tb ∧ Jvm.Cond.selects (mc_M 230).1.cls (mc_M 230).1 (mc_M 230).1 ∈ ms_tb ∧ ∃ q, mt_cl[12]? = some q ∧ q.1 = (mc_M 230).1.cls := ⟨mk_ca230, mk_tb (mk_sub12 (List.mem_of_getElem? (i := 29) rfl) rfl), mk_im230, mk_se230, _, rfl, rfl⟩
set_option maxRecDepth 100000 in
theorem mk_V272 : ms_callee mc_M 289 (2 - 1) ∧ Jvm.Cond.methodLink (mk_nm 12) 348 (mc_M 289).1 ∈ ms_tb ∧ Jvm.Cond.instanceMethod (mc_M 289).1 ∈ ms_tb ∧ Jvm.Cond.selects (mc_M 289).1.cls (mc_M 289).1 (mc_M 289).1 ∈ ms_tb ∧ ∃ q, mt_cl[13]? = some q ∧ q.1 = (mc_M 289).1.cls := ⟨mk_ca289, mk_tb (mk_sub12 (List.mem_of_getElem? (i := 37) rfl) rfl), mk_im289, mk_se289, _, rfl, rfl⟩
set_option maxRecDepth 100000 in
theorem mk_V273 : ms_callee mc_M 263 (3 - 1) ∧ Jvm.Cond.methodLink (mk_nm 12) 352 (mc_M 263).1 ∈ ms_tb ∧ Jvm.Cond.instanceMethod (mc_M 263).1 ∈ ms_tb ∧ Jvm.Cond.selects (mc_M 263).1.cls (mc_M 263).1 (mc_M 263).1 ∈ ms_tb ∧ ∃ q, mt_cl[12]? = some q ∧ q.1 = (mc_M 263).1.cls := ⟨mk_ca263, mk_tb (mk_sub12 (List.mem_of_getElem? (i := 41) rfl) rfl), mk_im263, mk_se263, _, rfl, rfl⟩
set_option maxRecDepth 100000 in
theorem mk_V274 : ms_callee mc_M 257 (5 - 1) ∧ Jvm.Cond.methodLink (mk_nm 12) 359 (mc_M 257).1 ∈ ms_tb ∧ Jvm.Cond.instanceMethod (mc_M 257).1 ∈ ms_tb ∧ Jvm.Cond.selects (mc_M 257).1.cls (mc_M 257).1 (mc_M 257).1 ∈ ms_tb ∧ ∃ q, mt_cl[12]? = some q ∧ q.1 = (mc_M 257).1.cls := ⟨mk_ca257, mk_tb (mk_sub11 (List.mem_of_getElem? (i := 54) rfl) rfl), mk_im257, mk_se257, _, rfl, rfl⟩
set_option maxRecDepth 100000 in
theorem mk_V275 : ms_callee mc_M 266 (2 - 1) ∧ Jvm.Cond.methodLink (mk_nm 12) 365 (mc_M 266).1 ∈ ms_tb ∧ Jvm.Cond.instanceMethod (mc_M 266).1 ∈ ms_tb ∧ Jvm.Cond.selects (mc_M 266).1.cls (mc_M 266).1 (mc_M 266).1 ∈ ms_tb ∧ ∃ q, mt_cl[12]? = some q ∧ q.1 = (mc_M 266).1.cls := ⟨mk_ca266, mk_tb (mk_sub12 (List.mem_of_getElem? (i := 25) rfl) rfl), mk_im266, mk_se266, _, rfl, rfl⟩
set_option maxRecDepth 100000 in
theorem mk_V276 : ms_callee mc_M 269 (5 - 1) ∧ Jvm.Cond.methodLink (mk_nm 12) 368 (mc_M 269).1 ∈ ms_tb ∧ Jvm.Cond.instanceMethod (mc_M 269).1 ∈ ms_tb ∧ Jvm.Cond.selects (mc_M 269).1.cls (mc_M 269).1 (mc_M 269).1 ∈ ms_tb ∧ ∃ q, mt_cl[12]? = some q ∧ q.1 = (mc_M 269).1.cls := ⟨mk_ca269, mk_tb (mk_sub11 (List.mem_of_getElem? (i := 218) rfl) rfl), mk_im269, mk_se269, _, rfl, rfl⟩
set_option maxRecDepth 100000 in
theorem mk_V277 : ms_callee mc_M 267 (7 - 1) ∧ Jvm.Cond.methodLink (mk_nm 12) 371 (mc_M 267).1 ∈ ms_tb ∧ Jvm.Cond.instanceMethod (mc_M 267).1 ∈ ms_tb ∧ Jvm.Cond.selects (mc_M 267).1.cls (mc_M 267).1 (mc_M 267).1 ∈ ms_tb ∧ ∃ q, mt_cl[12]? = some q ∧ q.1 = (mc_M 267).1.cls := ⟨mk_ca267, mk_tb (mk_sub11 (List.mem_of_getElem? (i := 222) rfl) rfl), mk_im267, mk_se267, _, rfl, rfl⟩
set_option maxRecDepth 100000 in
theorem mk_V278 : ms_callee mc_M 295 (2 - 1) ∧ Jvm.Cond.methodLink (mk_nm 12) 375 (mc_M 295).1 ∈ ms_tb ∧ Jvm.Cond.instanceMethod (mc_M 295).1 ∈ ms_tb ∧ Jvm.Cond.selects (mc_M 295).1.cls (mc_M 295).1 (mc_M 295).1 ∈ ms_tb ∧ ∃ q, mt_cl[13]? = some q ∧ q.1 = (mc_M 295).1.cls := ⟨mk_ca295, mk_tb (mk_sub11 (List.mem_of_getElem? (i := 226) rfl) rfl), mk_im295, mk_se295, _, rfl, rfl⟩
set_option maxRecDepth 100000 in
theorem mk_V279 : ms_callee mc_M 280 (1 - 1) ∧ Jvm.Cond.methodLink (mk_nm 12) 387 (mc_M 280).1 ∈ ms_tb ∧ Jvm.Cond.instanceMethod (mc_M 280).1 ∈ ms_tb ∧ Jvm.Cond.selects (mc_M 280).1.cls (mc_M 280).1 (mc_M 280).1 ∈ ms_tb ∧ ∃ q, mt_cl[13]? = some q ∧ q.1 = (mc_M 280).1.cls := ⟨mk_ca280, mk_tb (mk_sub9 (List.mem_of_getElem? (i := 67) rfl) rfl), mk_im280, mk_se280, _, rfl, rfl⟩
set_option maxRecDepth 100000 in
theorem mk_V280 : ms_callee mc_M 274 (1 - 1) ∧ Jvm.Cond.methodLink (mk_nm 12) 390 (mc_M 274).1 ∈ ms_tb ∧ Jvm.Cond.instanceMethod (mc_M 274).1 ∈ ms_tb ∧ Jvm.Cond.selects (mc_M 274).1.cls (mc_M 274).1 (mc_M 274).1 ∈ ms_tb ∧ ∃ q, mt_cl[12]? = some q ∧ q.1 = (mc_M 274).1.cls := ⟨mk_ca274, mk_tb (mk_sub9 (List.mem_of_getElem? (i := 71) rfl) rfl), mk_im274, mk_se274, _, rfl, rfl⟩
set_option maxRecDepth 100000 in
theorem mk_V281 : ms_callee mc_M 271 (1 - 1) ∧ Jvm.Cond.methodLink (mk_nm 12) 394 (mc_M 271).1 ∈ ms_tb ∧ Jvm.Cond.instanceMethod (mc_M 271).1 ∈ ms_tb ∧ Jvm.Cond.selects (mc_M 271).1.cls (mc_M 271).1 (mc_M 271).1 ∈ ms_tb ∧ ∃ q, mt_cl[12]? = some q ∧ q.1 = (mc_M 271).1.cls := ⟨mk_ca271, mk_tb (mk_sub11 (List.mem_of_getElem? (i := 26) rfl) rfl), mk_im271, mk_se271, _, rfl, rfl⟩
set_option maxRecDepth 100000 in
theorem mk_V282 : ms_callee mc_M 282 (3 - 1) ∧ Jvm.Cond.methodLink (mk_nm 13) 54 (mc_M 282).1 ∈ ms_tb ∧ Jvm.Cond.instanceMethod (mc_M 282).1 ∈ ms_tb ∧ Jvm.Cond.selects (mc_M 282).1.cls (mc_M 282).1 (mc_M 282).1 ∈ ms_tb ∧ ∃ q, mt_cl[13]? = some q ∧ q.1 = (mc_M 282).1.cls := ⟨mk_ca282, mk_tb (mk_sub11 (List.mem_of_getElem? (i := 109) rfl) rfl), mk_im282, mk_se282, _, rfl, rfl⟩
set_option maxRecDepth 100000 in
theorem mk_V283 : ms_callee mc_M 287 (2 - 1) ∧ Jvm.Cond.methodLink (mk_nm 13) 70 (mc_M 287).1 ∈ ms_tb ∧ Jvm.Cond.instanceMethod (mc_M 287).1 ∈ ms_tb ∧ Jvm.Cond.selects (mc_M 287).1.cls (mc_M 287).1 (mc_M 287).1 ∈ ms_tb ∧ ∃ q, mt_cl[13]? = some q ∧ q.1 = (mc_M 287).1.cls := ⟨mk_ca287, mk_tb (mk_sub12 (List.mem_of_getElem? (i := 11) rfl) rfl), mk_im287, mk_se287, _, rfl, rfl⟩
set_option maxRecDepth 100000 in
theorem mk_V284 : ms_callee mc_M 285 (4 - 1) ∧ Jvm.Cond.methodLink (mk_nm 13) 74 (mc_M 285).1 ∈ ms_tb ∧ Jvm.Cond.instanceMethod (mc_M 285).1 ∈ ms_tb ∧ Jvm.Cond.selects (mc_M 285).1.cls (mc_M 285).1 (mc_M 285).1 ∈ ms_tb ∧ ∃ q, mt_cl[13]? = some q ∧ q.1 = (mc_M 285).1.cls := ⟨mk_ca285, mk_tb (mk_sub12 (List.mem_of_getElem? (i := 23) rfl) rfl), mk_im285, mk_se285, _, rfl, rfl⟩
set_option maxRecDepth 100000 in
theorem mk_V285 : ms_callee mc_M 281 (2 - 1) ∧ Jvm.Cond.methodLink (mk_nm 13) 78 (mc_M 281).1 ∈ ms_tb ∧ Jvm.Cond.instanceMethod (mc_M 281).1 ∈ ms_tb ∧ Jvm.Cond.selects (mc_M 281).1.cls (mc_M 281).1 (mc_M 281).1 ∈ ms_tb ∧ ∃ q, mt_cl[13]? = some q ∧ q.1 = (mc_M 281).1.cls := ⟨mk_ca281, mk_tb (mk_sub11 (List.mem_of_getElem? (i := 86) rfl) rfl), mk_im281, mk_se281, _, rfl, rfl⟩
set_option maxRecDepth 100000 in
theorem mk_V286 : ms_callee mc_M 299 (1 - 1) ∧ Jvm.Cond.methodLink (mk_nm 14) 173 (mc_M 299).1 ∈ ms_tb ∧ Jvm.Cond.instanceMethod (mc_M 299).1 ∈ ms_tb ∧ Jvm.Cond.selects (mc_M 299).1.cls (mc_M 299).1 (mc_M 299).1 ∈ ms_tb ∧ ∃ q, mt_cl[14]? = some q ∧ q.1 = (mc_M 299).1.cls := ⟨mk_ca299, mk_tb (mk_sub9 (List.mem_of_getElem? (i := 59) rfl) rfl), mk_im299, mk_se299, _, rfl, rfl⟩
set_option maxRecDepth 100000 in
theorem mk_V287 : ms_callee mc_M 272 (1 - 1) ∧ Jvm.Cond.methodLink (mk_nm 14) 188 (mc_M 272).1 ∈ ms_tb ∧ Jvm.Cond.instanceMethod (mc_M 272).1 ∈ ms_tb ∧ Jvm.Cond.selects (mc_M 272).1.cls (mc_M 272).1 (mc_M 272).1 ∈ ms_tb ∧ ∃ q, mt_cl[12]? = some q ∧ q.1 = (mc_M 272).1.cls := ⟨mk_ca272, mk_tb (mk_sub9 (List.mem_of_getElem? (i := 63) rfl) rfl), mk_im272, mk_se272, _, rfl, rfl⟩
set_option maxRecDepth 100000 in
theorem mk_V288 : ms_callee mc_M 302 (4 - 1) ∧ Jvm.Cond.methodLink (mk_nm 14) 207 (mc_M 302).1 ∈ ms_tb ∧ Jvm.Cond.instanceMethod (mc_M 302).1 ∈ ms_tb ∧ Jvm.Cond.selects (mc_M 302).1.cls (mc_M 302).1 (mc_M 302).1 ∈ ms_tb ∧ ∃ q, mt_cl[14]? = some q ∧ q.1 = (mc_M 302).1.cls := ⟨mk_ca302, mk_tb (mk_sub10 (List.mem_of_getElem? (i := 75) rfl) rfl), mk_im302, mk_se302, _, rfl, rfl⟩
set_option maxRecDepth 100000 in
theorem mk_V289 : ms_callee mc_M 305 (2 - 1) ∧ Jvm.Cond.methodLink (mk_nm 14) 224 (mc_M 305).1 ∈ ms_tb ∧ Jvm.Cond.instanceMethod (mc_M 305).1 ∈ ms_tb ∧ Jvm.Cond.selects (mc_M 305).1.cls (mc_M 305).1 (mc_M 305).1 ∈ ms_tb ∧ ∃ q, mt_cl[14]? = some q ∧ q.1 = (mc_M 305).1.cls := ⟨mk_ca305, mk_tb (mk_sub10 (List.mem_of_getElem? (i := 82) rfl) rfl), mk_im305, mk_se305, _, rfl, rfl⟩
set_option maxRecDepth 100000 in
theorem mk_V290 : ms_callee mc_M 306 (2 - 1) ∧ Jvm.Cond.methodLink (mk_nm 14) 230 (mc_M 306).1 ∈ ms_tb ∧ Jvm.Cond.instanceMethod (mc_M 306).1 ∈ ms_tb ∧ Jvm.Cond.selects (mc_M 306).1.cls (mc_M 306).1 (mc_M 306).1 ∈ ms_tb ∧ ∃ q, mt_cl[14]? = some q ∧ q.1 = (mc_M 306).1.cls := ⟨mk_ca306, mk_tb (mk_sub10 (List.mem_of_getElem? (i := 71) rfl) rfl), mk_im306, mk_se306, _, rfl, rfl⟩
set_option maxRecDepth 100000 in
theorem mk_V291 : ms_callee mc_M 307 (3 - 1) ∧ Jvm.Cond.methodLink (mk_nm 14) 234 (mc_M 307).1 ∈ ms_tb ∧ Jvm.Cond.instanceMethod (mc_M 307).1 ∈ ms_tb ∧ Jvm.Cond.selects (mc_M 307).1.cls (mc_M 307).1 (mc_M 307).1 ∈ ms_tb ∧ ∃ q, mt_cl[14]? = some q ∧ q.1 = (mc_M 307).1.cls := ⟨mk_ca307, mk_tb (mk_sub10 (List.mem_of_getElem? (i := 89) rfl) rfl), mk_im307, mk_se307, _, rfl, rfl⟩
set_option maxRecDepth 100000 in
theorem mk_V292 : ms_callee mc_M 308 (3 - 1) ∧ Jvm.Cond.methodLink (mk_nm 14) 238 (mc_M 308).1 ∈ ms_tb ∧ Jvm.Cond.instanceMethod (mc_M 308).1 ∈ ms_tb ∧ Jvm.Cond.selects (mc_M 308).1.cls (mc_M 308).1 (mc_M 308).1 ∈ ms_tb ∧ ∃ q, mt_cl[14]? = some q ∧ q.1 = (mc_M 308).1.cls := ⟨mk_ca308, mk_tb (mk_sub10 (List.mem_of_getElem? (i := 95) rfl) rfl), mk_im308, mk_se308, _, rfl, rfl⟩
set_option maxRecDepth 100000 in
theorem mk_V293 : ms_callee mc_M 310 (1 - 1) ∧ Jvm.Cond.methodLink (mk_nm 14) 249 (mc_M 310).1 ∈ ms_tb ∧ Jvm.Cond.instanceMethod (mc_M 310).1 ∈ ms_tb ∧ Jvm.Cond.selects (mc_M 310).1.cls (mc_M 310).1 (mc_M 310).1 ∈ ms_tb ∧ ∃ q, mt_cl[14]? = some q ∧ q.1 = (mc_M 310).1.cls := ⟨mk_ca310, mk_tb (mk_sub10 (List.mem_of_getElem? (i := 114) rfl) rfl), mk_im310, mk_se310, _, rfl, rfl⟩
set_option maxRecDepth 100000 in
theorem mk_V294 : ms_callee mc_M 311 (2 - 1) ∧ Jvm.Cond.methodLink (mk_nm 14) 252 (mc_M 311).1 ∈ ms_tb ∧ Jvm.Cond.instanceMethod (mc_M 311).1 ∈ ms_tb ∧ Jvm.Cond.selects (mc_M 311).1.cls (mc_M 311).1 (mc_M 311).1 ∈ ms_tb ∧ ∃ q, mt_cl[14]? = some q ∧ q.1 = (mc_M 311).1.cls := ⟨mk_ca311, mk_tb (mk_sub10 (List.mem_of_getElem? (i := 118) rfl) rfl), mk_im311, mk_se311, _, rfl, rfl⟩
set_option maxRecDepth 100000 in
theorem mk_V295 : ms_callee mc_M 313 (4 - 1) ∧ Jvm.Cond.methodLink (mk_nm 14) 259 (mc_M 313).1 ∈ ms_tb ∧ Jvm.Cond.instanceMethod (mc_M 313).1 ∈ ms_tb ∧ Jvm.Cond.selects (mc_M 313).1.cls (mc_M 313).1 (mc_M 313).1 ∈ ms_tb ∧ ∃ q, mt_cl[14]? = some q ∧ q.1 = (mc_M 313).1.cls := ⟨mk_ca313, mk_tb (mk_sub10 (List.mem_of_getElem? (i := 106) rfl) rfl), mk_im313, mk_se313, _, rfl, rfl⟩
set_option maxRecDepth 100000 in
theorem mk_V296 : ms_callee mc_M 312 (2 - 1) ∧ Jvm.Cond.methodLink (mk_nm 14) 262 (mc_M 312).1 ∈ ms_tb ∧ Jvm.Cond.instanceMethod (mc_M 312).1 ∈ ms_tb ∧ Jvm.Cond.selects (mc_M 312).1.cls (mc_M 312).1 (mc_M 312).1 ∈ ms_tb ∧ ∃ q, mt_cl[14]? = some q ∧ q.1 = (mc_M 312).1.cls := ⟨mk_ca312, mk_tb (mk_sub10 (List.mem_of_getElem? (i := 110) rfl) rfl), mk_im312, mk_se312, _, rfl, rfl⟩
set_option maxRecDepth 100000 in
theorem mk_V297 : ms_callee mc_M 317 (2 - 1) ∧ Jvm.Cond.methodLink (mk_nm 14) 266 (mc_M 317).1 ∈ ms_tb ∧ Jvm.Cond.instanceMethod (mc_M 317).1 ∈ ms_tb ∧ Jvm.Cond.selects (mc_M 317).1.cls (mc_M 317).1 (mc_M 317).1 ∈ ms_tb ∧ ∃ q, mt_cl[14]? = some q ∧ q.1 = (mc_M 317).1.cls := ⟨mk_ca317, mk_tb (mk_sub10 (List.mem_of_getElem? (i := 134) rfl) rfl), mk_im317, mk_se317, _, rfl, rfl⟩
set_option maxRecDepth 100000 in
theorem mk_V298 : ms_callee mc_M 319 (2 - 1) ∧ Jvm.Cond.methodLink (mk_nm 14) 269 (mc_M 319).1 ∈ ms_tb ∧ Jvm.Cond.instanceMethod (mc_M 319).1 ∈ ms_tb ∧ Jvm.Cond.selects (mc_M 319).1.cls (mc_M 319).1 (mc_M 319).1 ∈ ms_tb ∧ ∃ q, mt_cl[14]? = some q ∧ q.1 = (mc_M 319).1.cls := ⟨mk_ca319, mk_tb (mk_sub10 (List.mem_of_getElem? (i := 150) rfl) rfl), mk_im319, mk_se319, _, rfl, rfl⟩
set_option maxRecDepth 100000 in
theorem mk_V299 : ms_callee mc_M 314 (3 - 1) ∧ Jvm.Cond.methodLink (mk_nm 14) 272 (mc_M 314).1 ∈ ms_tb ∧ Jvm.Cond.instanceMethod (mc_M 314).1 ∈ ms_tb ∧ Jvm.Cond.selects (mc_M 314).1.cls (mc_M 314).1 (mc_M 314).1 ∈ ms_tb ∧ ∃ q, mt_cl[14]? = some q ∧ q.1 = (mc_M 314).1.cls := ⟨mk_ca314, mk_tb (mk_sub10 (List.mem_of_getElem? (i := 126) rfl) rfl), mk_im314, mk_se314, _, rfl, rfl⟩
set_option maxRecDepth 100000 in
theorem mk_V300 : ms_callee mc_M 320 (2 - 1) ∧ Jvm.Cond.methodLink (mk_nm 14) 276 (mc_M 320).1 ∈ ms_tb ∧ Jvm.Cond.instanceMethod (mc_M 320).1 ∈ ms_tb ∧ Jvm.Cond.selects (mc_M 320).1.cls (mc_M 320).1 (mc_M 320).1 ∈ ms_tb ∧ ∃ q, mt_cl[14]? = some q ∧ q.1 = (mc_M 320).1.cls := ⟨mk_ca320, mk_tb (mk_sub10 (List.mem_of_getElem? (i := 154) rfl) rfl), mk_im320, mk_se320, _, rfl, rfl⟩
set_option maxRecDepth 100000 in
theorem mk_V301 : ms_callee mc_M 316 (2 - 1) ∧ Jvm.Cond.methodLink (mk_nm 14) 279 (mc_M 316).1 ∈ ms_tb ∧ Jvm.Cond.instanceMethod (mc_M 316).1 ∈ ms_tb ∧ Jvm.Cond.selects (mc_M 316).1.cls (mc_M 316).1 (mc_M 316).1 ∈ ms_tb ∧ ∃ q, mt_cl[14]? = some q ∧ q.1 = (mc_M 316).1.cls := ⟨mk_ca316, mk_tb (mk_sub10 (List.mem_of_getElem? (i := 142) rfl) rfl), mk_im316, mk_se316, _, rfl, rfl⟩
set_option maxRecDepth 100000 in
theorem mk_V302 : ms_callee mc_M 315 (1 - 1) ∧ Jvm.Cond.methodLink (mk_nm 14) 283 (mc_M 315).1 ∈ ms_tb ∧ Jvm.Cond.instanceMethod (mc_M 315).1 ∈ ms_tb ∧ Jvm.Cond.selects (mc_M 315).1.cls (mc_M 315).1 (mc_M 315).1 ∈ ms_tb ∧ ∃ q, mt_cl[14]? = some q ∧ q.1 = (mc_M 315).1.cls := ⟨mk_ca315, mk_tb (mk_sub10 (List.mem_of_getElem? (i := 122) rfl) rfl), mk_im315, mk_se315, _, rfl, rfl⟩
set_option maxRecDepth 100000 in
theorem mk_V303 : ms_callee mc_M 318 (2 - 1) ∧ Jvm.Cond.methodLink (mk_nm 14) 286 (mc_M 318).1 ∈ ms_tb ∧ Jvm.Cond.instanceMethod (mc_M 318).1 ∈ ms_tb ∧ Jvm.Cond.selects (mc_M 318).1.cls (mc_M 318).1 (mc_M 318).1 ∈ ms_tb ∧ ∃ q, mt_cl[14]? = some q ∧ q.1 = (mc_M 318).1.cls := ⟨mk_ca318, mk_tb (mk_sub10 (List.mem_of_getElem? (i := 146) rfl) rfl), mk_im318, mk_se318, _, rfl, rfl⟩
set_option maxRecDepth 100000 in
theorem mk_V304 : ms_callee mc_M 322 (3 - 1) ∧ Jvm.Cond.methodLink (mk_nm 14) 289 (mc_M 322).1 ∈ ms_tb ∧ Jvm.Cond.instanceMethod (mc_M 322).1 ∈ ms_tb ∧ Jvm.Cond.selects (mc_M 322).1.cls (mc_M 322).1 (mc_M 322).1 ∈ ms_tb ∧ ∃ q, mt_cl[14]? = some q ∧ q.1 = (mc_M 322).1.cls := ⟨mk_ca322, mk_tb (mk_sub10 (List.mem_of_getElem? (i := 170) rfl) rfl), mk_im322, mk_se322, _, rfl, rfl⟩
set_option maxRecDepth 100000 in
theorem mk_V305 : ms_callee mc_M 323 (2 - 1) ∧ Jvm.Cond.methodLink (mk_nm 14) 292 (mc_M 323).1 ∈ ms_tb ∧ Jvm.Cond.instanceMethod (mc_M 323).1 ∈ ms_tb ∧ Jvm.Cond.selects (mc_M 323).1.cls (mc_M 323).1 (mc_M 323).1 ∈ ms_tb ∧ ∃ q, mt_cl[14]? = some q ∧ q.1 = (mc_M 323).1.cls := ⟨mk_ca323, mk_tb (mk_sub10 (List.mem_of_getElem? (i := 174) rfl) rfl), mk_im323, mk_se323, _, rfl, rfl⟩
set_option maxRecDepth 100000 in
theorem mk_V306 : ms_callee mc_M 321 (2 - 1) ∧ Jvm.Cond.methodLink (mk_nm 14) 295 (mc_M 321).1 ∈ ms_tb ∧ Jvm.Cond.instanceMethod (mc_M 321).1 ∈ ms_tb ∧ Jvm.Cond.selects (mc_M 321).1.cls (mc_M 321).1 (mc_M 321).1 ∈ ms_tb ∧ ∃ q, mt_cl[14]? = some q ∧ q.1 = (mc_M 321).1.cls := ⟨mk_ca321, mk_tb (mk_sub10 (List.mem_of_getElem? (i := 166) rfl) rfl), mk_im321, mk_se321, _, rfl, rfl⟩
set_option maxRecDepth 100000 in
theorem mk_V307 : ms_callee mc_M 326 (2 - 1) ∧ Jvm.Cond.methodLink (mk_nm 14) 298 (mc_M 326).1 ∈ ms_tb ∧ Jvm.Cond.instanceMethod (mc_M 326).1 ∈ ms_tb ∧ Jvm.Cond.selects (mc_M 326).1.cls (mc_M 326).1 (mc_M 326).1 ∈ ms_tb ∧ ∃ q, mt_cl[14]? = some q ∧ q.1 = (mc_M 326).1.cls := ⟨mk_ca326, mk_tb (mk_sub10 (List.mem_of_getElem? (i := 138) rfl) rfl), mk_im326, mk_se326, _, rfl, rfl⟩
set_option maxRecDepth 100000 in
theorem mk_V308 : ms_callee mc_M 327 (3 - 1) ∧ Jvm.Cond.methodLink (mk_nm 14) 301 (mc_M 327).1 ∈ ms_tb ∧ Jvm.Cond.instanceMethod (mc_M 327).1 ∈ ms_tb ∧ Jvm.Cond.selects (mc_M 327).1.cls (mc_M 327).1 (mc_M 327).1 ∈ ms_tb ∧ ∃ q, mt_cl[14]? = some q ∧ q.1 = (mc_M 327).1.cls := ⟨mk_ca327, mk_tb (mk_sub10 (List.mem_of_getElem? (i := 158) rfl) rfl), mk_im327, mk_se327, _, rfl, rfl⟩
set_option maxRecDepth 100000 in
theorem mk_V309 : ms_callee mc_M 324 (2 - 1) ∧ Jvm.Cond.methodLink (mk_nm 14) 304 (mc_M 324).1 ∈ ms_tb ∧ Jvm.Cond.instanceMethod (mc_M 324).1 ∈ ms_tb ∧ Jvm.Cond.selects (mc_M 324).1.cls (mc_M 324).1 (mc_M 324).1 ∈ ms_tb ∧ ∃ q, mt_cl[14]? = some q ∧ q.1 = (mc_M 324).1.cls := ⟨mk_ca324, mk_tb (mk_sub10 (List.mem_of_getElem? (i := 130) rfl) rfl), mk_im324, mk_se324, _, rfl, rfl⟩
set_option maxRecDepth 100000 in
theorem mk_V310 : ms_callee mc_M 325 (3 - 1) ∧ Jvm.Cond.methodLink (mk_nm 14) 307 (mc_M 325).1 ∈ ms_tb ∧ Jvm.Cond.instanceMethod (mc_M 325).1 ∈ ms_tb ∧ Jvm.Cond.selects (mc_M 325).1.cls (mc_M 325).1 (mc_M 325).1 ∈ ms_tb ∧ ∃ q, mt_cl[14]? = some q ∧ q.1 = (mc_M 325).1.cls := ⟨mk_ca325, mk_tb (mk_sub10 (List.mem_of_getElem? (i := 162) rfl) rfl), mk_im325, mk_se325, _, rfl, rfl⟩
set_option maxRecDepth 100000 in
theorem mk_V311 : ms_callee mc_M 329 (2 - 1) ∧ Jvm.Cond.methodLink (mk_nm 14) 312 (mc_M 329).1 ∈ ms_tb ∧ Jvm.Cond.instanceMethod (mc_M 329).1 ∈ ms_tb ∧ Jvm.Cond.selects (mc_M 329).1.cls (mc_M 329).1 (mc_M 329).1 ∈ ms_tb ∧ ∃ q, mt_cl[14]? = some q ∧ q.1 = (mc_M 329).1.cls := ⟨mk_ca329, mk_tb (mk_sub10 (List.mem_of_getElem? (i := 182) rfl) rfl), mk_im329, mk_se329, _, rfl, rfl⟩
set_option maxRecDepth 100000 in
theorem mk_V312 : ms_callee mc_M 300 (5 - 1) ∧ Jvm.Cond.methodLink (mk_nm 14) 315 (mc_M 300).1 ∈ ms_tb ∧ Jvm.Cond.instanceMethod (mc_M 300).1 ∈ ms_tb ∧ Jvm.Cond.selects (mc_M 300).1.cls (mc_M 300).1 (mc_M 300).1 ∈ ms_tb ∧ ∃ q, mt_cl[14]? = some q ∧ q.1 = (mc_M 300).1.cls := ⟨mk_ca300, mk_tb (mk_sub10 (List.mem_of_getElem? (i := 63) rfl) rfl), mk_im300, mk_se300, _, rfl, rfl⟩
set_option maxRecDepth 100000 in
theorem mk_V313 : ms_callee mc_M 309 (1 - 1) ∧ Jvm.Cond.methodLink (mk_nm 14) 319 (mc_M 309).1 ∈ ms_tb ∧ Jvm.Cond.instanceMethod (mc_M 309).1 ∈ ms_tb ∧ Jvm.Cond.selects (mc_M 309).1.cls (mc_M 309).1 (mc_M 309).1 ∈ ms_tb ∧ ∃ q, mt_cl[14]? = some q ∧ q.1 = (mc_M 309).1.cls := ⟨mk_ca309, mk_tb (mk_sub10 (List.mem_of_getElem? (i := 67) rfl) rfl), mk_im309, mk_se309, _, rfl, rfl⟩
set_option maxRecDepth 100000 in
theorem mk_V314 : ms_callee mc_M 328 (1 - 1) ∧ Jvm.Cond.methodLink (mk_nm 14) 322 (mc_M 328).1 ∈ ms_tb ∧ Jvm.Cond.instanceMethod (mc_M 328).1 ∈ ms_tb ∧ Jvm.Cond.selects (mc_M 328).1.cls (mc_M 328).1 (mc_M 328).1 ∈ ms_tb ∧ ∃ q, mt_cl[14]? = some q ∧ q.1 = (mc_M 328).1.cls := ⟨mk_ca328, mk_tb (mk_sub10 (List.mem_of_getElem? (i := 102) rfl) rfl), mk_im328, mk_se328, _, rfl, rfl⟩
set_option maxRecDepth 100000 in
theorem mk_V315 : ms_callee mc_M 330 (2 - 1) ∧ Jvm.Cond.methodLink (mk_nm 14) 325 (mc_M 330).1 ∈ ms_tb ∧ Jvm.Cond.instanceMethod (mc_M 330).1 ∈ ms_tb ∧ Jvm.Cond.selects (mc_M 330).1.cls (mc_M 330).1 (mc_M 330).1 ∈ ms_tb ∧ ∃ q, mt_cl[14]? = some q ∧ q.1 = (mc_M 330).1.cls := ⟨mk_ca330, mk_tb (mk_sub10 (List.mem_of_getElem? (i := 178) rfl) rfl), mk_im330, mk_se330, _, rfl, rfl⟩
set_option maxRecDepth 100000 in
theorem mk_V316 : ms_callee mc_M 345 (1 - 1) ∧ Jvm.Cond.methodLink (mk_nm 14) 334 (mc_M 345).1 ∈ ms_tb ∧ Jvm.Cond.instanceMethod (mc_M 345).1 ∈ ms_tb ∧ Jvm.Cond.selects (mc_M 345).1.cls (mc_M 345).1 (mc_M 345).1 ∈ ms_tb ∧ ∃ q, mt_cl[14]? = some q ∧ q.1 = (mc_M 345).1.cls := ⟨mk_ca345, mk_tb (mk_sub10 (List.mem_of_getElem? (i := 186) rfl) rfl), mk_im345, mk_se345, _, rfl, rfl⟩
set_option maxRecDepth 100000 in
theorem mk_V317 : ms_callee mc_M 270 (5 - 1) ∧ Jvm.Cond.methodLink (mk_nm 14) 337 (mc_M 270).1 ∈ ms_tb ∧ Jvm.Cond.instanceMethod (mc_M 270).1 ∈ ms_tb ∧ Jvm.Cond.selects (mc_M 270).1.cls (mc_M 270).1 (mc_M 270).1 ∈ ms_tb ∧ ∃ q, mt_cl[12]? = some q ∧ q.1 = (mc_M 270).1.cls := ⟨mk_ca270, mk_tb (mk_sub11 (List.mem_of_getElem? (i := 14) rfl) rfl), mk_im270, mk_se270, _, rfl, rfl⟩
set_option maxRecDepth 100000 in
theorem mk_V318 : ms_callee mc_M 273 (1 - 1) ∧ Jvm.Cond.methodLink (mk_nm 14) 341 (mc_M 273).1 ∈ ms_tb ∧ Jvm.Cond.instanceMethod (mc_M 273).1 ∈ ms_tb ∧ Jvm.Cond.selects (mc_M 273).1.cls (mc_M 273).1 (mc_M 273).1 ∈ ms_tb ∧ ∃ q, mt_cl[12]? = some q ∧ q.1 = (mc_M 273).1.cls := ⟨mk_ca273, mk_tb (mk_sub11 (List.mem_of_getElem? (i := 22) rfl) rfl), mk_im273, mk_se273, _, rfl, rfl⟩
set_option maxRecDepth 100000 in
theorem mk_V319 : ms_callee mc_M 333 (2 - 1) ∧ Jvm.Cond.methodLink (mk_nm 14) 348 (mc_M 333).1 ∈ ms_tb ∧ Jvm.Cond.instanceMethod (mc_M 333).1 ∈ ms_tb ∧ Jvm.Cond.selects (mc_M 333).1.cls (mc_M 333).1 (mc_M 333).1 ∈ ms_tb ∧ ∃ q, mt_cl[14]? = some q ∧ q.1 = (mc_M 333).1.cls := ⟨mk_ca333, mk_tb (mk_sub10 (List.mem_of_getElem? (i := 190) rfl) rfl), mk_im333, mk_se333, _, rfl, rfl⟩
set_option maxRecDepth 100000 in
theorem mk_V320 : ms_callee mc_M 337 (2 - 1) ∧ Jvm.Cond.methodLink (mk_nm 14) 351 (mc_M 337).1 ∈ ms_tb ∧ Jvm.Cond.instanceMethod (mc_M 337).1 ∈ ms_tb ∧ Jvm.Cond.selects (mc_M 337).1.cls (mc_M 337).1 (mc_M 337).1 ∈ ms_tb ∧ ∃ q, mt_cl[14]? = some q ∧ q.1 = (mc_M 337).1.cls := ⟨mk_ca337, mk_tb (mk_sub10 (List.mem_of_getElem? (i := 198) rfl) rfl), mk_im337, mk_se337, _, rfl, rfl⟩
set_option maxRecDepth 100000 in
theorem mk_V321 : ms_callee mc_M 336 (2 - 1) ∧ Jvm.Cond.methodLink (mk_nm 14) 354 (mc_M 336).1 ∈ ms_tb ∧ Jvm.Cond.instanceMethod (mc_M 336).1 ∈ ms_tb ∧ Jvm.Cond.selects (mc_M 336).1.cls (mc_M 336).1 (mc_M 336).1 ∈ ms_tb ∧ ∃ q, mt_cl[14]? = some q ∧ q.1 = (mc_M 336).1.cls := ⟨mk_ca336, mk_tb (mk_sub11 (List.mem_of_getElem? (i := 10) rfl) rfl), mk_im336, mk_se336, _, rfl, rfl⟩
set_option maxRecDepth 100000 in
theorem mk_V322 : ms_callee mc_M 340 (2 - 1) ∧ Jvm.Cond.methodLink (mk_nm 14) 363 (mc_M 340).1 ∈ ms_tb ∧ Jvm.Cond.instanceMethod (mc_M 340).1 ∈ ms_tb ∧ Jvm.Cond.selects (mc_M 340).1.cls (mc_M 340).1 (mc_M 340).1 ∈ ms_tb ∧ ∃ q, mt_cl[14]? = some q ∧ q.1 = (mc_M 340).1.cls := ⟨mk_ca340, mk_tb (mk_sub10 (List.mem_of_getElem? (i := 226) rfl) rfl), mk_im340, mk_se340, _, rfl, rfl⟩
set_option maxRecDepth 100000 in
theorem mk_V323 : ms_callee mc_M 335 (3 - 1) ∧ Jvm.Cond.methodLink (mk_nm 14) 366 (mc_M 335).1 ∈ ms_tb ∧ Jvm.Cond.instanceMethod (mc_M 335).1 ∈ ms_tb ∧ Jvm.Cond.selects (mc_M 335).1.cls (mc_M 335).1 (mc_M 335).1 ∈ ms_tb ∧ ∃ q, mt_cl[14]? = some q ∧ q.1 = (mc_M 335).1.cls := ⟨mk_ca335, mk_tb (mk_sub10 (List.mem_of_getElem? (i := 194) rfl) rfl), mk_im335, mk_se335, _, rfl, rfl⟩
set_option maxRecDepth 100000 in
theorem mk_V324 : ms_callee mc_M 341 (3 - 1) ∧ Jvm.Cond.methodLink (mk_nm 14) 369 (mc_M 341).1 ∈ ms_tb ∧ Jvm.Cond.instanceMethod (mc_M 341).1 ∈ ms_tb ∧ Jvm.Cond.selects (mc_M 341).1.cls (mc_M 341).1 (mc_M 341).1 ∈ ms_tb ∧ ∃ q, mt_cl[14]? = some q ∧ q.1 = (mc_M 341).1.cls := ⟨mk_ca341, mk_tb (mk_sub10 (List.mem_of_getElem? (i := 222) rfl) rfl), mk_im341, mk_se341, _, rfl, rfl⟩
set_option maxRecDepth 100000 in
theorem mk_V325 : ms_callee mc_M 346 (5 - 1) ∧ Jvm.Cond.methodLink (mk_nm 14) 382 (mc_M 346).1 ∈ ms_tb ∧ Jvm.Cond.instanceMethod (mc_M 346).1 ∈ ms_tb ∧ Jvm.Cond.selects (mc_M 346).1.cls (mc_M 346).1 (mc_M 346).1 ∈ ms_tb ∧ ∃ q, mt_cl[14]? = some q ∧ q.1 = (mc_M 346).1.cls := ⟨mk_ca346, mk_tb (mk_sub10 (List.mem_of_getElem? (i := 202) rfl) rfl), mk_im346, mk_se346, _, rfl, rfl⟩
set_option maxRecDepth 100000 in
theorem mk_V326 : ms_callee mc_M 347 (6 - 1) ∧ Jvm.Cond.methodLink (mk_nm 14) 385 (mc_M 347).1 ∈ ms_tb ∧ Jvm.Cond.instanceMethod (mc_M 347).1 ∈ ms_tb ∧ Jvm.Cond.selects (mc_M 347).1.cls (mc_M 347).1 (mc_M 347).1 ∈ ms_tb ∧ ∃ q, mt_cl[14]? = some q ∧ q.1 = (mc_M 347).1.cls := ⟨mk_ca347, mk_tb (mk_sub10 (List.mem_of_getElem? (i := 206) rfl) rfl), mk_im347, mk_se347, _, rfl, rfl⟩
set_option maxRecDepth 100000 in
theorem mk_V327 : ms_callee mc_M 343 (3 - 1) ∧ Jvm.Cond.methodLink (mk_nm 14) 388 (mc_M 343).1 ∈ ms_tb ∧ Jvm.Cond.instanceMethod (mc_M 343).1 ∈ ms_tb ∧ Jvm.Cond.selects (mc_M 343).1.cls (mc_M 343).1 (mc_M 343).1 ∈ ms_tb ∧ ∃ q, mt_cl[14]? = some q ∧ q.1 = (mc_M 343).1.cls := ⟨mk_ca343, mk_tb (mk_sub10 (List.mem_of_getElem? (i := 210) rfl) rfl), mk_im343, mk_se343, _, rfl, rfl⟩
set_option maxRecDepth 100000 in
theorem mk_V328 : ms_callee mc_M 334 (2 - 1) ∧ Jvm.Cond.methodLink (mk_nm 14) 391 (mc_M 334).1 ∈ ms_tb ∧ Jvm.Cond.instanceMethod (mc_M 334).1 ∈ ms_tb ∧ Jvm.Cond.selects (mc_M 334).1.cls (mc_M 334).1 (mc_M 334).1 ∈ ms_tb ∧ ∃ q, mt_cl[14]? = some q ∧ q.1 = (mc_M 334).1.cls := ⟨mk_ca334, mk_tb (mk_sub10 (List.mem_of_getElem? (i := 214) rfl) rfl), mk_im334, mk_se334, _, rfl, rfl⟩
set_option maxRecDepth 100000 in
theorem mk_V329 : ms_callee mc_M 342 (2 - 1) ∧ Jvm.Cond.methodLink (mk_nm 14) 394 (mc_M 342).1 ∈ ms_tb ∧ Jvm.Cond.instanceMethod (mc_M 342).1 ∈ ms_tb ∧ Jvm.Cond.selects (mc_M 342).1.cls (mc_M 342).1 (mc_M 342).1 ∈ ms_tb ∧ ∃ q, mt_cl[14]? = some q ∧ q.1 = (mc_M 342).1.cls := ⟨mk_ca342, mk_tb (mk_sub10 (List.mem_of_getElem? (i := 218) rfl) rfl), mk_im342, mk_se342, _, rfl, rfl⟩
set_option maxRecDepth 100000 in
theorem mk_V330 : ms_callee mc_M 344 (5 - 1) ∧ Jvm.Cond.methodLink (mk_nm 14) 397 (mc_M 344).1 ∈ ms_tb ∧ Jvm.Cond.instanceMethod (mc_M 344).1 ∈ ms_tb ∧ Jvm.Cond.selects (mc_M 344).1.cls (mc_M 344).1 (mc_M 344).1 ∈ ms_tb ∧ ∃ q, mt_cl[14]? = some q ∧ q.1 = (mc_M 344).1.cls := ⟨mk_ca344, mk_tb (mk_sub10 (List.mem_of_getElem? (i := 230) rfl) rfl), mk_im344, mk_se344, _, rfl, rfl⟩
set_option maxRecDepth 100000 in
theorem mk_V331 : ms_callee mc_M 348 (3 - 1) ∧ Jvm.Cond.methodLink (mk_nm 14) 400 (mc_M 348).1 ∈ ms_tb ∧ Jvm.Cond.instanceMethod (mc_M 348).1 ∈ ms_tb ∧ Jvm.Cond.selects (mc_M 348).1.cls (mc_M 348).1 (mc_M 348).1 ∈ ms_tb ∧ ∃ q, mt_cl[14]? = some q ∧ q.1 = (mc_M 348).1.cls := ⟨mk_ca348, mk_tb (mk_sub10 (List.mem_of_getElem? (i := 234) rfl) rfl), mk_im348, mk_se348, _, rfl, rfl⟩
set_option maxRecDepth 100000 in
theorem mk_V332 : ms_callee mc_M 349 (2 - 1) ∧ Jvm.Cond.methodLink (mk_nm 14) 403 (mc_M 349).1 ∈ ms_tb ∧ Jvm.Cond.instanceMethod (mc_M 349).1 ∈ ms_tb ∧ Jvm.Cond.selects (mc_M 349).1.cls (mc_M 349).1 (mc_M 349).1 ∈ ms_tb ∧ ∃ q, mt_cl[14]? = some q ∧ q.1 = (mc_M 349).1.cls := ⟨mk_ca349, mk_tb (mk_sub10 (List.mem_of_getElem? (i := 238) rfl) rfl), mk_im349, mk_se349, _, rfl, rfl⟩
set_option maxRecDepth 100000 in
theorem mk_V333 : ms_callee mc_M 339 (3 - 1) ∧ Jvm.Cond.methodLink (mk_nm 14) 406 (mc_M 339).1 ∈ ms_tb ∧ Jvm.Cond.instanceMethod (mc_M 339).1 ∈ ms_tb ∧ Jvm.Cond.selects (mc_M 339).1.cls (mc_M 339).1 (mc_M 339).1 ∈ ms_tb ∧ ∃ q, mt_cl[14]? = some q ∧ q.1 = (mc_M 339).1.cls := ⟨mk_ca339, mk_tb (mk_sub11 (List.mem_of_getElem? (i := 2) rfl) rfl), mk_im339, mk_se339, _, rfl, rfl⟩
set_option maxRecDepth 100000 in
theorem mk_V334 : ms_callee mc_M 338 (2 - 1) ∧ Jvm.Cond.methodLink (mk_nm 14) 409 (mc_M 338).1 ∈ ms_tb ∧ Jvm.Cond.instanceMethod (mc_M 338).1 ∈ ms_tb ∧ Jvm.Cond.selects (mc_M 338).1.cls (mc_M 338).1 (mc_M 338).1 ∈ ms_tb ∧ ∃ q, mt_cl[14]? = some q ∧ q.1 = (mc_M 338).1.cls := ⟨mk_ca338, mk_tb (mk_sub11 (List.mem_of_getElem? (i := 6) rfl) rfl), mk_im338, mk_se338, _, rfl, rfl⟩
set_option maxRecDepth 100000 in
theorem mk_V335 : ms_callee mc_M 356 (2 - 1) ∧ Jvm.Cond.methodLink (mk_nm 14) 432 (mc_M 356).1 ∈ ms_tb ∧ Jvm.Cond.instanceMethod (mc_M 356).1 ∈ ms_tb ∧ Jvm.Cond.selects (mc_M 356).1.cls (mc_M 356).1 (mc_M 356).1 ∈ ms_tb ∧ ∃ q, mt_cl[14]? = some q ∧ q.1 = (mc_M 356).1.cls := ⟨mk_ca356, mk_tb (mk_sub12 (List.mem_of_getElem? (i := 100) rfl) rfl), mk_im356, mk_se356, _, rfl, rfl⟩
set_option maxRecDepth 100000 in
theorem mk_V336 : ms_callee mc_M 360 (2 - 1) ∧ Jvm.Cond.methodLink (mk_nm 14) 439 (mc_M 360).1 ∈ ms_tb ∧ Jvm.Cond.instanceMethod (mc_M 360).1 ∈ ms_tb ∧ Jvm.Cond.selects (mc_M 360).1.cls (mc_M 360).1 (mc_M 360).1 ∈ ms_tb ∧ ∃ q, mt_cl[14]? = some q ∧ q.1 = (mc_M 360).1.cls := ⟨mk_ca360, mk_tb (mk_sub12 (List.mem_of_getElem? (i := 88) rfl) rfl), mk_im360, mk_se360, _, rfl, rfl⟩
set_option maxRecDepth 100000 in
theorem mk_V337 : ms_callee mc_M 355 (2 - 1) ∧ Jvm.Cond.methodLink (mk_nm 14) 442 (mc_M 355).1 ∈ ms_tb ∧ Jvm.Cond.instanceMethod (mc_M 355).1 ∈ ms_tb ∧ Jvm.Cond.selects (mc_M 355).1.cls (mc_M 355).1 (mc_M 355).1 ∈ ms_tb ∧ ∃ q, mt_cl[14]? = some q ∧ q.1 = (mc_M 355).1.cls := ⟨mk_ca355, mk_tb (mk_sub12 (List.mem_of_getElem? (i := 92) rfl) rfl), mk_im355, mk_se355, _, rfl, rfl⟩
set_option maxRecDepth 100000 in
theorem mk_V338 : ms_callee mc_M 359 (3 - 1) ∧ Jvm.Cond.methodLink (mk_nm 14) 445 (mc_M 359).1 ∈ ms_tb ∧ Jvm.Cond.instanceMethod (mc_M 359).1 ∈ ms_tb ∧ Jvm.Cond.selects (mc_M 359).1.cls (mc_M 359).1 (mc_M 359).1 ∈ ms_tb ∧ ∃ q, mt_cl[14]? = some q ∧ q.1 = (mc_M 359).1.cls := ⟨mk_ca359, mk_tb (mk_sub12 (List.mem_of_getElem? (i := 96) rfl) rfl), mk_im359, mk_se359, _, rfl, rfl⟩
set_option maxRecDepth 100000 in
theorem mk_V339 : ms_callee mc_M 357 (2 - 1) ∧ Jvm.Cond.methodLink (mk_nm 14) 447 (mc_M 357).1 ∈ ms_tb ∧ Jvm.Cond.instanceMethod (mc_M 357).1 ∈ ms_tb ∧ Jvm.Cond.selects (mc_M 357).1.cls (mc_M 357).1 (mc_M 357).1 ∈ ms_tb ∧ ∃ q, mt_cl[14]? = some q ∧ q.1 = (mc_M 357).1.cls := ⟨mk_ca357, mk_tb (mk_sub12 (List.mem_of_getElem? (i := 104) rfl) rfl), mk_im357, mk_se357, _, rfl, rfl⟩
set_option maxRecDepth 100000 in
theorem mk_V340 : ms_callee mc_M 358 (1 - 1) ∧ Jvm.Cond.methodLink (mk_nm 14) 450 (mc_M 358).1 ∈ ms_tb ∧ Jvm.Cond.instanceMethod (mc_M 358).1 ∈ ms_tb ∧ Jvm.Cond.selects (mc_M 358).1.cls (mc_M 358).1 (mc_M 358).1 ∈ ms_tb ∧ ∃ q, mt_cl[14]? = some q ∧ q.1 = (mc_M 358).1.cls := ⟨mk_ca358, mk_tb (mk_sub12 (List.mem_of_getElem? (i := 109) rfl) rfl), mk_im358, mk_se358, _, rfl, rfl⟩
set_option maxRecDepth 100000 in
theorem mk_V341 : ms_callee mc_M 361 (4 - 1) ∧ Jvm.Cond.methodLink (mk_nm 14) 453 (mc_M 361).1 ∈ ms_tb ∧ Jvm.Cond.instanceMethod (mc_M 361).1 ∈ ms_tb ∧ Jvm.Cond.selects (mc_M 361).1.cls (mc_M 361).1 (mc_M 361).1 ∈ ms_tb ∧ ∃ q, mt_cl[14]? = some q ∧ q.1 = (mc_M 361).1.cls := ⟨mk_ca361, mk_tb (mk_sub12 (List.mem_of_getElem? (i := 113) rfl) rfl), mk_im361, mk_se361, _, rfl, rfl⟩
set_option maxRecDepth 100000 in
theorem mk_V342 : ms_callee mc_M 362 (2 - 1) ∧ Jvm.Cond.methodLink (mk_nm 14) 457 (mc_M 362).1 ∈ ms_tb ∧ Jvm.Cond.instanceMethod (mc_M 362).1 ∈ ms_tb ∧ Jvm.Cond.selects (mc_M 362).1.cls (mc_M 362).1 (mc_M 362).1 ∈ ms_tb ∧ ∃ q, mt_cl[14]? = some q ∧ q.1 = (mc_M 362).1.cls := ⟨mk_ca362, mk_tb (mk_sub12 (List.mem_of_getElem? (i := 121) rfl) rfl), mk_im362, mk_se362, _, rfl, rfl⟩
set_option maxRecDepth 100000 in
theorem mk_V343 : ms_callee mc_M 351 (2 - 1) ∧ Jvm.Cond.methodLink (mk_nm 14) 460 (mc_M 351).1 ∈ ms_tb ∧ Jvm.Cond.instanceMethod (mc_M 351).1 ∈ ms_tb ∧ Jvm.Cond.selects (mc_M 351).1.cls (mc_M 351).1 (mc_M 351).1 ∈ ms_tb ∧ ∃ q, mt_cl[14]? = some q ∧ q.1 = (mc_M 351).1.cls := ⟨mk_ca351, mk_tb (mk_sub12 (List.mem_of_getElem? (i := 117) rfl) rfl), mk_im351, mk_se351, _, rfl, rfl⟩
set_option maxRecDepth 100000 in
theorem mk_V344 : ms_callee mc_M 365 (2 - 1) ∧ Jvm.Cond.methodLink (mk_nm 14) 463 (mc_M 365).1 ∈ ms_tb ∧ Jvm.Cond.instanceMethod (mc_M 365).1 ∈ ms_tb ∧ Jvm.Cond.selects (mc_M 365).1.cls (mc_M 365).1 (mc_M 365).1 ∈ ms_tb ∧ ∃ q, mt_cl[14]? = some q ∧ q.1 = (mc_M 365).1.cls := ⟨mk_ca365, mk_tb (mk_sub12 (List.mem_of_getElem? (i := 125) rfl) rfl), mk_im365, mk_se365, _, rfl, rfl⟩
set_option maxRecDepth 100000 in
theorem mk_V345 : ms_callee mc_M 363 (2 - 1) ∧ Jvm.Cond.methodLink (mk_nm 14) 466 (mc_M 363).1 ∈ ms_tb ∧ Jvm.Cond.instanceMethod (mc_M 363).1 ∈ ms_tb ∧ Jvm.Cond.selects (mc_M 363).1.cls (mc_M 363).1 (mc_M 363).1 ∈ ms_tb ∧ ∃ q, mt_cl[14]? = some q ∧ q.1 = (mc_M 363).1.cls := ⟨mk_ca363, mk_tb (mk_sub12 (List.mem_of_getElem? (i := 129) rfl) rfl), mk_im363, mk_se363, _, rfl, rfl⟩
set_option maxRecDepth 100000 in
theorem mk_V346 : ms_callee mc_M 275 (1 - 1) ∧ Jvm.Cond.methodLink (mk_nm 14) 469 (mc_M 275).1 ∈ ms_tb ∧ Jvm.Cond.instanceMethod (mc_M 275).1 ∈ ms_tb ∧ Jvm.Cond.selects (mc_M 275).1.cls (mc_M 275).1 (mc_M 275).1 ∈ ms_tb ∧ ∃ q, mt_cl[12]? = some q ∧ q.1 = (mc_M 275).1.cls := ⟨mk_ca275, mk_tb (mk_sub12 (List.mem_of_getElem? (i := 69) rfl) rfl), mk_im275, mk_se275, _, rfl, rfl⟩
set_option maxRecDepth 100000 in
theorem mk_V347 : ms_callee mc_M 367 (1 - 1) ∧ Jvm.Cond.methodLink (mk_nm 14) 478 (mc_M 367).1 ∈ ms_tb ∧ Jvm.Cond.instanceMethod (mc_M 367).1 ∈ ms_tb ∧ Jvm.Cond.selects (mc_M 367).1.cls (mc_M 367).1 (mc_M 367).1 ∈ ms_tb ∧ ∃ q, mt_cl[14]? = some q ∧ q.1 = (mc_M 367).1.cls := ⟨mk_ca367, mk_tb (mk_sub12 (List.mem_of_getElem? (i := 73) rfl) rfl), mk_im367, mk_se367, _, rfl, rfl⟩
set_option maxRecDepth 100000 in
theorem mk_V348 : ms_callee mc_M 364 (1 - 1) ∧ Jvm.Cond.methodLink (mk_nm 14) 481 (mc_M 364).1 ∈ ms_tb ∧ Jvm.Cond.instanceMethod (mc_M 364).1 ∈ ms_tb ∧ Jvm.Cond.selects (mc_M 364).1.cls (mc_M 364).1 (mc_M 364).1 ∈ ms_tb ∧ ∃ q, mt_cl[14]? = some q ∧ q.1 = (mc_M 364).1.cls := ⟨mk_ca364, mk_tb (mk_sub12 (List.mem_of_getElem? (i := 84) rfl) rfl), mk_im364, mk_se364, _, rfl, rfl⟩
set_option maxRecDepth 100000 in
theorem mk_V349 : ms_callee mc_M 297 (3 - 1) ∧ Jvm.Cond.methodLink (mk_nm 14) 489 (mc_M 297).1 ∈ ms_tb ∧ Jvm.Cond.instanceMethod (mc_M 297).1 ∈ ms_tb ∧ Jvm.Cond.selects (mc_M 297).1.cls (mc_M 297).1 (mc_M 297).1 ∈ ms_tb ∧ ∃ q, mt_cl[13]? = some q ∧ q.1 = (mc_M 297).1.cls := ⟨mk_ca297, mk_tb (mk_sub12 (List.mem_of_getElem? (i := 77) rfl) rfl), mk_im297, mk_se297, _, rfl, rfl⟩
set_option maxRecDepth 100000 in
theorem mk_V350 : ms_callee mc_M 373 (2 - 1) ∧ Jvm.Cond.methodLink (mk_nm 14) 493 (mc_M 373).1 ∈ ms_tb ∧ Jvm.Cond.instanceMethod (mc_M 373).1 ∈ ms_tb ∧ Jvm.Cond.selects (mc_M 373).1.cls (mc_M 373).1 (mc_M 373).1 ∈ ms_tb ∧ ∃ q, mt_cl[14]? = some q ∧ q.1 = (mc_M 373).1.cls := ⟨mk_ca373, mk_tb (mk_sub12 (List.mem_of_getElem? (i := 158) rfl) rfl), mk_im373, mk_se373, _, rfl, rfl⟩
set_option maxRecDepth 100000 in
theorem mk_V351 : ms_callee mc_M 375 (6 - 1) ∧ Jvm.Cond.methodLink (mk_nm 14) 499 (mc_M 375).1 ∈ ms_tb ∧ Jvm.Cond.instanceMethod (mc_M 375).1 ∈ ms_tb ∧ Jvm.Cond.selects (mc_M 375).1.cls (mc_M 375).1 (mc_M 375).1 ∈ ms_tb ∧ ∃ q, mt_cl[14]? = some q ∧ q.1 = (mc_M 375).1.cls := ⟨mk_ca375, mk_tb (mk_sub12 (List.mem_of_getElem? (i := 154) rfl) rfl), mk_im375, mk_se375, _, rfl, rfl⟩
set_option maxRecDepth 100000 in
theorem mk_V352 : ms_callee mc_M 372 (3 - 1) ∧ Jvm.Cond.methodLink (mk_nm 14) 503 (mc_M 372).1 ∈ ms_tb ∧ Jvm.Cond.instanceMethod (mc_M 372).1 ∈ ms_tb ∧ Jvm.Cond.selects (mc_M 372).1.cls (mc_M 372).1 (mc_M 372).1 ∈ ms_tb ∧ ∃ q, mt_cl[14]? = some q ∧ q.1 = (mc_M 372).1.cls := ⟨mk_ca372, mk_tb (mk_sub12 (List.mem_of_getElem? (i := 165) rfl) rfl), mk_im372, mk_se372, _, rfl, rfl⟩
set_option maxRecDepth 100000 in
theorem mk_V353 : ms_callee mc_M 282 (3 - 1) ∧ Jvm.Cond.methodLink (mk_nm 14) 511 (mc_M 282).1 ∈ ms_tb ∧ Jvm.Cond.instanceMethod (mc_M 282).1 ∈ ms_tb ∧ Jvm.Cond.selects (mc_M 282).1.cls (mc_M 282).1 (mc_M 282).1 ∈ ms_tb ∧ ∃ q, mt_cl[13]? = some q ∧ q.1 = (mc_M 282).1.cls := ⟨mk_ca282, mk_tb (mk_sub12 (List.mem_of_getElem? (i := 173) rfl) rfl), mk_im282, mk_se282, _, rfl, rfl⟩
set_option maxRecDepth 100000 in
theorem mk_V354 : ms_callee mc_M 281 (2 - 1) ∧ Jvm.Cond.methodLink (mk_nm 14) 521 (mc_M 281).1 ∈ ms_tb ∧ Jvm.Cond.instanceMethod (mc_M 281).1 ∈ ms_tb ∧ Jvm.Cond.selects (mc_M 281).1.cls (mc_M 281).1 (mc_M 281).1 ∈ ms_tb ∧ ∃ q, mt_cl[13]? = some q ∧ q.1 = (mc_M 281).1.cls := ⟨mk_ca281, mk_tb (mk_sub12 (List.mem_of_getElem? (i := 182) rfl) rfl), mk_im281, mk_se281, _, rfl, rfl⟩
set_option maxRecDepth 100000 in
theorem mk_V355 : ms_callee mc_M 285 (4 - 1) ∧ Jvm.Cond.methodLink (mk_nm 14) 533 (mc_M 285).1 ∈ ms_tb ∧ Jvm.Cond.instanceMethod (mc_M 285).1 ∈ ms_tb ∧ Jvm.Cond.selects (mc_M 285).1.cls (mc_M 285).1 (mc_M 285).1 ∈ ms_tb ∧ ∃ q, mt_cl[13]? = some q ∧ q.1 = (mc_M 285).1.cls := ⟨mk_ca285, mk_tb (mk_sub12 (List.mem_of_getElem? (i := 186) rfl) rfl), mk_im285, mk_se285, _, rfl, rfl⟩
set_option maxRecDepth 100000 in
theorem mk_V356 : ms_callee mc_M 286 (1 - 1) ∧ Jvm.Cond.methodLink (mk_nm 14) 537 (mc_M 286).1 ∈ ms_tb ∧ Jvm.Cond.instanceMethod (mc_M 286).1 ∈ ms_tb ∧ Jvm.Cond.selects (mc_M 286).1.cls (mc_M 286).1 (mc_M 286).1 ∈ ms_tb ∧ ∃ q, mt_cl[13]? = some q ∧ q.1 = (mc_M 286).1.cls := ⟨mk_ca286, mk_tb (mk_sub12 (List.mem_of_getElem? (i := 187) rfl) rfl), mk_im286, mk_se286, _, rfl, rfl⟩
set_option maxRecDepth 100000 in
theorem mk_V357 : ms_callee mc_M 294 (2 - 1) ∧ Jvm.Cond.methodLink (mk_nm 14) 540 (mc_M 294).1 ∈ ms_tb ∧ Jvm.Cond.instanceMethod (mc_M 294).1 ∈ ms_tb ∧ Jvm.Cond.selects (mc_M 294).1.cls (mc_M 294).1 (mc_M 294).1 ∈ ms_tb ∧ ∃ q, mt_cl[13]? = some q ∧ q.1 = (mc_M 294).1.cls := ⟨mk_ca294, mk_tb (mk_sub12 (List.mem_of_getElem? (i := 188) rfl) rfl), mk_im294, mk_se294, _, rfl, rfl⟩
set_option maxRecDepth 100000 in
theorem mk_V358 : ms_callee mc_M 274 (1 - 1) ∧ Jvm.Cond.methodLink (mk_nm 14) 544 (mc_M 274).1 ∈ ms_tb ∧ Jvm.Cond.instanceMethod (mc_M 274).1 ∈ ms_tb ∧ Jvm.Cond.selects (mc_M 274).1.cls (mc_M 274).1 (mc_M 274).1 ∈ ms_tb ∧ ∃ q, mt_cl[12]? = some q ∧ q.1 = (mc_M 274).1.cls := ⟨mk_ca274, mk_tb (mk_sub12 (List.mem_of_getElem? (i := 201) rfl) rfl), mk_im274, mk_se274, _, rfl, rfl⟩
set_option maxRecDepth 100000 in
theorem mk_V359 : ms_callee mc_M 385 (2 - 1) ∧ Jvm.Cond.methodLink (mk_nm 14) 547 (mc_M 385).1 ∈ ms_tb ∧ Jvm.Cond.instanceMethod (mc_M 385).1 ∈ ms_tb ∧ Jvm.Cond.selects (mc_M 385).1.cls (mc_M 385).1 (mc_M 385).1 ∈ ms_tb ∧ ∃ q, mt_cl[14]? = some q ∧ q.1 = (mc_M 385).1.cls := ⟨mk_ca385, mk_tb (mk_sub12 (List.mem_of_getElem? (i := 215) rfl) rfl), mk_im385, mk_se385, _, rfl, rfl⟩
set_option maxRecDepth 100000 in
theorem mk_V360 : ms_callee mc_M 384 (2 - 1) ∧ Jvm.Cond.methodLink (mk_nm 14) 555 (mc_M 384).1 ∈ ms_tb ∧ Jvm.Cond.instanceMethod (mc_M 384).1 ∈ ms_tb ∧ Jvm.Cond.selects (mc_M 384).1.cls (mc_M 384).1 (mc_M 384).1 ∈ ms_tb ∧ ∃ q, mt_cl[14]? = some q ∧ q.1 = (mc_M 384).1.cls := ⟨mk_ca384, mk_tb (mk_sub12 (List.mem_of_getElem? (i := 211) rfl) rfl), mk_im384, mk_se384, _, rfl, rfl⟩
set_option maxRecDepth 100000 in
theorem mk_V361 : ms_callee mc_M 386 (1 - 1) ∧ Jvm.Cond.methodLink (mk_nm 14) 564 (mc_M 386).1 ∈ ms_tb ∧ Jvm.Cond.instanceMethod (mc_M 386).1 ∈ ms_tb ∧ Jvm.Cond.selects (mc_M 386).1.cls (mc_M 386).1 (mc_M 386).1 ∈ ms_tb ∧ ∃ q, mt_cl[14]? = some q ∧ q.1 = (mc_M 386).1.cls := ⟨mk_ca386, mk_tb (mk_sub12 (List.mem_of_getElem? (i := 219) rfl) rfl), mk_im386, mk_se386, _, rfl, rfl⟩
set_option maxRecDepth 100000 in
theorem mk_V362 : ms_callee mc_M 387 (2 - 1) ∧ Jvm.Cond.methodLink (mk_nm 14) 567 (mc_M 387).1 ∈ ms_tb ∧ Jvm.Cond.instanceMethod (mc_M 387).1 ∈ ms_tb ∧ Jvm.Cond.selects (mc_M 387).1.cls (mc_M 387).1 (mc_M 387).1 ∈ ms_tb ∧ ∃ q, mt_cl[14]? = some q ∧ q.1 = (mc_M 387).1.cls := ⟨mk_ca387, mk_tb (mk_sub12 (List.mem_of_getElem? (i := 224) rfl) rfl), mk_im387, mk_se387, _, rfl, rfl⟩
set_option maxRecDepth 100000 in
theorem mk_V363 : ms_callee mc_M 388 (2 - 1) ∧ Jvm.Cond.methodLink (mk_nm 14) 576 (mc_M 388).1 ∈ ms_tb ∧ Jvm.Cond.instanceMethod (mc_M 388).1 ∈ ms_tb ∧ Jvm.Cond.selects (mc_M 388).1.cls (mc_M 388).1 (mc_M 388).1 ∈ ms_tb ∧ ∃ q, mt_cl[14]? = some q ∧ q.1 = (mc_M 388).1.cls := ⟨mk_ca388, mk_tb (mk_sub12 (List.mem_of_getElem? (i := 230) rfl) rfl), mk_im388, mk_se388, _, rfl, rfl⟩
set_option maxRecDepth 100000 in
theorem mk_V364 : ms_callee mc_M 283 (2 - 1) ∧ Jvm.Cond.methodLink (mk_nm 14) 582 (mc_M 283).1 ∈ ms_tb ∧ Jvm.Cond.instanceMethod (mc_M 283).1 ∈ ms_tb ∧ Jvm.Cond.selects (mc_M 283).1.cls (mc_M 283).1 (mc_M 283).1 ∈ ms_tb ∧ ∃ q, mt_cl[13]? = some q ∧ q.1 = (mc_M 283).1.cls := ⟨mk_ca283, mk_tb (mk_sub12 (List.mem_of_getElem? (i := 229) rfl) rfl), mk_im283, mk_se283, _, rfl, rfl⟩
set_option maxRecDepth 100000 in
theorem mk_V365 : ms_callee mc_M 284 (2 - 1) ∧ Jvm.Cond.methodLink (mk_nm 14) 587 (mc_M 284).1 ∈ ms_tb ∧ Jvm.Cond.instanceMethod (mc_M 284).1 ∈ ms_tb ∧ Jvm.Cond.selects (mc_M 284).1.cls (mc_M 284).1 (mc_M 284).1 ∈ ms_tb ∧ ∃ q, mt_cl[13]? = some q ∧ q.1 = (mc_M 284).1.cls := ⟨mk_ca284, mk_tb (mk_sub12 (List.mem_of_getElem? (i := 239) rfl) rfl), mk_im284, mk_se284, _, rfl, rfl⟩
set_option maxRecDepth 100000 in
theorem mk_V366 : ms_callee mc_M 389 (5 - 1) ∧ Jvm.Cond.methodLink (mk_nm 14) 590 (mc_M 389).1 ∈ ms_tb ∧ Jvm.Cond.instanceMethod (mc_M 389).1 ∈ ms_tb ∧ Jvm.Cond.selects (mc_M 389).1.cls (mc_M 389).1 (mc_M 389).1 ∈ ms_tb ∧ ∃ q, mt_cl[14]? = some q ∧ q.1 = (mc_M 389).1.cls := ⟨mk_ca389, mk_tb (mk_sub13 (List.mem_of_getElem? (i := 0) rfl) rfl), mk_im389, mk_se389, _, rfl, rfl⟩
set_option maxRecDepth 100000 in
theorem mk_V367 : ms_callee mc_M 184 (6 - 1) ∧ Jvm.Cond.methodLink (mk_nm 19) 13 (mc_M 184).1 ∈ ms_tb ∧ Jvm.Cond.instanceMethod (mc_M 184).1 ∈ ms_tb ∧ Jvm.Cond.selects (mc_M 184).1.cls (mc_M 184).1 (mc_M 184).1 ∈ ms_tb ∧ ∃ q, mt_cl[11]? = some q ∧ q.1 = (mc_M 184).1.cls := ⟨mk_ca184, mk_tb (mk_sub5 (List.mem_of_getElem? (i := 16) rfl) rfl), mk_im184, mk_se184, _, rfl, rfl⟩
set_option maxRecDepth 100000 in
theorem mk_V368 : ms_callee mc_M 301 (6 - 1) ∧ Jvm.Cond.methodLink (mk_nm 19) 17 (mc_M 301).1 ∈ ms_tb ∧ Jvm.Cond.instanceMethod (mc_M 301).1 ∈ ms_tb ∧ Jvm.Cond.selects (mc_M 301).1.cls (mc_M 301).1 (mc_M 301).1 ∈ ms_tb ∧ ∃ q, mt_cl[14]? = some q ∧ q.1 = (mc_M 301).1.cls := ⟨mk_ca301, mk_tb (mk_sub10 (List.mem_of_getElem? (i := 55) rfl) rfl), mk_im301, mk_se301, _, rfl, rfl⟩
set_option maxRecDepth 100000 in
theorem mk_V369 : ms_callee mc_M 186 (2 - 1) ∧ Jvm.Cond.methodLink (mk_nm 19) 18 (mc_M 186).1 ∈ ms_tb ∧ Jvm.Cond.instanceMethod (mc_M 186).1 ∈ ms_tb ∧ Jvm.Cond.selects (mc_M 186).1.cls (mc_M 186).1 (mc_M 186).1 ∈ ms_tb ∧ ∃ q, mt_cl[11]? = some q ∧ q.1 = (mc_M 186).1.cls := ⟨mk_ca186, mk_tb (mk_sub5 (List.mem_of_getElem? (i := 24) rfl) rfl), mk_im186, mk_se186, _, rfl, rfl⟩
set_option maxRecDepth 100000 in
theorem mk_V370 : ms_callee mc_M 331 (2 - 1) ∧ Jvm.Cond.methodLink (mk_nm 19) 22 (mc_M 331).1 ∈ ms_tb ∧ Jvm.Cond.instanceMethod (mc_M 331).1 ∈ ms_tb ∧ Jvm.Cond.selects (mc_M 331).1.cls (mc_M 331).1 (mc_M 331).1 ∈ ms_tb ∧ ∃ q, mt_cl[14]? = some q ∧ q.1 = (mc_M 331).1.cls := ⟨mk_ca331, mk_tb (mk_sub10 (List.mem_of_getElem? (i := 59) rfl) rfl), mk_im331, mk_se331, _, rfl, rfl⟩
set_option maxRecDepth 100000 in
theorem mk_V371 : ms_callee mc_M 189 (2 - 1) ∧ Jvm.Cond.methodLink (mk_nm 19) 23 (mc_M 189).1 ∈ ms_tb ∧ Jvm.Cond.instanceMethod (mc_M 189).1 ∈ ms_tb ∧ Jvm.Cond.selects (mc_M 189).1.cls (mc_M 189).1 (mc_M 189).1 ∈ ms_tb ∧ ∃ q, mt_cl[11]? = some q ∧ q.1 = (mc_M 189).1.cls := ⟨mk_ca189, mk_tb (mk_sub7 (List.mem_of_getElem? (i := 99) rfl) rfl), mk_im189, mk_se189, _, rfl, rfl⟩
set_option maxRecDepth 100000 in
theorem mk_V372 : ms_callee mc_M 332 (2 - 1) ∧ Jvm.Cond.methodLink (mk_nm 19) 26 (mc_M 332).1 ∈ ms_tb ∧ Jvm.Cond.instanceMethod (mc_M 332).1 ∈ ms_tb ∧ Jvm.Cond.selects (mc_M 332).1.cls (mc_M 332).1 (mc_M 332).1 ∈ ms_tb ∧ ∃ q, mt_cl[14]? = some q ∧ q.1 = (mc_M 332).1.cls := ⟨mk_ca332, mk_tb (mk_sub12 (List.mem_of_getElem? (i := 45) rfl) rfl), mk_im332, mk_se332, _, rfl, rfl⟩
set_option maxRecDepth 100000 in
theorem mk_V373 : ms_callee mc_M 190 (1 - 1) ∧ Jvm.Cond.methodLink (mk_nm 19) 27 (mc_M 190).1 ∈ ms_tb ∧ Jvm.Cond.instanceMethod (mc_M 190).1 ∈ ms_tb ∧ Jvm.Cond.selects (mc_M 190).1.cls (mc_M 190).1 (mc_M 190).1 ∈ ms_tb ∧ ∃ q, mt_cl[11]? = some q ∧ q.1 = (mc_M 190).1.cls := ⟨mk_ca190, mk_tb (mk_sub7 (List.mem_of_getElem? (i := 103) rfl) rfl), mk_im190, mk_se190, _, rfl, rfl⟩
set_option maxRecDepth 100000 in
theorem mk_V374 : ms_callee mc_M 350 (1 - 1) ∧ Jvm.Cond.methodLink (mk_nm 19) 31 (mc_M 350).1 ∈ ms_tb ∧ Jvm.Cond.instanceMethod (mc_M 350).1 ∈ ms_tb ∧ Jvm.Cond.selects (mc_M 350).1.cls (mc_M 350).1 (mc_M 350).1 ∈ ms_tb ∧ ∃ q, mt_cl[14]? = some q ∧ q.1 = (mc_M 350).1.cls := ⟨mk_ca350, mk_tb (mk_sub12 (List.mem_of_getElem? (i := 49) rfl) rfl), mk_im350, mk_se350, _, rfl, rfl⟩
set_option maxRecDepth 100000 in
theorem mk_V375 : ms_callee mc_M 191 (3 - 1) ∧ Jvm.Cond.methodLink (mk_nm 19) 32 (mc_M 191).1 ∈ ms_tb ∧ Jvm.Cond.instanceMethod (mc_M 191).1 ∈ ms_tb ∧ Jvm.Cond.selects (mc_M 191).1.cls (mc_M 191).1 (mc_M 191).1 ∈ ms_tb ∧ ∃ q, mt_cl[11]? = some q ∧ q.1 = (mc_M 191).1.cls := ⟨mk_ca191, mk_tb (mk_sub7 (List.mem_of_getElem? (i := 107) rfl) rfl), mk_im191, mk_se191, _, rfl, rfl⟩
set_option maxRecDepth 100000 in
theorem mk_V376 : ms_callee mc_M 352 (3 - 1) ∧ Jvm.Cond.methodLink (mk_nm 19) 36 (mc_M 352).1 ∈ ms_tb ∧ Jvm.Cond.instanceMethod (mc_M 352).1 ∈ ms_tb ∧ Jvm.Cond.selects (mc_M 352).1.cls (mc_M 352).1 (mc_M 352).1 ∈ ms_tb ∧ ∃ q, mt_cl[14]? = some q ∧ q.1 = (mc_M 352).1.cls := ⟨mk_ca352, mk_tb (mk_sub12 (List.mem_of_getElem? (i := 53) rfl) rfl), mk_im352, mk_se352, _, rfl, rfl⟩
set_option maxRecDepth 100000 in
theorem mk_V377 : ms_callee mc_M 196 (7 - 1) ∧ Jvm.Cond.methodLink (mk_nm 19) 37 (mc_M 196).1 ∈ ms_tb ∧ Jvm.Cond.instanceMethod (mc_M 196).1 ∈ ms_tb ∧ Jvm.Cond.selects (mc_M 196).1.cls (mc_M 196).1 (mc_M 196).1 ∈ ms_tb ∧ ∃ q, mt_cl[11]? = some q ∧ q.1 = (mc_M 196).1.cls := ⟨mk_ca196, mk_tb (mk_sub7 (List.mem_of_getElem? (i := 117) rfl) rfl), mk_im196, mk_se196, _, rfl, rfl⟩
set_option maxRecDepth 100000 in
theorem mk_V378 : ms_callee mc_M 377 (7 - 1) ∧ Jvm.Cond.methodLink (mk_nm 19) 41 (mc_M 377).1 ∈ ms_tb ∧ Jvm.Cond.instanceMethod (mc_M 377).1 ∈ ms_tb ∧ Jvm.Cond.selects (mc_M 377).1.cls (mc_M 377).1 (mc_M 377).1 ∈ ms_tb ∧ ∃ q, mt_cl[14]? = some q ∧ q.1 = (mc_M 377).1.cls := ⟨mk_ca377, mk_tb (mk_sub12 (List.mem_of_getElem? (i := 150) rfl) rfl), mk_im377, mk_se377, _, rfl, rfl⟩
set_option maxRecDepth 100000 in
theorem mk_V379 : ms_callee mc_M 198 (5 - 1) ∧ Jvm.Cond.methodLink (mk_nm 19) 42 (mc_M 198).1 ∈ ms_tb ∧ Jvm.Cond.instanceMethod (mc_M 198).1 ∈ ms_tb ∧ Jvm.Cond.selects (mc_M 198).1.cls (mc_M 198).1 (mc_M 198).1 ∈ ms_tb ∧ ∃ q, mt_cl[11]? = some q ∧ q.1 = (mc_M 198).1.cls := ⟨mk_ca198, mk_tb (mk_sub7 (List.mem_of_getElem? (i := 134) rfl) rfl), mk_im198, mk_se198, _, rfl, rfl⟩
set_option maxRecDepth 100000 in
theorem mk_V380 : ms_callee mc_M 378 (5 - 1) ∧ Jvm.Cond.methodLink (mk_nm 19) 46 (mc_M 378).1 ∈ ms_tb ∧ Jvm.Cond.instanceMethod (mc_M 378).1 ∈ ms_tb ∧ Jvm.Cond.selects (mc_M 378).1.cls (mc_M 378).1 (mc_M 378).1 ∈ ms_tb ∧ ∃ q, mt_cl[14]? = some q ∧ q.1 = (mc_M 378).1.cls := ⟨mk_ca378, mk_tb (mk_sub12 (List.mem_of_getElem? (i := 174) rfl) rfl), mk_im378, mk_se378, _, rfl, rfl⟩
set_option maxRecDepth 100000 in
theorem mk_V381 : ms_callee mc_M 199 (7 - 1) ∧ Jvm.Cond.methodLink (mk_nm 19) 49 (mc_M 199).1 ∈ ms_tb ∧ Jvm.Cond.instanceMethod (mc_M 199).1 ∈ ms_tb ∧ Jvm.Cond.selects (mc_M 199).1.cls (mc_M 199).1 (mc_M 199).1 ∈ ms_tb ∧ ∃ q, mt_cl[11]? = some q ∧ q.1 = (mc_M 199).1.cls := ⟨mk_ca199, mk_tb (mk_sub7 (List.mem_of_getElem? (i := 142) rfl) rfl), mk_im199, mk_se199, _, rfl, rfl⟩
set_option maxRecDepth 100000 in
theorem mk_V382 : ms_callee mc_M 379 (7 - 1) ∧ Jvm.Cond.methodLink (mk_nm 19) 53 (mc_M 379).1 ∈ ms_tb ∧ Jvm.Cond.instanceMethod (mc_M 379).1 ∈ ms_tb ∧ Jvm.Cond.selects (mc_M 379).1.cls (mc_M 379).1 (mc_M 379).1 ∈ ms_tb ∧ ∃ q, mt_cl[14]? = some q ∧ q.1 = (mc_M 379).1.cls := ⟨mk_ca379, mk_tb (mk_sub12 (List.mem_of_getElem? (i := 178) rfl) rfl), mk_im379, mk_se379, _, rfl, rfl⟩
set_option maxRecDepth 100000 in
theorem mk_V383 : ms_callee mc_M 200 (5 - 1) ∧ Jvm.Cond.methodLink (mk_nm 19) 54 (mc_M 200).1 ∈ ms_tb ∧ Jvm.Cond.instanceMethod (mc_M 200).1 ∈ ms_tb ∧ Jvm.Cond.selects (mc_M 200).1.cls (mc_M 200).1 (mc_M 200).1 ∈ ms_tb ∧ ∃ q, mt_cl[11]? = some q ∧ q.1 = (mc_M 200).1.cls := ⟨mk_ca200, mk_tb (mk_sub7 (List.mem_of_getElem? (i := 152) rfl) rfl), mk_im200, mk_se200, _, rfl, rfl⟩
set_option maxRecDepth 100000 in
theorem mk_V384 : ms_callee mc_M 380 (5 - 1) ∧ Jvm.Cond.methodLink (mk_nm 19) 58 (mc_M 380).1 ∈ ms_tb ∧ Jvm.Cond.instanceMethod (mc_M 380).1 ∈ ms_tb ∧ Jvm.Cond.selects (mc_M 380).1.cls (mc_M 380).1 (mc_M 380).1 ∈ ms_tb ∧ ∃ q, mt_cl[14]? = some q ∧ q.1 = (mc_M 380).1.cls := ⟨mk_ca380, mk_tb (mk_sub12 (List.mem_of_getElem? (i := 189) rfl) rfl), mk_im380, mk_se380, _, rfl, rfl⟩
set_option maxRecDepth 100000 in
theorem mk_V385 : ms_callee mc_M 201 (2 - 1) ∧ Jvm.Cond.methodLink (mk_nm 19) 59 (mc_M 201).1 ∈ ms_tb ∧ Jvm.Cond.instanceMethod (mc_M 201).1 ∈ ms_tb ∧ Jvm.Cond.selects (mc_M 201).1.cls (mc_M 201).1 (mc_M 201).1 ∈ ms_tb ∧ ∃ q, mt_cl[11]? = some q ∧ q.1 = (mc_M 201).1.cls := ⟨mk_ca201, mk_tb (mk_sub7 (List.mem_of_getElem? (i := 156) rfl) rfl), mk_im201, mk_se201, _, rfl, rfl⟩
set_option maxRecDepth 100000 in
theorem mk_V386 : ms_callee mc_M 381 (2 - 1) ∧ Jvm.Cond.methodLink (mk_nm 19) 62 (mc_M 381).1 ∈ ms_tb ∧ Jvm.Cond.instanceMethod (mc_M 381).1 ∈ ms_tb ∧ Jvm.Cond.selects (mc_M 381).1.cls (mc_M 381).1 (mc_M 381).1 ∈ ms_tb ∧ ∃ q, mt_cl[14]? = some q ∧ q.1 = (mc_M 381).1.cls := ⟨mk_ca381, mk_tb (mk_sub12 (List.mem_of_getElem? (i := 193) rfl) rfl), mk_im381, mk_se381, _, rfl, rfl⟩
set_option maxRecDepth 100000 in
theorem mk_V387 : ms_callee mc_M 202 (1 - 1) ∧ Jvm.Cond.methodLink (mk_nm 19) 63 (mc_M 202).1 ∈ ms_tb ∧ Jvm.Cond.instanceMethod (mc_M 202).1 ∈ ms_tb ∧ Jvm.Cond.selects (mc_M 202).1.cls (mc_M 202).1 (mc_M 202).1 ∈ ms_tb ∧ ∃ q, mt_cl[11]? = some q ∧ q.1 = (mc_M 202).1.cls := ⟨mk_ca202, mk_tb (mk_sub7 (List.mem_of_getElem? (i := 160) rfl) rfl), mk_im202, mk_se202, _, rfl, rfl⟩
set_option maxRecDepth 100000 in
theorem mk_V388 : ms_callee mc_M 382 (1 - 1) ∧ Jvm.Cond.methodLink (mk_nm 19) 66 (mc_M 382).1 ∈ ms_tb ∧ Jvm.Cond.instanceMethod (mc_M 382).1 ∈ ms_tb ∧ Jvm.Cond.selects (mc_M 382).1.cls (mc_M 382).1 (mc_M 382).1 ∈ ms_tb ∧ ∃ q, mt_cl[14]? = some q ∧ q.1 = (mc_M 382).1.cls := ⟨mk_ca382, mk_tb (mk_sub12 (List.mem_of_getElem? (i := 197) rfl) rfl), mk_im382, mk_se382, _, rfl, rfl⟩
set_option maxRecDepth 100000 in
theorem mk_V389 : ms_callee mc_M 203 (1 - 1) ∧ Jvm.Cond.methodLink (mk_nm 19) 67 (mc_M 203).1 ∈ ms_tb ∧ Jvm.Cond.instanceMethod (mc_M 203).1 ∈ ms_tb ∧ Jvm.Cond.selects (mc_M 203).1.cls (mc_M 203).1 (mc_M 203).1 ∈ ms_tb ∧ ∃ q, mt_cl[11]? = some q ∧ q.1 = (mc_M 203).1.cls := ⟨mk_ca203, mk_tb (mk_sub7 (List.mem_of_getElem? (i := 165) rfl) rfl), mk_im203, mk_se203, _, rfl, rfl⟩
set_option maxRecDepth 100000 in
theorem mk_V390 : ms_callee mc_M 383 (1 - 1) ∧ Jvm.Cond.methodLink (mk_nm 19) 70 (mc_M 383).1 ∈ ms_tb ∧ Jvm.Cond.instanceMethod (mc_M 383).1 ∈ ms_tb ∧ Jvm.Cond.selects (mc_M 383).1.cls (mc_M 383).1 (mc_M 383).1 ∈ ms_tb ∧ ∃ q, mt_cl[14]? = some q ∧ q.1 = (mc_M 383).1.cls := ⟨mk_ca383, mk_tb (mk_sub12 (List.mem_of_getElem? (i := 202) rfl) rfl), mk_im383, mk_se383, _, rfl, rfl⟩
set_option maxRecDepth 100000 in
theorem mk_V391 : ms_callee mc_M 206 (2 - 1) ∧ Jvm.Cond.methodLink (mk_nm 19) 71 (mc_M 206).1 ∈ ms_tb ∧ Jvm.Cond.instanceMethod (mc_M 206).1 ∈ ms_tb ∧ Jvm.Cond.selects (mc_M 206).1.cls (mc_M 206).1 (mc_M 206).1 ∈ ms_tb ∧ ∃ q, mt_cl[11]? = some q ∧ q.1 = (mc_M 206).1.cls := ⟨mk_ca206, mk_tb (mk_sub7 (List.mem_of_getElem? (i := 183) rfl) rfl), mk_im206, mk_se206, _, rfl, rfl⟩
set_option maxRecDepth 100000 in
theorem mk_V392 : ms_callee mc_M 353 (2 - 1) ∧ Jvm.Cond.methodLink (mk_nm 19) 74 (mc_M 353).1 ∈ ms_tb ∧ Jvm.Cond.instanceMethod (mc_M 353).1 ∈ ms_tb ∧ Jvm.Cond.selects (mc_M 353).1.cls (mc_M 353).1 (mc_M 353).1 ∈ ms_tb ∧ ∃ q, mt_cl[14]? = some q ∧ q.1 = (mc_M 353).1.cls := ⟨mk_ca353, mk_tb (mk_sub12 (List.mem_of_getElem? (i := 57) rfl) rfl), mk_im353, mk_se353, _, rfl, rfl⟩
set_option maxRecDepth 100000 in
theorem mk_V393 : ms_callee mc_M 207 (1 - 1) ∧ Jvm.Cond.methodLink (mk_nm 19) 75 (mc_M 207).1 ∈ ms_tb ∧ Jvm.Cond.instanceMethod (mc_M 207).1 ∈ ms_tb ∧ Jvm.Cond.selects (mc_M 207).1.cls (mc_M 207).1 (mc_M 207).1 ∈ ms_tb ∧ ∃ q, mt_cl[11]? = some q ∧ q.1 = (mc_M 207).1.cls := ⟨mk_ca207, mk_tb (mk_sub7 (List.mem_of_getElem? (i := 191) rfl) rfl), mk_im207, mk_se207, _, rfl, rfl⟩
set_option maxRecDepth 100000 in
theorem mk_V394 : ms_callee mc_M 354 (1 - 1) ∧ Jvm.Cond.methodLink (mk_nm 19) 78 (mc_M 354).1 ∈ ms_tb ∧ Jvm.Cond.instanceMethod (mc_M 354).1 ∈ ms_tb ∧ Jvm.Cond.selects (mc_M 354).1.cls (mc_M 354).1 (mc_M 354).1 ∈ ms_tb ∧ ∃ q, mt_cl[14]? = some q ∧ q.1 = (mc_M 354).1.cls := ⟨mk_ca354, mk_tb (mk_sub12 (List.mem_of_getElem? (i := 61) rfl) rfl), mk_im354, mk_se354, _, rfl, rfl⟩
set_option maxRecDepth 100000 in
theorem mk_V395 : ms_callee mc_M 208 (2 - 1) ∧ Jvm.Cond.methodLink (mk_nm 19) 79 (mc_M 208).1 ∈ ms_tb ∧ Jvm.Cond.instanceMethod (mc_M 208).1 ∈ ms_tb ∧ Jvm.Cond.selects (mc_M 208).1.cls (mc_M 208).1 (mc_M 208).1 ∈ ms_tb ∧ ∃ q, mt_cl[11]? = some q ∧ q.1 = (mc_M 208).1.cls := ⟨mk_ca208, mk_tb (mk_sub7 (List.mem_of_getElem? (i := 195) rfl) rfl), mk_im208, mk_se208, _, rfl, rfl⟩
set_option maxRecDepth 100000 in
theorem mk_V396 : ms_callee mc_M 366 (2 - 1) ∧ Jvm.Cond.methodLink (mk_nm 19) 82 (mc_M 366).1 ∈ ms_tb ∧ Jvm.Cond.instanceMethod (mc_M 366).1 ∈ ms_tb ∧ Jvm.Cond.selects (mc_M 366).1.cls (mc_M 366).1 (mc_M 366).1 ∈ ms_tb ∧ ∃ q, mt_cl[14]? = some q ∧ q.1 = (mc_M 366).1.cls := ⟨mk_ca366, mk_tb (mk_sub12 (List.mem_of_getElem? (i := 65) rfl) rfl), mk_im366, mk_se366, _, rfl, rfl⟩
set_option maxRecDepth 100000 in
theorem mk_V397 : ms_callee mc_M 209 (2 - 1) ∧ Jvm.Cond.methodLink (mk_nm 19) 83 (mc_M 209).1 ∈ ms_tb ∧ Jvm.Cond.instanceMethod (mc_M 209).1 ∈ ms_tb ∧ Jvm.Cond.selects (mc_M 209).1.cls (mc_M 209).1 (mc_M 209).1 ∈ ms_tb ∧ ∃ q, mt_cl[11]? = some q ∧ q.1 = (mc_M 209).1.cls := ⟨mk_ca209, mk_tb (mk_sub8 (List.mem_of_getElem? (i := 29) rfl) rfl), mk_im209, mk_se209, _, rfl, rfl⟩
set_option maxRecDepth 100000 in
theorem mk_V398 : ms_callee mc_M 369 (2 - 1) ∧ Jvm.Cond.methodLink (mk_nm 19) 86 (mc_M 369).1 ∈ ms_tb ∧ Jvm.Cond.instanceMethod (mc_M 369).1 ∈ ms_tb ∧ Jvm.Cond.selects (mc_M 369).1.cls (mc_M 369).1 (mc_M 369).1 ∈ ms_tb ∧ ∃ q, mt_cl[14]? = some q ∧ q.1 = (mc_M 369).1.cls := ⟨mk_ca369, mk_tb (mk_sub12 (List.mem_of_getElem? (i := 138) rfl) rfl), mk_im369, mk_se369, _, rfl, rfl⟩
set_option maxRecDepth 100000 in
theorem mk_V399 : ms_callee mc_M 210 (2 - 1) ∧ Jvm.Cond.methodLink (mk_nm 19) 87 (mc_M 210).1 ∈ ms_tb ∧ Jvm.Cond.instanceMethod (mc_M 210).1 ∈ ms_tb ∧ Jvm.Cond.selects (mc_M 210).1.cls (mc_M 210).1 (mc_M 210).1 ∈ ms_tb ∧ ∃ q, mt_cl[11]? = some q ∧ q.1 = (mc_M 210).1.cls := ⟨mk_ca210, mk_tb (mk_sub8 (List.mem_of_getElem? (i := 33) rfl) rfl), mk_im210, mk_se210, _, rfl, rfl⟩
set_option maxRecDepth 100000 in
theorem mk_V400 : ms_callee mc_M 370 (2 - 1) ∧ Jvm.Cond.methodLink (mk_nm 19) 90 (mc_M 370).1 ∈ ms_tb ∧ Jvm.Cond.instanceMethod (mc_M 370).1 ∈ ms_tb ∧ Jvm.Cond.selects (mc_M 370).1.cls (mc_M 370).1 (mc_M 370).1 ∈ ms_tb ∧ ∃ q, mt_cl[14]? = some q ∧ q.1 = (mc_M 370).1.cls := ⟨mk_ca370, mk_tb (mk_sub12 (List.mem_of_getElem? (i := 142) rfl) rfl), mk_im370, mk_se370, _, rfl, rfl⟩
set_option maxRecDepth 100000 in
theorem mk_V401 : ms_callee mc_M 211 (3 - 1) ∧ Jvm.Cond.methodLink (mk_nm 19) 91 (mc_M 211).1 ∈ ms_tb ∧ Jvm.Cond.instanceMethod (mc_M 211).1 ∈ ms_tb ∧ Jvm.Cond.selects (mc_M 211).1.cls (mc_M 211).1 (mc_M 211).1 ∈ ms_tb ∧ ∃ q, mt_cl[11]? = some q ∧ q.1 = (mc_M 211).1.cls := ⟨mk_ca211, mk_tb (mk_sub8 (List.mem_of_getElem? (i := 37) rfl) rfl), mk_im211, mk_se211, _, rfl, rfl⟩
set_option maxRecDepth 100000 in
theorem mk_V402 : ms_callee mc_M 371 (3 - 1) ∧ Jvm.Cond.methodLink (mk_nm 19) 94 (mc_M 371).1 ∈ ms_tb ∧ Jvm.Cond.instanceMethod (mc_M 371).1 ∈ ms_tb ∧ Jvm.Cond.selects (mc_M 371).1.cls (mc_M 371).1 (mc_M 371).1 ∈ ms_tb ∧ ∃ q, mt_cl[14]? = some q ∧ q.1 = (mc_M 371).1.cls := ⟨mk_ca371, mk_tb (mk_sub12 (List.mem_of_getElem? (i := 146) rfl) rfl), mk_im371, mk_se371, _, rfl, rfl⟩
set_option maxRecDepth 100000 in
theorem mk_V403 : ms_callee mc_M 212 (1 - 1) ∧ Jvm.Cond.methodLink (mk_nm 19) 95 (mc_M 212).1 ∈ ms_tb ∧ Jvm.Cond.instanceMethod (mc_M 212).1 ∈ ms_tb ∧ Jvm.Cond.selects (mc_M 212).1.cls (mc_M 212).1 (mc_M 212).1 ∈ ms_tb ∧ ∃ q, mt_cl[11]? = some q ∧ q.1 = (mc_M 212).1.cls := ⟨mk_ca212, mk_tb (mk_sub8 (List.mem_of_getElem? (i := 41) rfl) rfl), mk_im212, mk_se212, _, rfl, rfl⟩
set_option maxRecDepth 100000 in
theorem mk_V404 : ms_callee mc_M 368 (1 - 1) ∧ Jvm.Cond.methodLink (mk_nm 19) 98 (mc_M 368).1 ∈ ms_tb ∧ Jvm.Cond.instanceMethod (mc_M 368).1 ∈ ms_tb ∧ Jvm.Cond.selects (mc_M 368).1.cls (mc_M 368).1 (mc_M 368).1 ∈ ms_tb ∧ ∃ q, mt_cl[14]? = some q ∧ q.1 = (mc_M 368).1.cls := ⟨mk_ca368, mk_tb (mk_sub12 (List.mem_of_getElem? (i := 134) rfl) rfl), mk_im368, mk_se368, _, rfl, rfl⟩
set_option maxRecDepth 100000 in
theorem mk_V405 : ms_callee mc_M 213 (3 - 1) ∧ Jvm.Cond.methodLink (mk_nm 19) 99 (mc_M 213).1 ∈ ms_tb ∧ Jvm.Cond.instanceMethod (mc_M 213).1 ∈ ms_tb ∧ Jvm.Cond.selects (mc_M 213).1.cls (mc_M 213).1 (mc_M 213).1 ∈ ms_tb ∧ ∃ q, mt_cl[11]? = some q ∧ q.1 = (mc_M 213).1.cls := ⟨mk_ca213, mk_tb (mk_sub8 (List.mem_of_getElem? (i := 45) rfl) rfl), mk_im213, mk_se213, _, rfl, rfl⟩
set_option maxRecDepth 100000 in
theorem mk_V406 : ms_callee mc_M 390 (3 - 1) ∧ Jvm.Cond.methodLink (mk_nm 19) 103 (mc_M 390).1 ∈ ms_tb ∧ Jvm.Cond.instanceMethod (mc_M 390).1 ∈ ms_tb ∧ Jvm.Cond.selects (mc_M 390).1.cls (mc_M 390).1 (mc_M 390).1 ∈ ms_tb ∧ ∃ q, mt_cl[14]? = some q ∧ q.1 = (mc_M 390).1.cls := ⟨mk_ca390, mk_tb (mk_sub12 (List.mem_of_getElem? (i := 206) rfl) rfl), mk_im390, mk_se390, _, rfl, rfl⟩
set_option maxRecDepth 100000 in
theorem mk_V407 : ms_callee mc_M 214 (2 - 1) ∧ Jvm.Cond.methodLink (mk_nm 19) 104 (mc_M 214).1 ∈ ms_tb ∧ Jvm.Cond.instanceMethod (mc_M 214).1 ∈ ms_tb ∧ Jvm.Cond.selects (mc_M 214).1.cls (mc_M 214).1 (mc_M 214).1 ∈ ms_tb ∧ ∃ q, mt_cl[11]? = some q ∧ q.1 = (mc_M 214).1.cls := ⟨mk_ca214, mk_tb (mk_sub8 (List.mem_of_getElem? (i := 113) rfl) rfl), mk_im214, mk_se214, _, rfl, rfl⟩
set_option maxRecDepth 100000 in
theorem mk_V408 : ms_callee mc_M 391 (2 - 1) ∧ Jvm.Cond.methodLink (mk_nm 19) 107 (mc_M 391).1 ∈ ms_tb ∧ Jvm.Cond.instanceMethod (mc_M 391).1 ∈ ms_tb ∧ Jvm.Cond.selects (mc_M 391).1.cls (mc_M 391).1 (mc_M 391).1 ∈ ms_tb ∧ ∃ q, mt_cl[14]? = some q ∧ q.1 = (mc_M 391).1.cls := ⟨mk_ca391, mk_tb (mk_sub13 (List.mem_of_getElem? (i := 9) rfl) rfl), mk_im391, mk_se391, _, rfl, rfl⟩
set_option maxRecDepth 100000 in
theorem mk_V_ok : ∀ t ∈ mk_V, ms_callee mc_M t.2.2.1 (t.2.2.2.2 - 1) ∧ Jvm.Cond.methodLink (mk_nm t.1) t.2.1 (mc_M t.2.2.1).1 ∈ ms_tb ∧ Jvm.Cond.instanceMethod (mc_M t.2.2.1).1 ∈ ms_tb ∧ Jvm.Cond.selects (mc_M t.2.2.1).1.cls (mc_M t.2.2.1).1 (mc_M t.2.2.1).1 ∈ ms_tb ∧ ∃ q, mt_cl[t.2.2.2.1]? = some q ∧ q.1 = (mc_M t.2.2.1).1.cls := List.forall_mem_cons.mpr ⟨mk_V0, List.forall_mem_cons.mpr ⟨mk_V1, List.forall_mem_cons.mpr ⟨mk_V2, List.forall_mem_cons.mpr ⟨mk_V3, List.forall_mem_cons.mpr ⟨mk_V4, List.forall_mem_cons.mpr ⟨mk_V5, List.forall_mem_cons.mpr ⟨mk_V6, List.forall_mem_cons.mpr ⟨mk_V7, List.forall_mem_cons.mpr ⟨mk_V8, List.forall_mem_cons.mpr ⟨mk_V9, List.forall_mem_cons.mpr ⟨mk_V10, List.forall_mem_cons.mpr ⟨mk_V11, List.forall_mem_cons.mpr ⟨mk_V12, List.forall_mem_cons.mpr ⟨mk_V13, List.forall_mem_cons.mpr ⟨mk_V14, List.forall_mem_cons.mpr ⟨mk_V15, List.forall_mem_cons.mpr ⟨mk_V16, List.forall_mem_cons.mpr ⟨mk_V17, List.forall_mem_cons.mpr ⟨mk_V18, List.forall_mem_cons.mpr ⟨mk_V19, List.forall_mem_cons.mpr ⟨mk_V20, List.forall_mem_cons.mpr ⟨mk_V21, List.forall_mem_cons.mpr ⟨mk_V22, List.forall_mem_cons.mpr ⟨mk_V23, List.forall_mem_cons.mpr ⟨mk_V24, List.forall_mem_cons.mpr ⟨mk_V25, List.forall_mem_cons.mpr ⟨mk_V26, List.forall_mem_cons.mpr ⟨mk_V27, List.forall_mem_cons.mpr ⟨mk_V28, List.forall_mem_cons.mpr ⟨mk_V29, List.forall_mem_cons.mpr ⟨mk_V30, List.forall_mem_cons.mpr ⟨mk_V31, List.forall_mem_cons.mpr ⟨mk_V32, List.forall_mem_cons.mpr ⟨mk_V33, List.forall_mem_cons.mpr ⟨mk_V34, List.forall_mem_cons.mpr ⟨mk_V35, List.forall_mem_cons.mpr ⟨mk_V36, List.forall_mem_cons.mpr ⟨mk_V37, List.forall_mem_cons.mpr ⟨mk_V38, List.forall_mem_cons.mpr ⟨mk_V39, List.forall_mem_cons.mpr ⟨mk_V40, List.forall_mem_cons.mpr ⟨mk_V41, List.forall_mem_cons.mpr ⟨mk_V42, List.forall_mem_cons.mpr ⟨mk_V43, List.forall_mem_cons.mpr ⟨mk_V44, List.forall_mem_cons.mpr ⟨mk_V45, List.forall_mem_cons.mpr ⟨mk_V46, List.forall_mem_cons.mpr ⟨mk_V47, List.forall_mem_cons.mpr ⟨mk_V48, List.forall_mem_cons.mpr ⟨mk_V49, List.forall_mem_cons.mpr ⟨mk_V50, List.forall_mem_cons.mpr ⟨mk_V51, List.forall_mem_cons.mpr ⟨mk_V52, List.forall_mem_cons.mpr ⟨mk_V53, List.forall_mem_cons.mpr ⟨mk_V54, List.forall_mem_cons.mpr ⟨mk_V55, List.forall_mem_cons.mpr ⟨mk_V56, List.forall_mem_cons.mpr ⟨mk_V57, List.forall_mem_cons.mpr ⟨mk_V58, List.forall_mem_cons.mpr ⟨mk_V59, List.forall_mem_cons.mpr ⟨mk_V60, List.forall_mem_cons.mpr ⟨mk_V61, List.forall_mem_cons.mpr ⟨mk_V62, List.forall_mem_cons.mpr ⟨mk_V63, List.forall_mem_cons.mpr ⟨mk_V64, List.forall_mem_cons.mpr ⟨mk_V65, List.forall_mem_cons.mpr ⟨mk_V66, List.forall_mem_cons.mpr ⟨mk_V67, List.forall_mem_cons.mpr ⟨mk_V68, List.forall_mem_cons.mpr ⟨mk_V69, List.forall_mem_cons.mpr ⟨mk_V70, List.forall_mem_cons.mpr ⟨mk_V71, List.forall_mem_cons.mpr ⟨mk_V72, List.forall_mem_cons.mpr ⟨mk_V73, List.forall_mem_cons.mpr ⟨mk_V74, List.forall_mem_cons.mpr ⟨mk_V75, List.forall_mem_cons.mpr ⟨mk_V76, List.forall_mem_cons.mpr ⟨mk_V77, List.forall_mem_cons.mpr ⟨mk_V78, List.forall_mem_cons.mpr ⟨mk_V79, List.forall_mem_cons.mpr ⟨mk_V80, List.forall_mem_cons.mpr ⟨mk_V81, List.forall_mem_cons.mpr ⟨mk_V82, List.forall_mem_cons.mpr ⟨mk_V83, List.forall_mem_cons.mpr ⟨mk_V84, List.forall_mem_cons.mpr ⟨mk_V85, List.forall_mem_cons.mpr ⟨mk_V86, List.forall_mem_cons.mpr ⟨mk_V87, List.forall_mem_cons.mpr ⟨mk_V88, List.forall_mem_cons.mpr ⟨mk_V89, List.forall_mem_cons.mpr ⟨mk_V90, List.forall_mem_cons.mpr ⟨mk_V91, List.forall_mem_cons.mpr ⟨mk_V92, List.forall_mem_cons.mpr ⟨mk_V93, List.forall_mem_cons.mpr ⟨mk_V94, List.forall_mem_cons.mpr ⟨mk_V95, List.forall_mem_cons.mpr ⟨mk_V96, List.forall_mem_cons.mpr ⟨mk_V97, List.forall_mem_cons.mpr ⟨mk_V98, List.forall_mem_cons.mpr ⟨mk_V99, List.forall_mem_cons.mpr ⟨mk_V100, List.forall_mem_cons.mpr ⟨mk_V101, List.forall_mem_cons.mpr ⟨mk_V102, List.forall_mem_cons.mpr ⟨mk_V103, List.forall_mem_cons.mpr ⟨mk_V104, List.forall_mem_cons.mpr ⟨mk_V105, List.forall_mem_cons.mpr ⟨mk_V106, List.forall_mem_cons.mpr ⟨mk_V107, List.forall_mem_cons.mpr ⟨mk_V108, List.forall_mem_cons.mpr ⟨mk_V109, List.forall_mem_cons.mpr ⟨mk_V110, List.forall_mem_cons.mpr ⟨mk_V111, List.forall_mem_cons.mpr ⟨mk_V112, List.forall_mem_cons.mpr ⟨mk_V113, List.forall_mem_cons.mpr ⟨mk_V114, List.forall_mem_cons.mpr ⟨mk_V115, List.forall_mem_cons.mpr ⟨mk_V116, List.forall_mem_cons.mpr ⟨mk_V117, List.forall_mem_cons.mpr ⟨mk_V118, List.forall_mem_cons.mpr ⟨mk_V119, List.forall_mem_cons.mpr ⟨mk_V120, List.forall_mem_cons.mpr ⟨mk_V121, List.forall_mem_cons.mpr ⟨mk_V122, List.forall_mem_cons.mpr ⟨mk_V123, List.forall_mem_cons.mpr ⟨mk_V124, List.forall_mem_cons.mpr ⟨mk_V125, List.forall_mem_cons.mpr ⟨mk_V126, List.forall_mem_cons.mpr ⟨mk_V127, List.forall_mem_cons.mpr ⟨mk_V128, List.forall_mem_cons.mpr ⟨mk_V129, List.forall_mem_cons.mpr ⟨mk_V130, List.forall_mem_cons.mpr ⟨mk_V131, List.forall_mem_cons.mpr ⟨mk_V132, List.forall_mem_cons.mpr ⟨mk_V133, List.forall_mem_cons.mpr ⟨mk_V134, List.forall_mem_cons.mpr ⟨mk_V135, List.forall_mem_cons.mpr ⟨mk_V136, List.forall_mem_cons.mpr ⟨mk_V137, List.forall_mem_cons.mpr ⟨mk_V138, List.forall_mem_cons.mpr ⟨mk_V139, List.forall_mem_cons.mpr ⟨mk_V140, List.forall_mem_cons.mpr ⟨mk_V141, List.forall_mem_cons.mpr ⟨mk_V142, List.forall_mem_cons.mpr ⟨mk_V143, List.forall_mem_cons.mpr ⟨mk_V144, List.forall_mem_cons.mpr ⟨mk_V145, List.forall_mem_cons.mpr ⟨mk_V146, List.forall_mem_cons.mpr ⟨mk_V147, List.forall_mem_cons.mpr ⟨mk_V148, List.forall_mem_cons.mpr ⟨mk_V149, List.forall_mem_cons.mpr ⟨mk_V150, List.forall_mem_cons.mpr ⟨mk_V151, List.forall_mem_cons.mpr ⟨mk_V152, List.forall_mem_cons.mpr ⟨mk_V153, List.forall_mem_cons.mpr ⟨mk_V154, List.forall_mem_cons.mpr ⟨mk_V155, List.forall_mem_cons.mpr ⟨mk_V156, List.forall_mem_cons.mpr ⟨mk_V157, List.forall_mem_cons.mpr ⟨mk_V158, List.forall_mem_cons.mpr ⟨mk_V159, List.forall_mem_cons.mpr ⟨mk_V160, List.forall_mem_cons.mpr ⟨mk_V161, List.forall_mem_cons.mpr ⟨mk_V162, List.forall_mem_cons.mpr ⟨mk_V163, List.forall_mem_cons.mpr ⟨mk_V164, List.forall_mem_cons.mpr ⟨mk_V165, List.forall_mem_cons.mpr ⟨mk_V166, List.forall_mem_cons.mpr ⟨mk_V167, List.forall_mem_cons.mpr ⟨mk_V168, List.forall_mem_cons.mpr ⟨mk_V169, List.forall_mem_cons.mpr ⟨mk_V170, List.forall_mem_cons.mpr ⟨mk_V171, List.forall_mem_cons.mpr ⟨mk_V172, List.forall_mem_cons.mpr ⟨mk_V173, List.forall_mem_cons.mpr ⟨mk_V174, List.forall_mem_cons.mpr ⟨mk_V175, List.forall_mem_cons.mpr ⟨mk_V176, List.forall_mem_cons.mpr ⟨mk_V177, List.forall_mem_cons.mpr ⟨mk_V178, List.forall_mem_cons.mpr ⟨mk_V179, List.forall_mem_cons.mpr ⟨mk_V180, List.forall_mem_cons.mpr ⟨mk_V181, List.forall_mem_cons.mpr ⟨mk_V182, List.forall_mem_cons.mpr ⟨mk_V183, List.forall_mem_cons.mpr ⟨mk_V184, List.forall_mem_cons.mpr ⟨mk_V185, List.forall_mem_cons.mpr ⟨mk_V186, List.forall_mem_cons.mpr ⟨mk_V187, List.forall_mem_cons.mpr ⟨mk_V188, List.forall_mem_cons.mpr ⟨mk_V189, List.forall_mem_cons.mpr ⟨mk_V190, List.forall_mem_cons.mpr ⟨mk_V191, List.forall_mem_cons.mpr ⟨mk_V192, List.forall_mem_cons.mpr ⟨mk_V193, List.forall_mem_cons.mpr ⟨mk_V194, List.forall_mem_cons.mpr ⟨mk_V195, List.forall_mem_cons.mpr ⟨mk_V196, List.forall_mem_cons.mpr ⟨mk_V197, List.forall_mem_cons.mpr ⟨mk_V198, List.forall_mem_cons.mpr ⟨mk_V199, List.forall_mem_cons.mpr ⟨mk_V200, List.forall_mem_cons.mpr ⟨mk_V201, List.forall_mem_cons.mpr ⟨mk_V202, List.forall_mem_cons.mpr ⟨mk_V203, List.forall_mem_cons.mpr ⟨mk_V204, List.forall_mem_cons.mpr ⟨mk_V205, List.forall_mem_cons.mpr ⟨mk_V206, List.forall_mem_cons.mpr ⟨mk_V207, List.forall_mem_cons.mpr ⟨mk_V208, List.forall_mem_cons.mpr ⟨mk_V209, List.forall_mem_cons.mpr ⟨mk_V210, List.forall_mem_cons.mpr ⟨mk_V211, List.forall_mem_cons.mpr ⟨mk_V212, List.forall_mem_cons.mpr ⟨mk_V213, List.forall_mem_cons.mpr ⟨mk_V214, List.forall_mem_cons.mpr ⟨mk_V215, List.forall_mem_cons.mpr ⟨mk_V216, List.forall_mem_cons.mpr ⟨mk_V217, List.forall_mem_cons.mpr ⟨mk_V218, List.forall_mem_cons.mpr ⟨mk_V219, List.forall_mem_cons.mpr ⟨mk_V220, List.forall_mem_cons.mpr ⟨mk_V221, List.forall_mem_cons.mpr ⟨mk_V222, List.forall_mem_cons.mpr ⟨mk_V223, List.forall_mem_cons.mpr ⟨mk_V224, List.forall_mem_cons.mpr ⟨mk_V225, List.forall_mem_cons.mpr ⟨mk_V226, List.forall_mem_cons.mpr ⟨mk_V227, List.forall_mem_cons.mpr ⟨mk_V228, List.forall_mem_cons.mpr ⟨mk_V229, List.forall_mem_cons.mpr ⟨mk_V230, List.forall_mem_cons.mpr ⟨mk_V231, List.forall_mem_cons.mpr ⟨mk_V232, List.forall_mem_cons.mpr ⟨mk_V233, List.forall_mem_cons.mpr ⟨mk_V234, List.forall_mem_cons.mpr ⟨mk_V235, List.forall_mem_cons.mpr ⟨mk_V236, List.forall_mem_cons.mpr ⟨mk_V237, List.forall_mem_cons.mpr ⟨mk_V238, List.forall_mem_cons.mpr ⟨mk_V239, List.forall_mem_cons.mpr ⟨mk_V240, List.forall_mem_cons.mpr ⟨mk_V241, List.forall_mem_cons.mpr ⟨mk_V242, List.forall_mem_cons.mpr ⟨mk_V243, List.forall_mem_cons.mpr ⟨mk_V244, List.forall_mem_cons.mpr ⟨mk_V245, List.forall_mem_cons.mpr ⟨mk_V246, List.forall_mem_cons.mpr ⟨mk_V247, List.forall_mem_cons.mpr ⟨mk_V248, List.forall_mem_cons.mpr ⟨mk_V249, List.forall_mem_cons.mpr ⟨mk_V250, List.forall_mem_cons.mpr ⟨mk_V251, List.forall_mem_cons.mpr ⟨mk_V252, List.forall_mem_cons.mpr ⟨mk_V253, List.forall_mem_cons.mpr ⟨mk_V254, List.forall_mem_cons.mpr ⟨mk_V255, List.forall_mem_cons.mpr ⟨mk_V256, List.forall_mem_cons.mpr ⟨mk_V257, List.forall_mem_cons.mpr ⟨mk_V258, List.forall_mem_cons.mpr ⟨mk_V259, List.forall_mem_cons.mpr ⟨mk_V260, List.forall_mem_cons.mpr ⟨mk_V261, List.forall_mem_cons.mpr ⟨mk_V262, List.forall_mem_cons.mpr ⟨mk_V263, List.forall_mem_cons.mpr ⟨mk_V264, List.forall_mem_cons.mpr ⟨mk_V265, List.forall_mem_cons.mpr ⟨mk_V266, List.forall_mem_cons.mpr ⟨mk_V267, List.forall_mem_cons.mpr ⟨mk_V268, List.forall_mem_cons.mpr ⟨mk_V269, List.forall_mem_cons.mpr ⟨mk_V270, List.forall_mem_cons.mpr ⟨mk_V271, List.forall_mem_cons.mpr ⟨mk_V272, List.forall_mem_cons.mpr ⟨mk_V273, List.forall_mem_cons.mpr ⟨mk_V274, List.forall_mem_cons.mpr ⟨mk_V275, List.forall_mem_cons.mpr ⟨mk_V276, List.forall_mem_cons.mpr ⟨mk_V277, List.forall_mem_cons.mpr ⟨mk_V278, List.forall_mem_cons.mpr ⟨mk_V279, List.forall_mem_cons.mpr ⟨mk_V280, List.forall_mem_cons.mpr ⟨mk_V281, List.forall_mem_cons.mpr ⟨mk_V282, List.forall_mem_cons.mpr ⟨mk_V283, List.forall_mem_cons.mpr ⟨mk_V284, List.forall_mem_cons.mpr ⟨mk_V285, List.forall_mem_cons.mpr ⟨mk_V286, List.forall_mem_cons.mpr ⟨mk_V287, List.forall_mem_cons.mpr ⟨mk_V288, List.forall_mem_cons.mpr ⟨mk_V289, List.forall_mem_cons.mpr ⟨mk_V290, List.forall_mem_cons.mpr ⟨mk_V291, List.forall_mem_cons.mpr ⟨mk_V292, List.forall_mem_cons.mpr ⟨mk_V293, List.forall_mem_cons.mpr ⟨mk_V294, List.forall_mem_cons.mpr ⟨mk_V295, List.forall_mem_cons.mpr ⟨mk_V296, List.forall_mem_cons.mpr ⟨mk_V297, List.forall_mem_cons.mpr ⟨mk_V298, List.forall_mem_cons.mpr ⟨mk_V299, List.forall_mem_cons.mpr ⟨mk_V300, List.forall_mem_cons.mpr ⟨mk_V301, List.forall_mem_cons.mpr ⟨mk_V302, List.forall_mem_cons.mpr ⟨mk_V303, List.forall_mem_cons.mpr ⟨mk_V304, List.forall_mem_cons.mpr ⟨mk_V305, List.forall_mem_cons.mpr ⟨mk_V306, List.forall_mem_cons.mpr ⟨mk_V307, List.forall_mem_cons.mpr ⟨mk_V308, List.forall_mem_cons.mpr ⟨mk_V309, List.forall_mem_cons.mpr ⟨mk_V310, List.forall_mem_cons.mpr ⟨mk_V311, List.forall_mem_cons.mpr ⟨mk_V312, List.forall_mem_cons.mpr ⟨mk_V313, List.forall_mem_cons.mpr ⟨mk_V314, List.forall_mem_cons.mpr ⟨mk_V315, List.forall_mem_cons.mpr ⟨mk_V316, List.forall_mem_cons.mpr ⟨mk_V317, List.forall_mem_cons.mpr ⟨mk_V318, List.forall_mem_cons.mpr ⟨mk_V319, List.forall_mem_cons.mpr ⟨mk_V320, List.forall_mem_cons.mpr ⟨mk_V321, List.forall_mem_cons.mpr ⟨mk_V322, List.forall_mem_cons.mpr ⟨mk_V323, List.forall_mem_cons.mpr ⟨mk_V324, List.forall_mem_cons.mpr ⟨mk_V325, List.forall_mem_cons.mpr ⟨mk_V326, List.forall_mem_cons.mpr ⟨mk_V327, List.forall_mem_cons.mpr ⟨mk_V328, List.forall_mem_cons.mpr ⟨mk_V329, List.forall_mem_cons.mpr ⟨mk_V330, List.forall_mem_cons.mpr ⟨mk_V331, List.forall_mem_cons.mpr ⟨mk_V332, List.forall_mem_cons.mpr ⟨mk_V333, List.forall_mem_cons.mpr ⟨mk_V334, List.forall_mem_cons.mpr ⟨mk_V335, List.forall_mem_cons.mpr ⟨mk_V336, List.forall_mem_cons.mpr ⟨mk_V337, List.forall_mem_cons.mpr ⟨mk_V338, List.forall_mem_cons.mpr ⟨mk_V339, List.forall_mem_cons.mpr ⟨mk_V340, List.forall_mem_cons.mpr ⟨mk_V341, List.forall_mem_cons.mpr ⟨mk_V342, List.forall_mem_cons.mpr ⟨mk_V343, List.forall_mem_cons.mpr ⟨mk_V344, List.forall_mem_cons.mpr ⟨mk_V345, List.forall_mem_cons.mpr ⟨mk_V346, List.forall_mem_cons.mpr ⟨mk_V347, List.forall_mem_cons.mpr ⟨mk_V348, List.forall_mem_cons.mpr ⟨mk_V349, List.forall_mem_cons.mpr ⟨mk_V350, List.forall_mem_cons.mpr ⟨mk_V351, List.forall_mem_cons.mpr ⟨mk_V352, List.forall_mem_cons.mpr ⟨mk_V353, List.forall_mem_cons.mpr ⟨mk_V354, List.forall_mem_cons.mpr ⟨mk_V355, List.forall_mem_cons.mpr ⟨mk_V356, List.forall_mem_cons.mpr ⟨mk_V357, List.forall_mem_cons.mpr ⟨mk_V358, List.forall_mem_cons.mpr ⟨mk_V359, List.forall_mem_cons.mpr ⟨mk_V360, List.forall_mem_cons.mpr ⟨mk_V361, List.forall_mem_cons.mpr ⟨mk_V362, List.forall_mem_cons.mpr ⟨mk_V363, List.forall_mem_cons.mpr ⟨mk_V364, List.forall_mem_cons.mpr ⟨mk_V365, List.forall_mem_cons.mpr ⟨mk_V366, List.forall_mem_cons.mpr ⟨mk_V367, List.forall_mem_cons.mpr ⟨mk_V368, List.forall_mem_cons.mpr ⟨mk_V369, List.forall_mem_cons.mpr ⟨mk_V370, List.forall_mem_cons.mpr ⟨mk_V371, List.forall_mem_cons.mpr ⟨mk_V372, List.forall_mem_cons.mpr ⟨mk_V373, List.forall_mem_cons.mpr ⟨mk_V374, List.forall_mem_cons.mpr ⟨mk_V375, List.forall_mem_cons.mpr ⟨mk_V376, List.forall_mem_cons.mpr ⟨mk_V377, List.forall_mem_cons.mpr ⟨mk_V378, List.forall_mem_cons.mpr ⟨mk_V379, List.forall_mem_cons.mpr ⟨mk_V380, List.forall_mem_cons.mpr ⟨mk_V381, List.forall_mem_cons.mpr ⟨mk_V382, List.forall_mem_cons.mpr ⟨mk_V383, List.forall_mem_cons.mpr ⟨mk_V384, List.forall_mem_cons.mpr ⟨mk_V385, List.forall_mem_cons.mpr ⟨mk_V386, List.forall_mem_cons.mpr ⟨mk_V387, List.forall_mem_cons.mpr ⟨mk_V388, List.forall_mem_cons.mpr ⟨mk_V389, List.forall_mem_cons.mpr ⟨mk_V390, List.forall_mem_cons.mpr ⟨mk_V391, List.forall_mem_cons.mpr ⟨mk_V392, List.forall_mem_cons.mpr ⟨mk_V393, List.forall_mem_cons.mpr ⟨mk_V394, List.forall_mem_cons.mpr ⟨mk_V395, List.forall_mem_cons.mpr ⟨mk_V396, List.forall_mem_cons.mpr ⟨mk_V397, List.forall_mem_cons.mpr ⟨mk_V398, List.forall_mem_cons.mpr ⟨mk_V399, List.forall_mem_cons.mpr ⟨mk_V400, List.forall_mem_cons.mpr ⟨mk_V401, List.forall_mem_cons.mpr ⟨mk_V402, List.forall_mem_cons.mpr ⟨mk_V403, List.forall_mem_cons.mpr ⟨mk_V404, List.forall_mem_cons.mpr ⟨mk_V405, List.forall_mem_cons.mpr ⟨mk_V406, List.forall_mem_cons.mpr ⟨mk_V407, List.forall_mem_cons.mpr ⟨mk_V408, fun _ h => absurd h List.not_mem_nil⟩⟩⟩⟩⟩⟩⟩⟩⟩⟩⟩⟩⟩⟩⟩⟩⟩⟩⟩⟩⟩⟩⟩⟩⟩⟩⟩⟩⟩⟩⟩⟩⟩⟩⟩⟩⟩⟩⟩⟩⟩⟩⟩⟩⟩⟩⟩⟩⟩⟩⟩⟩⟩⟩⟩⟩⟩⟩⟩⟩⟩⟩⟩⟩⟩⟩⟩⟩⟩⟩⟩⟩⟩⟩⟩⟩⟩⟩⟩⟩⟩⟩⟩⟩⟩⟩⟩⟩⟩⟩⟩⟩⟩⟩⟩⟩⟩⟩⟩⟩⟩⟩⟩⟩⟩⟩⟩⟩⟩⟩⟩⟩⟩⟩⟩⟩⟩⟩⟩⟩⟩⟩⟩⟩⟩⟩⟩⟩⟩⟩⟩⟩⟩⟩⟩⟩⟩⟩⟩⟩⟩⟩⟩⟩⟩⟩⟩⟩⟩⟩⟩⟩⟩⟩⟩⟩⟩⟩⟩⟩⟩⟩⟩⟩⟩⟩⟩⟩⟩⟩⟩⟩⟩⟩⟩⟩⟩⟩⟩⟩⟩⟩⟩⟩⟩⟩⟩⟩⟩⟩⟩⟩⟩⟩⟩⟩⟩⟩⟩⟩⟩⟩⟩⟩⟩⟩⟩⟩⟩⟩⟩⟩⟩⟩⟩⟩⟩⟩⟩⟩⟩⟩⟩⟩⟩⟩⟩⟩⟩⟩⟩⟩⟩⟩⟩⟩⟩⟩⟩⟩⟩⟩⟩⟩⟩⟩⟩⟩⟩⟩⟩⟩⟩⟩⟩⟩⟩⟩⟩⟩⟩⟩⟩⟩⟩⟩⟩⟩⟩⟩⟩⟩⟩⟩⟩⟩⟩⟩⟩⟩⟩⟩⟩⟩⟩⟩⟩⟩⟩⟩⟩⟩⟩⟩⟩⟩⟩⟩⟩⟩⟩⟩⟩⟩⟩⟩⟩⟩⟩⟩⟩⟩⟩⟩⟩⟩⟩⟩⟩⟩⟩⟩⟩⟩⟩⟩⟩⟩⟩⟩⟩⟩⟩⟩⟩⟩⟩⟩⟩⟩⟩⟩⟩⟩⟩⟩⟩⟩⟩⟩⟩⟩⟩⟩⟩⟩⟩⟩⟩⟩⟩⟩⟩⟩⟩⟩⟩⟩⟩⟩⟩⟩⟩⟩⟩⟩⟩⟩⟩⟩⟩⟩⟩⟩⟩⟩⟩⟩⟩⟩⟩⟩⟩⟩⟩⟩⟩⟩⟩⟩⟩⟩⟩⟩⟩⟩⟩⟩⟩
def mk_S : List (Nat × Nat × Nat × Nat) := [(1, 220, 22, 1), (2, 175, 36, 3), (5, 131, 110, 4), (5, 139, 393, 2), (8, 52, 140, 2), (8, 73, 141, 1), (10, 9, 392, 2), (10, 53, 172, 1), (10, 60, 173, 1), (10, 66, 179, 2), (11, 174, 195, 2), (11, 371, 392, 2), (12, 197, 242, 1), (13, 27, 277, 1), (13, 31, 278, 1), (13, 67, 279, 2), (13, 87, 296, 2), (14, 200, 303, 1), (14, 204, 304, 1), (14, 496, 374, 1), (14, 508, 376, 2), (16, 495, 401, 2), (16, 637, 402, 4), (16, 1059, 405, 3), (17, 9, 398, 2), (17, 88, 403, 1), (17, 95, 404, 4)]
set_option maxRecDepth 100000 in
theorem mk_S0 : ms_callee mc_M 22 1 ∧ Jvm.Cond.methodLink (mk_nm 1) 220 (mc_M 22).1 ∈ ms_tb ∧ Jvm.Cond.static (mc_M 22).1 ∈ ms_tb := ⟨mk_ca22, mk_tb (mk_sub4 (List.mem_of_getElem? (i := 147) rfl) rfl), mk_im22⟩
set_option maxRecDepth 100000 in
theorem mk_S1 : ms_callee mc_M 36 3 ∧ Jvm.Cond.methodLink (mk_nm 2) 175 (mc_M 36).1 ∈ ms_tb ∧ Jvm.Cond.static (mc_M 36).1 ∈ ms_tb := ⟨mk_ca36, mk_tb (mk_sub8 (List.mem_of_getElem? (i := 26) rfl) rfl), mk_im36⟩
set_option maxRecDepth 100000 in
theorem mk_S2 : ms_callee mc_M 110 4 ∧ Jvm.Cond.methodLink (mk_nm 5) 131 (mc_M 110).1 ∈ ms_tb ∧ Jvm.Cond.static (mc_M 110).1 ∈ ms_tb := ⟨mk_ca110, mk_tb (mk_sub4 (List.mem_of_getElem? (i := 93) rfl) rfl), mk_im110⟩
set_option maxRecDepth 100000 in
theorem mk_S3 : ms_callee mc_M 393 2 ∧ Jvm.Cond.methodLink (mk_nm 5) 139 (mc_M 393).1 ∈ ms_tb ∧ Jvm.Cond.static (mc_M 393).1 ∈ ms_tb := ⟨mk_ca393, mk_tb (mk_sub4 (List.mem_of_getElem? (i := 122) rfl) rfl), mk_im393⟩
set_option maxRecDepth 100000 in
theorem mk_S4 : ms_callee mc_M 140 2 ∧ Jvm.Cond.methodLink (mk_nm 8) 52 (mc_M 140).1 ∈ ms_tb ∧ Jvm.Cond.static (mc_M 140).1 ∈ ms_tb := ⟨mk_ca140, mk_tb (mk_sub3 (List.mem_of_getElem? (i := 239) rfl) rfl), mk_im140⟩
set_option maxRecDepth 100000 in
theorem mk_S5 : ms_callee mc_M 141 1 ∧ Jvm.Cond.methodLink (mk_nm 8) 73 (mc_M 141).1 ∈ ms_tb ∧ Jvm.Cond.static (mc_M 141).1 ∈ ms_tb := ⟨mk_ca141, mk_tb (mk_sub3 (List.mem_of_getElem? (i := 221) rfl) rfl), mk_im141⟩
set_option maxRecDepth 100000 in
theorem mk_S6 : ms_callee mc_M 392 2 ∧ Jvm.Cond.methodLink (mk_nm 10) 9 (mc_M 392).1 ∈ ms_tb ∧ Jvm.Cond.static (mc_M 392).1 ∈ ms_tb := ⟨mk_ca392, mk_tb (mk_sub1 (List.mem_of_getElem? (i := 44) rfl) rfl), mk_im392⟩
set_option maxRecDepth 100000 in
theorem mk_S7 : ms_callee mc_M 172 1 ∧ Jvm.Cond.methodLink (mk_nm 10) 53 (mc_M 172).1 ∈ ms_tb ∧ Jvm.Cond.static (mc_M 172).1 ∈ ms_tb := ⟨mk_ca172, mk_tb (mk_sub5 (List.mem_of_getElem? (i := 46) rfl) rfl), mk_im172⟩
set_option maxRecDepth 100000 in
theorem mk_S8 : ms_callee mc_M 173 1 ∧ Jvm.Cond.methodLink (mk_nm 10) 60 (mc_M 173).1 ∈ ms_tb ∧ Jvm.Cond.static (mc_M 173).1 ∈ ms_tb := ⟨mk_ca173, mk_tb (mk_sub5 (List.mem_of_getElem? (i := 53) rfl) rfl), mk_im173⟩
set_option maxRecDepth 100000 in
theorem mk_S9 : ms_callee mc_M 179 2 ∧ Jvm.Cond.methodLink (mk_nm 10) 66 (mc_M 179).1 ∈ ms_tb ∧ Jvm.Cond.static (mc_M 179).1 ∈ ms_tb := ⟨mk_ca179, mk_tb (mk_sub5 (List.mem_of_getElem? (i := 67) rfl) rfl), mk_im179⟩
set_option maxRecDepth 100000 in
theorem mk_S10 : ms_callee mc_M 195 2 ∧ Jvm.Cond.methodLink (mk_nm 11) 174 (mc_M 195).1 ∈ ms_tb ∧ Jvm.Cond.static (mc_M 195).1 ∈ ms_tb := ⟨mk_ca195, mk_tb (mk_sub7 (List.mem_of_getElem? (i := 130) rfl) rfl), mk_im195⟩
set_option maxRecDepth 100000 in
theorem mk_S11 : ms_callee mc_M 392 2 ∧ Jvm.Cond.methodLink (mk_nm 11) 371 (mc_M 392).1 ∈ ms_tb ∧ Jvm.Cond.static (mc_M 392).1 ∈ ms_tb := ⟨mk_ca392, mk_tb (mk_sub8 (List.mem_of_getElem? (i := 60) rfl) rfl), mk_im392⟩
set_option maxRecDepth 100000 in
theorem mk_S12 : ms_callee mc_M 242 1 ∧ Jvm.Cond.methodLink (mk_nm 12) 197 (mc_M 242).1 ∈ ms_tb ∧ Jvm.Cond.static (mc_M 242).1 ∈ ms_tb := ⟨mk_ca242, mk_tb (mk_sub11 (List.mem_of_getElem? (i := 18) rfl) rfl), mk_im242⟩
set_option maxRecDepth 100000 in
theorem mk_S13 : ms_callee mc_M 277 1 ∧ Jvm.Cond.methodLink (mk_nm 13) 27 (mc_M 277).1 ∈ ms_tb ∧ Jvm.Cond.static (mc_M 277).1 ∈ ms_tb := ⟨mk_ca277, mk_tb (mk_sub11 (List.mem_of_getElem? (i := 113) rfl) rfl), mk_im277⟩
set_option maxRecDepth 100000 in
theorem mk_S14 : ms_callee mc_M 278 1 ∧ Jvm.Cond.methodLink (mk_nm 13) 31 (mc_M 278).1 ∈ ms_tb ∧ Jvm.Cond.static (mc_M 278).1 ∈ ms_tb := ⟨mk_ca278, mk_tb (mk_sub11 (List.mem_of_getElem? (i := 233) rfl) rfl), mk_im278⟩
set_option maxRecDepth 100000 in
theorem mk_S15 : ms_callee mc_M 279 2 ∧ Jvm.Cond.methodLink (mk_nm 13) 67 (mc_M 279).1 ∈ ms_tb ∧ Jvm.Cond.static (mc_M 279).1 ∈ ms_tb := ⟨mk_ca279, mk_tb (mk_sub11 (List.mem_of_getElem? (i := 230) rfl) rfl), mk_im279⟩
set_option maxRecDepth 100000 in
theorem mk_S16 : ms_callee mc_M 296 2 ∧ Jvm.Cond.methodLink (mk_nm 13) 87 (mc_M 296).1 ∈ ms_tb ∧ Jvm.Cond.static (mc_M 296).1 ∈ ms_tb := ⟨mk_ca296, mk_tb (mk_sub12 (List.mem_of_getElem? (i := 81) rfl) rfl), mk_im296⟩
set_option maxRecDepth 100000 in
theorem mk_S17 : ms_callee mc_M 303 1 ∧ Jvm.Cond.methodLink (mk_nm 14) 200 (mc_M 303).1 ∈ ms_tb ∧ Jvm.Cond.static (mc_M 303).1 ∈ ms_tb := ⟨mk_ca303, mk_tb (mk_sub10 (List.mem_of_getElem? (i := 79) rfl) rfl), mk_im303⟩
set_option maxRecDepth 100000 in
theorem mk_S18 : ms_callee mc_M 304 1 ∧ Jvm.Cond.methodLink (mk_nm 14) 204 (mc_M 304).1 ∈ ms_tb ∧ Jvm.Cond.static (mc_M 304).1 ∈ ms_tb := ⟨mk_ca304, mk_tb (mk_sub10 (List.mem_of_getElem? (i := 86) rfl) rfl), mk_im304⟩
set_option maxRecDepth 100000 in
theorem mk_S19 : ms_callee mc_M 374 1 ∧ Jvm.Cond.methodLink (mk_nm 14) 496 (mc_M 374).1 ∈ ms_tb ∧ Jvm.Cond.static (mc_M 374).1 ∈ ms_tb := ⟨mk_ca374, mk_tb (mk_sub12 (List.mem_of_getElem? (i := 162) rfl) rfl), mk_im374⟩
set_option maxRecDepth 100000 in
theorem mk_S20 : ms_callee mc_M 376 2 ∧ Jvm.Cond.methodLink (mk_nm 14) 508 (mc_M 376).1 ∈ ms_tb ∧ Jvm.Cond.static (mc_M 376).1 ∈ ms_tb := ⟨mk_ca376, mk_tb (mk_sub12 (List.mem_of_getElem? (i := 170) rfl) rfl), mk_im376⟩
set_option maxRecDepth 100000 in
theorem mk_S21 : ms_callee mc_M 401 2 ∧ Jvm.Cond.methodLink (mk_nm 16) 495 (mc_M 401).1 ∈ ms_tb ∧ Jvm.Cond.static (mc_M 401).1 ∈ ms_tb := ⟨mk_ca401, mk_tb (mk_sub5 (List.mem_of_getElem? (i := 173) rfl) rfl), mk_im401⟩
set_option maxRecDepth 100000 in
theorem mk_S22 : ms_callee mc_M 402 4 ∧ Jvm.Cond.methodLink (mk_nm 16) 637 (mc_M 402).1 ∈ ms_tb ∧ Jvm.Cond.static (mc_M 402).1 ∈ ms_tb := ⟨mk_ca402, mk_tb (mk_sub5 (List.mem_of_getElem? (i := 93) rfl) rfl), mk_im402⟩
set_option maxRecDepth 100000 in
theorem mk_S23 : ms_callee mc_M 405 3 ∧ Jvm.Cond.methodLink (mk_nm 16) 1059 (mc_M 405).1 ∈ ms_tb ∧ Jvm.Cond.static (mc_M 405).1 ∈ ms_tb := ⟨mk_ca405, mk_tb (mk_sub5 (List.mem_of_getElem? (i := 179) rfl) rfl), mk_im405⟩
set_option maxRecDepth 100000 in
theorem mk_S24 : ms_callee mc_M 398 2 ∧ Jvm.Cond.methodLink (mk_nm 17) 9 (mc_M 398).1 ∈ ms_tb ∧ Jvm.Cond.static (mc_M 398).1 ∈ ms_tb := ⟨mk_ca398, mk_tb (mk_sub5 (List.mem_of_getElem? (i := 176) rfl) rfl), mk_im398⟩
set_option maxRecDepth 100000 in
theorem mk_S25 : ms_callee mc_M 403 1 ∧ Jvm.Cond.methodLink (mk_nm 17) 88 (mc_M 403).1 ∈ ms_tb ∧ Jvm.Cond.static (mc_M 403).1 ∈ ms_tb := ⟨mk_ca403, mk_tb (mk_sub5 (List.mem_of_getElem? (i := 96) rfl) rfl), mk_im403⟩
set_option maxRecDepth 100000 in
theorem mk_S26 : ms_callee mc_M 404 4 ∧ Jvm.Cond.methodLink (mk_nm 17) 95 (mc_M 404).1 ∈ ms_tb ∧ Jvm.Cond.static (mc_M 404).1 ∈ ms_tb := ⟨mk_ca404, mk_tb (mk_sub5 (List.mem_of_getElem? (i := 103) rfl) rfl), mk_im404⟩
set_option maxRecDepth 100000 in
theorem mk_S_ok : ∀ t ∈ mk_S, ms_callee mc_M t.2.2.1 t.2.2.2 ∧ Jvm.Cond.methodLink (mk_nm t.1) t.2.1 (mc_M t.2.2.1).1 ∈ ms_tb ∧ Jvm.Cond.static (mc_M t.2.2.1).1 ∈ ms_tb := List.forall_mem_cons.mpr ⟨mk_S0, List.forall_mem_cons.mpr ⟨mk_S1, List.forall_mem_cons.mpr ⟨mk_S2, List.forall_mem_cons.mpr ⟨mk_S3, List.forall_mem_cons.mpr ⟨mk_S4, List.forall_mem_cons.mpr ⟨mk_S5, List.forall_mem_cons.mpr ⟨mk_S6, List.forall_mem_cons.mpr ⟨mk_S7, List.forall_mem_cons.mpr ⟨mk_S8, List.forall_mem_cons.mpr ⟨mk_S9, List.forall_mem_cons.mpr ⟨mk_S10, List.forall_mem_cons.mpr ⟨mk_S11, List.forall_mem_cons.mpr ⟨mk_S12, List.forall_mem_cons.mpr ⟨mk_S13, List.forall_mem_cons.mpr ⟨mk_S14, List.forall_mem_cons.mpr ⟨mk_S15, List.forall_mem_cons.mpr ⟨mk_S16, List.forall_mem_cons.mpr ⟨mk_S17, List.forall_mem_cons.mpr ⟨mk_S18, List.forall_mem_cons.mpr ⟨mk_S19, List.forall_mem_cons.mpr ⟨mk_S20, List.forall_mem_cons.mpr ⟨mk_S21, List.forall_mem_cons.mpr ⟨mk_S22, List.forall_mem_cons.mpr ⟨mk_S23, List.forall_mem_cons.mpr ⟨mk_S24, List.forall_mem_cons.mpr ⟨mk_S25, List.forall_mem_cons.mpr ⟨mk_S26, fun _ h => absurd h List.not_mem_nil⟩⟩⟩⟩⟩⟩⟩⟩⟩⟩⟩⟩⟩⟩⟩⟩⟩⟩⟩⟩⟩⟩⟩⟩⟩⟩⟩
def mk_I : List (Nat × Nat × Nat × Nat) := [(3, 29, 116, 2), (4, 11, 167, 3), (4, 22, 125, 2), (4, 76, 164, 6), (7, 71, 164, 6), (11, 15, 78, 1), (11, 22, 12, 2), (11, 31, 0, 3), (11, 40, 25, 2), (11, 70, 167, 3), (11, 78, 125, 2), (11, 82, 43, 3), (14, 120, 225, 1), (19, 9, 183, 1), (19, 12, 298, 1)]
set_option maxRecDepth 100000 in
theorem mk_I0 : ms_callee mc_M 116 (2 - 1) ∧ (mc_M 116).1.name = "<init>" ∧ (mc_M 116).2.2.2 = none ∧ Jvm.Cond.instanceMethod (mc_M 116).1 ∈ ms_tb ∧ Jvm.Cond.methodLink (mk_nm 3) 29 (mc_M 116).1 ∈ ms_tb := ⟨mk_ca116, rfl, rfl, mk_im116, mk_tb (mk_sub5 (List.mem_of_getElem? (i := 210) rfl) rfl)⟩
set_option maxRecDepth 100000 in
theorem mk_I1 : ms_callee mc_M 167 (3 - 1) ∧ (mc_M 167).1.name = "<init>" ∧ (mc_M 167).2.2.2 = none ∧ Jvm.Cond.instanceMethod (mc_M 167).1 ∈ ms_tb ∧ Jvm.Cond.methodLink (mk_nm 4) 11 (mc_M 167).1 ∈ ms_tb := ⟨mk_ca167, rfl, rfl, mk_im167, mk_tb (mk_sub1 (List.mem_of_getElem? (i := 40) rfl) rfl)⟩
set_option maxRecDepth 100000 in
theorem mk_I2 : ms_callee mc_M 125 (2 - 1) ∧ (mc_M 125).1.name = "<init>" ∧ (mc_M 125).2.2.2 = none ∧ Jvm.Cond.instanceMethod (mc_M 125).1 ∈ ms_tb ∧ Jvm.Cond.methodLink (mk_nm 4) 22 (mc_M 125).1 ∈ ms_tb := ⟨mk_ca125, rfl, rfl, mk_im125, mk_tb (mk_sub1 (List.mem_of_getElem? (i := 86) rfl) rfl)⟩
set_option maxRecDepth 100000 in
theorem mk_I3 : ms_callee mc_M 164 (6 - 1) ∧ (mc_M 164).1.name = "<init>" ∧ (mc_M 164).2.2.2 = none ∧ Jvm.Cond.instanceMethod (mc_M 164).1 ∈ ms_tb ∧ Jvm.Cond.methodLink (mk_nm 4) 76 (mc_M 164).1 ∈ ms_tb := ⟨mk_ca164, rfl, rfl, mk_im164, mk_tb (mk_sub1 (List.mem_of_getElem? (i := 168) rfl) rfl)⟩
set_option maxRecDepth 100000 in
theorem mk_I4 : ms_callee mc_M 164 (6 - 1) ∧ (mc_M 164).1.name = "<init>" ∧ (mc_M 164).2.2.2 = none ∧ Jvm.Cond.instanceMethod (mc_M 164).1 ∈ ms_tb ∧ Jvm.Cond.methodLink (mk_nm 7) 71 (mc_M 164).1 ∈ ms_tb := ⟨mk_ca164, rfl, rfl, mk_im164, mk_tb (mk_sub6 (List.mem_of_getElem? (i := 138) rfl) rfl)⟩
set_option maxRecDepth 100000 in
theorem mk_I5 : ms_callee mc_M 78 (1 - 1) ∧ (mc_M 78).1.name = "<init>" ∧ (mc_M 78).2.2.2 = none ∧ Jvm.Cond.instanceMethod (mc_M 78).1 ∈ ms_tb ∧ Jvm.Cond.methodLink (mk_nm 11) 15 (mc_M 78).1 ∈ ms_tb := ⟨mk_ca78, rfl, rfl, mk_im78, mk_tb (mk_sub1 (List.mem_of_getElem? (i := 34) rfl) rfl)⟩
set_option maxRecDepth 100000 in
theorem mk_I6 : ms_callee mc_M 12 (2 - 1) ∧ (mc_M 12).1.name = "<init>" ∧ (mc_M 12).2.2.2 = none ∧ Jvm.Cond.instanceMethod (mc_M 12).1 ∈ ms_tb ∧ Jvm.Cond.methodLink (mk_nm 11) 22 (mc_M 12).1 ∈ ms_tb := ⟨mk_ca12, rfl, rfl, mk_im12, mk_tb (mk_sub2 (List.mem_of_getElem? (i := 110) rfl) rfl)⟩
set_option maxRecDepth 100000 in
theorem mk_I7 : ms_callee mc_M 0 (3 - 1) ∧ (mc_M 0).1.name = "<init>" ∧ (mc_M 0).2.2.2 = none ∧ Jvm.Cond.instanceMethod (mc_M 0).1 ∈ ms_tb ∧ Jvm.Cond.methodLink (mk_nm 11) 31 (mc_M 0).1 ∈ ms_tb := ⟨mk_ca0, rfl, rfl, mk_im0, mk_tb (mk_sub3 (List.mem_of_getElem? (i := 17) rfl) rfl)⟩
set_option maxRecDepth 100000 in
theorem mk_I8 : ms_callee mc_M 25 (2 - 1) ∧ (mc_M 25).1.name = "<init>" ∧ (mc_M 25).2.2.2 = none ∧ Jvm.Cond.instanceMethod (mc_M 25).1 ∈ ms_tb ∧ Jvm.Cond.methodLink (mk_nm 11) 40 (mc_M 25).1 ∈ ms_tb := ⟨mk_ca25, rfl, rfl, mk_im25, mk_tb (mk_sub3 (List.mem_of_getElem? (i := 84) rfl) rfl)⟩
set_option maxRecDepth 100000 in
theorem mk_I9 : ms_callee mc_M 167 (3 - 1) ∧ (mc_M 167).1.name = "<init>" ∧ (mc_M 167).2.2.2 = none ∧ Jvm.Cond.instanceMethod (mc_M 167).1 ∈ ms_tb ∧ Jvm.Cond.methodLink (mk_nm 11) 70 (mc_M 167).1 ∈ ms_tb := ⟨mk_ca167, rfl, rfl, mk_im167, mk_tb (mk_sub5 (List.mem_of_getElem? (i := 29) rfl) rfl)⟩
set_option maxRecDepth 100000 in
theorem mk_I10 : ms_callee mc_M 125 (2 - 1) ∧ (mc_M 125).1.name = "<init>" ∧ (mc_M 125).2.2.2 = none ∧ Jvm.Cond.instanceMethod (mc_M 125).1 ∈ ms_tb ∧ Jvm.Cond.methodLink (mk_nm 11) 78 (mc_M 125).1 ∈ ms_tb := ⟨mk_ca125, rfl, rfl, mk_im125, mk_tb (mk_sub5 (List.mem_of_getElem? (i := 201) rfl) rfl)⟩
set_option maxRecDepth 100000 in
theorem mk_I11 : ms_callee mc_M 43 (3 - 1) ∧ (mc_M 43).1.name = "<init>" ∧ (mc_M 43).2.2.2 = none ∧ Jvm.Cond.instanceMethod (mc_M 43).1 ∈ ms_tb ∧ Jvm.Cond.methodLink (mk_nm 11) 82 (mc_M 43).1 ∈ ms_tb := ⟨mk_ca43, rfl, rfl, mk_im43, mk_tb (mk_sub5 (List.mem_of_getElem? (i := 204) rfl) rfl)⟩
set_option maxRecDepth 100000 in
theorem mk_I12 : ms_callee mc_M 225 (1 - 1) ∧ (mc_M 225).1.name = "<init>" ∧ (mc_M 225).2.2.2 = none ∧ Jvm.Cond.instanceMethod (mc_M 225).1 ∈ ms_tb ∧ Jvm.Cond.methodLink (mk_nm 14) 120 (mc_M 225).1 ∈ ms_tb := ⟨mk_ca225, rfl, rfl, mk_im225, mk_tb (mk_sub8 (List.mem_of_getElem? (i := 126) rfl) rfl)⟩
set_option maxRecDepth 100000 in
theorem mk_I13 : ms_callee mc_M 183 (1 - 1) ∧ (mc_M 183).1.name = "<init>" ∧ (mc_M 183).2.2.2 = none ∧ Jvm.Cond.instanceMethod (mc_M 183).1 ∈ ms_tb ∧ Jvm.Cond.methodLink (mk_nm 19) 9 (mc_M 183).1 ∈ ms_tb := ⟨mk_ca183, rfl, rfl, mk_im183, mk_tb (mk_sub1 (List.mem_of_getElem? (i := 26) rfl) rfl)⟩
set_option maxRecDepth 100000 in
theorem mk_I14 : ms_callee mc_M 298 (1 - 1) ∧ (mc_M 298).1.name = "<init>" ∧ (mc_M 298).2.2.2 = none ∧ Jvm.Cond.instanceMethod (mc_M 298).1 ∈ ms_tb ∧ Jvm.Cond.methodLink (mk_nm 19) 12 (mc_M 298).1 ∈ ms_tb := ⟨mk_ca298, rfl, rfl, mk_im298, mk_tb (mk_sub8 (List.mem_of_getElem? (i := 119) rfl) rfl)⟩
set_option maxRecDepth 100000 in
theorem mk_I_ok : ∀ t ∈ mk_I, ms_callee mc_M t.2.2.1 (t.2.2.2 - 1) ∧ (mc_M t.2.2.1).1.name = "<init>" ∧ (mc_M t.2.2.1).2.2.2 = none ∧ Jvm.Cond.instanceMethod (mc_M t.2.2.1).1 ∈ ms_tb ∧ Jvm.Cond.methodLink (mk_nm t.1) t.2.1 (mc_M t.2.2.1).1 ∈ ms_tb := List.forall_mem_cons.mpr ⟨mk_I0, List.forall_mem_cons.mpr ⟨mk_I1, List.forall_mem_cons.mpr ⟨mk_I2, List.forall_mem_cons.mpr ⟨mk_I3, List.forall_mem_cons.mpr ⟨mk_I4, List.forall_mem_cons.mpr ⟨mk_I5, List.forall_mem_cons.mpr ⟨mk_I6, List.forall_mem_cons.mpr ⟨mk_I7, List.forall_mem_cons.mpr ⟨mk_I8, List.forall_mem_cons.mpr ⟨mk_I9, List.forall_mem_cons.mpr ⟨mk_I10, List.forall_mem_cons.mpr ⟨mk_I11, List.forall_mem_cons.mpr ⟨mk_I12, List.forall_mem_cons.mpr ⟨mk_I13, List.forall_mem_cons.mpr ⟨mk_I14, fun _ h => absurd h List.not_mem_nil⟩⟩⟩⟩⟩⟩⟩⟩⟩⟩⟩⟩⟩⟩⟩
def mk_N : List (Nat × Nat × Nat × Nat) := [(0, 21, 139, 1), (1, 11, 96, 1), (1, 20, 139, 1), (11, 117, 139, 1), (12, 63, 276, 1), (14, 127, 276, 1)]
set_option maxRecDepth 100000 in
theorem mk_N0 : ms_callee mc_M 139 (1 - 1) ∧ (mc_M 139).1.name = "<init>" ∧ (mc_M 139).2.2.2 = none ∧ Jvm.Cond.instanceMethod (mc_M 139).1 ∈ ms_tb ∧ ∃ host, Jvm.Cond.methodLinkNest (mk_nm 0) 21 (mc_M 139).1 host ∈ ms_tb := ⟨mk_ca139, rfl, rfl, mk_im139, _, List.mem_append_right _ (List.mem_append_left _ (List.mem_of_getElem? (i := 2) rfl))⟩
set_option maxRecDepth 100000 in
theorem mk_N1 : ms_callee mc_M 96 (1 - 1) ∧ (mc_M 96).1.name = "<init>" ∧ (mc_M 96).2.2.2 = none ∧ Jvm.Cond.instanceMethod (mc_M 96).1 ∈ ms_tb ∧ ∃ host, Jvm.Cond.methodLinkNest (mk_nm 1) 11 (mc_M 96).1 host ∈ ms_tb := ⟨mk_ca96, rfl, rfl, mk_im96, _, List.mem_append_right _ (List.mem_append_left _ (List.mem_of_getElem? (i := 0) rfl))⟩
set_option maxRecDepth 100000 in
theorem mk_N2 : ms_callee mc_M 139 (1 - 1) ∧ (mc_M 139).1.name = "<init>" ∧ (mc_M 139).2.2.2 = none ∧ Jvm.Cond.instanceMethod (mc_M 139).1 ∈ ms_tb ∧ ∃ host, Jvm.Cond.methodLinkNest (mk_nm 1) 20 (mc_M 139).1 host ∈ ms_tb := ⟨mk_ca139, rfl, rfl, mk_im139, _, List.mem_append_right _ (List.mem_append_left _ (List.mem_of_getElem? (i := 1) rfl))⟩
set_option maxRecDepth 100000 in
theorem mk_N3 : ms_callee mc_M 139 (1 - 1) ∧ (mc_M 139).1.name = "<init>" ∧ (mc_M 139).2.2.2 = none ∧ Jvm.Cond.instanceMethod (mc_M 139).1 ∈ ms_tb ∧ ∃ host, Jvm.Cond.methodLinkNest (mk_nm 11) 117 (mc_M 139).1 host ∈ ms_tb := ⟨mk_ca139, rfl, rfl, mk_im139, _, List.mem_append_right _ (List.mem_append_left _ (List.mem_of_getElem? (i := 3) rfl))⟩
set_option maxRecDepth 100000 in
theorem mk_N4 : ms_callee mc_M 276 (1 - 1) ∧ (mc_M 276).1.name = "<init>" ∧ (mc_M 276).2.2.2 = none ∧ Jvm.Cond.instanceMethod (mc_M 276).1 ∈ ms_tb ∧ ∃ host, Jvm.Cond.methodLinkNest (mk_nm 12) 63 (mc_M 276).1 host ∈ ms_tb := ⟨mk_ca276, rfl, rfl, mk_im276, _, List.mem_append_right _ (List.mem_append_left _ (List.mem_of_getElem? (i := 4) rfl))⟩
set_option maxRecDepth 100000 in
theorem mk_N5 : ms_callee mc_M 276 (1 - 1) ∧ (mc_M 276).1.name = "<init>" ∧ (mc_M 276).2.2.2 = none ∧ Jvm.Cond.instanceMethod (mc_M 276).1 ∈ ms_tb ∧ ∃ host, Jvm.Cond.methodLinkNest (mk_nm 14) 127 (mc_M 276).1 host ∈ ms_tb := ⟨mk_ca276, rfl, rfl, mk_im276, _, List.mem_append_right _ (List.mem_append_left _ (List.mem_of_getElem? (i := 5) rfl))⟩
set_option maxRecDepth 100000 in
theorem mk_N_ok : ∀ t ∈ mk_N, ms_callee mc_M t.2.2.1 (t.2.2.2 - 1) ∧ (mc_M t.2.2.1).1.name = "<init>" ∧ (mc_M t.2.2.1).2.2.2 = none ∧ Jvm.Cond.instanceMethod (mc_M t.2.2.1).1 ∈ ms_tb ∧ ∃ host, Jvm.Cond.methodLinkNest (mk_nm t.1) t.2.1 (mc_M t.2.2.1).1 host ∈ ms_tb := List.forall_mem_cons.mpr ⟨mk_N0, List.forall_mem_cons.mpr ⟨mk_N1, List.forall_mem_cons.mpr ⟨mk_N2, List.forall_mem_cons.mpr ⟨mk_N3, List.forall_mem_cons.mpr ⟨mk_N4, List.forall_mem_cons.mpr ⟨mk_N5, fun _ h => absurd h List.not_mem_nil⟩⟩⟩⟩⟩⟩
def mk_O : List (Nat × Nat) := [(0, 3), (1, 3), (2, 3), (3, 3), (4, 3), (5, 3), (6, 3), (7, 3), (8, 3), (9, 3), (10, 3), (11, 3), (12, 1), (13, 1), (14, 1)]
set_option maxRecDepth 100000 in
theorem mk_O0 : Jvm.Cond.methodLink (mk_nm 0) 3 objectInit ∈ ms_tb ∧ Jvm.Cond.instanceMethod objectInit ∈ ms_tb ∧ Jvm.Cond.code objectInit ⟨#[0xb1]⟩ 1 none ∈ ms_tb := ⟨mk_tb (mk_sub3 (List.mem_of_getElem? (i := 20) rfl) rfl), mk_tb (mk_sub1 (List.mem_of_getElem? (i := 30) rfl) rfl), mk_tb (mk_sub1 (List.mem_of_getElem? (i := 31) rfl) rfl)⟩
set_option maxRecDepth 100000 in
theorem mk_O1 : Jvm.Cond.methodLink (mk_nm 1) 3 objectInit ∈ ms_tb ∧ Jvm.Cond.instanceMethod objectInit ∈ ms_tb ∧ Jvm.Cond.code objectInit ⟨#[0xb1]⟩ 1 none ∈ ms_tb := ⟨mk_tb (mk_sub2 (List.mem_of_getElem? (i := 113) rfl) rfl), mk_tb (mk_sub1 (List.mem_of_getElem? (i := 30) rfl) rfl), mk_tb (mk_sub1 (List.mem_of_getElem? (i := 31) rfl) rfl)⟩
set_option maxRecDepth 100000 in
theorem mk_O2 : Jvm.Cond.methodLink (mk_nm 2) 3 objectInit ∈ ms_tb ∧ Jvm.Cond.instanceMethod objectInit ∈ ms_tb ∧ Jvm.Cond.code objectInit ⟨#[0xb1]⟩ 1 none ∈ ms_tb := ⟨mk_tb (mk_sub3 (List.mem_of_getElem? (i := 87) rfl) rfl), mk_tb (mk_sub1 (List.mem_of_getElem? (i := 30) rfl) rfl), mk_tb (mk_sub1 (List.mem_of_getElem? (i := 31) rfl) rfl)⟩
set_option maxRecDepth 100000 in
theorem mk_O3 : Jvm.Cond.methodLink (mk_nm 3) 3 objectInit ∈ ms_tb ∧ Jvm.Cond.instanceMethod objectInit ∈ ms_tb ∧ Jvm.Cond.code objectInit ⟨#[0xb1]⟩ 1 none ∈ ms_tb := ⟨mk_tb (mk_sub5 (List.mem_of_getElem? (i := 207) rfl) rfl), mk_tb (mk_sub1 (List.mem_of_getElem? (i := 30) rfl) rfl), mk_tb (mk_sub1 (List.mem_of_getElem? (i := 31) rfl) rfl)⟩
set_option maxRecDepth 100000 in
theorem mk_O4 : Jvm.Cond.methodLink (mk_nm 4) 3 objectInit ∈ ms_tb ∧ Jvm.Cond.instanceMethod objectInit ∈ ms_tb ∧ Jvm.Cond.code objectInit ⟨#[0xb1]⟩ 1 none ∈ ms_tb := ⟨mk_tb (mk_sub1 (List.mem_of_getElem? (i := 37) rfl) rfl), mk_tb (mk_sub1 (List.mem_of_getElem? (i := 30) rfl) rfl), mk_tb (mk_sub1 (List.mem_of_getElem? (i := 31) rfl) rfl)⟩
set_option maxRecDepth 100000 in
theorem mk_O5 : Jvm.Cond.methodLink (mk_nm 5) 3 objectInit ∈ ms_tb ∧ Jvm.Cond.instanceMethod objectInit ∈ ms_tb ∧ Jvm.Cond.code objectInit ⟨#[0xb1]⟩ 1 none ∈ ms_tb := ⟨mk_tb (mk_sub2 (List.mem_of_getElem? (i := 119) rfl) rfl), mk_tb (mk_sub1 (List.mem_of_getElem? (i := 30) rfl) rfl), mk_tb (mk_sub1 (List.mem_of_getElem? (i := 31) rfl) rfl)⟩
set_option maxRecDepth 100000 in
theorem mk_O6 : Jvm.Cond.methodLink (mk_nm 6) 3 objectInit ∈ ms_tb ∧ Jvm.Cond.instanceMethod objectInit ∈ ms_tb ∧ Jvm.Cond.code objectInit ⟨#[0xb1]⟩ 1 none ∈ ms_tb := ⟨mk_tb (mk_sub5 (List.mem_of_getElem? (i := 213) rfl) rfl), mk_tb (mk_sub1 (List.mem_of_getElem? (i := 30) rfl) rfl), mk_tb (mk_sub1 (List.mem_of_getElem? (i := 31) rfl) rfl)⟩
set_option maxRecDepth 100000 in
theorem mk_O7 : Jvm.Cond.methodLink (mk_nm 7) 3 objectInit ∈ ms_tb ∧ Jvm.Cond.instanceMethod objectInit ∈ ms_tb ∧ Jvm.Cond.code objectInit ⟨#[0xb1]⟩ 1 none ∈ ms_tb := ⟨mk_tb (mk_sub1 (List.mem_of_getElem? (i := 89) rfl) rfl), mk_tb (mk_sub1 (List.mem_of_getElem? (i := 30) rfl) rfl), mk_tb (mk_sub1 (List.mem_of_getElem? (i := 31) rfl) rfl)⟩
set_option maxRecDepth 100000 in
theorem mk_O8 : Jvm.Cond.methodLink (mk_nm 8) 3 objectInit ∈ ms_tb ∧ Jvm.Cond.instanceMethod objectInit ∈ ms_tb ∧ Jvm.Cond.code objectInit ⟨#[0xb1]⟩ 1 none ∈ ms_tb := ⟨mk_tb (mk_sub2 (List.mem_of_getElem? (i := 190) rfl) rfl), mk_tb (mk_sub1 (List.mem_of_getElem? (i := 30) rfl) rfl), mk_tb (mk_sub1 (List.mem_of_getElem? (i := 31) rfl) rfl)⟩
set_option maxRecDepth 100000 in
theorem mk_O9 : Jvm.Cond.methodLink (mk_nm 9) 3 objectInit ∈ ms_tb ∧ Jvm.Cond.instanceMethod objectInit ∈ ms_tb ∧ Jvm.Cond.code objectInit ⟨#[0xb1]⟩ 1 none ∈ ms_tb := ⟨mk_tb (mk_sub1 (List.mem_of_getElem? (i := 171) rfl) rfl), mk_tb (mk_sub1 (List.mem_of_getElem? (i := 30) rfl) rfl), mk_tb (mk_sub1 (List.mem_of_getElem? (i := 31) rfl) rfl)⟩
set_option maxRecDepth 100000 in
theorem mk_O10 : Jvm.Cond.methodLink (mk_nm 10) 3 objectInit ∈ ms_tb ∧ Jvm.Cond.instanceMethod objectInit ∈ ms_tb ∧ Jvm.Cond.code objectInit ⟨#[0xb1]⟩ 1 none ∈ ms_tb := ⟨mk_tb (mk_sub1 (List.mem_of_getElem? (i := 43) rfl) rfl), mk_tb (mk_sub1 (List.mem_of_getElem? (i := 30) rfl) rfl), mk_tb (mk_sub1 (List.mem_of_getElem? (i := 31) rfl) rfl)⟩
set_option maxRecDepth 100000 in
theorem mk_O11 : Jvm.Cond.methodLink (mk_nm 11) 3 objectInit ∈ ms_tb ∧ Jvm.Cond.instanceMethod objectInit ∈ ms_tb ∧ Jvm.Cond.code objectInit ⟨#[0xb1]⟩ 1 none ∈ ms_tb := ⟨mk_tb (mk_sub1 (List.mem_of_getElem? (i := 29) rfl) rfl), mk_tb (mk_sub1 (List.mem_of_getElem? (i := 30) rfl) rfl), mk_tb (mk_sub1 (List.mem_of_getElem? (i := 31) rfl) rfl)⟩
set_option maxRecDepth 100000 in
theorem mk_O12 : Jvm.Cond.methodLink (mk_nm 12) 1 objectInit ∈ ms_tb ∧ Jvm.Cond.instanceMethod objectInit ∈ ms_tb ∧ Jvm.Cond.code objectInit ⟨#[0xb1]⟩ 1 none ∈ ms_tb := ⟨mk_tb (mk_sub8 (List.mem_of_getElem? (i := 129) rfl) rfl), mk_tb (mk_sub1 (List.mem_of_getElem? (i := 30) rfl) rfl), mk_tb (mk_sub1 (List.mem_of_getElem? (i := 31) rfl) rfl)⟩
set_option maxRecDepth 100000 in
theorem mk_O13 : Jvm.Cond.methodLink (mk_nm 13) 1 objectInit ∈ ms_tb ∧ Jvm.Cond.instanceMethod objectInit ∈ ms_tb ∧ Jvm.Cond.code objectInit ⟨#[0xb1]⟩ 1 none ∈ ms_tb := ⟨mk_tb (mk_sub8 (List.mem_of_getElem? (i := 136) rfl) rfl), mk_tb (mk_sub1 (List.mem_of_getElem? (i := 30) rfl) rfl), mk_tb (mk_sub1 (List.mem_of_getElem? (i := 31) rfl) rfl)⟩
set_option maxRecDepth 100000 in
theorem mk_O14 : Jvm.Cond.methodLink (mk_nm 14) 1 objectInit ∈ ms_tb ∧ Jvm.Cond.instanceMethod objectInit ∈ ms_tb ∧ Jvm.Cond.code objectInit ⟨#[0xb1]⟩ 1 none ∈ ms_tb := ⟨mk_tb (mk_sub8 (List.mem_of_getElem? (i := 122) rfl) rfl), mk_tb (mk_sub1 (List.mem_of_getElem? (i := 30) rfl) rfl), mk_tb (mk_sub1 (List.mem_of_getElem? (i := 31) rfl) rfl)⟩
set_option maxRecDepth 100000 in
theorem mk_O_ok : ∀ t ∈ mk_O, Jvm.Cond.methodLink (mk_nm t.1) t.2 objectInit ∈ ms_tb ∧ Jvm.Cond.instanceMethod objectInit ∈ ms_tb ∧ Jvm.Cond.code objectInit ⟨#[0xb1]⟩ 1 none ∈ ms_tb := List.forall_mem_cons.mpr ⟨mk_O0, List.forall_mem_cons.mpr ⟨mk_O1, List.forall_mem_cons.mpr ⟨mk_O2, List.forall_mem_cons.mpr ⟨mk_O3, List.forall_mem_cons.mpr ⟨mk_O4, List.forall_mem_cons.mpr ⟨mk_O5, List.forall_mem_cons.mpr ⟨mk_O6, List.forall_mem_cons.mpr ⟨mk_O7, List.forall_mem_cons.mpr ⟨mk_O8, List.forall_mem_cons.mpr ⟨mk_O9, List.forall_mem_cons.mpr ⟨mk_O10, List.forall_mem_cons.mpr ⟨mk_O11, List.forall_mem_cons.mpr ⟨mk_O12, List.forall_mem_cons.mpr ⟨mk_O13, List.forall_mem_cons.mpr ⟨mk_O14, fun _ h => absurd h List.not_mem_nil⟩⟩⟩⟩⟩⟩⟩⟩⟩⟩⟩⟩⟩⟩⟩
def mk_M20_ : List (Nat × Nat) := [(3, 42), (12, 312), (14, 484), (15, 304), (17, 38)]
set_option maxRecDepth 100000 in
theorem mk_M20_0 : ms_mw (mk_nm 3) 42 Lib.Math.min.name Lib.Math.min.code 2 .int := ⟨mk_tb (mk_sub6 (List.mem_of_getElem? (i := 5) rfl) rfl), mk_tb (mk_sub1 (List.mem_of_getElem? (i := 55) rfl) rfl), mk_tb (mk_sub1 (List.mem_of_getElem? (i := 5) rfl) rfl), mk_tb (mk_sub1 (List.mem_of_getElem? (i := 56) rfl) rfl)⟩
set_option maxRecDepth 100000 in
theorem mk_M20_1 : ms_mw (mk_nm 12) 312 Lib.Math.min.name Lib.Math.min.code 2 .int := ⟨mk_tb (mk_sub11 (List.mem_of_getElem? (i := 213) rfl) rfl), mk_tb (mk_sub1 (List.mem_of_getElem? (i := 55) rfl) rfl), mk_tb (mk_sub1 (List.mem_of_getElem? (i := 5) rfl) rfl), mk_tb (mk_sub1 (List.mem_of_getElem? (i := 56) rfl) rfl)⟩
set_option maxRecDepth 100000 in
theorem mk_M20_2 : ms_mw (mk_nm 14) 484 Lib.Math.min.name Lib.Math.min.code 2 .int := ⟨mk_tb (mk_sub12 (List.mem_of_getElem? (i := 133) rfl) rfl), mk_tb (mk_sub1 (List.mem_of_getElem? (i := 55) rfl) rfl), mk_tb (mk_sub1 (List.mem_of_getElem? (i := 5) rfl) rfl), mk_tb (mk_sub1 (List.mem_of_getElem? (i := 56) rfl) rfl)⟩
set_option maxRecDepth 100000 in
theorem mk_M20_3 : ms_mw (mk_nm 15) 304 Lib.Math.min.name Lib.Math.min.code 2 .int := ⟨mk_tb (mk_sub1 (List.mem_of_getElem? (i := 54) rfl) rfl), mk_tb (mk_sub1 (List.mem_of_getElem? (i := 55) rfl) rfl), mk_tb (mk_sub1 (List.mem_of_getElem? (i := 5) rfl) rfl), mk_tb (mk_sub1 (List.mem_of_getElem? (i := 56) rfl) rfl)⟩
set_option maxRecDepth 100000 in
theorem mk_M20_4 : ms_mw (mk_nm 17) 38 Lib.Math.min.name Lib.Math.min.code 2 .int := ⟨mk_tb (mk_sub5 (List.mem_of_getElem? (i := 102) rfl) rfl), mk_tb (mk_sub1 (List.mem_of_getElem? (i := 55) rfl) rfl), mk_tb (mk_sub1 (List.mem_of_getElem? (i := 5) rfl) rfl), mk_tb (mk_sub1 (List.mem_of_getElem? (i := 56) rfl) rfl)⟩
set_option maxRecDepth 100000 in
theorem mk_M20__ok : ∀ t ∈ mk_M20_, ms_mw (mk_nm t.1) t.2 Lib.Math.min.name Lib.Math.min.code 2 .int := List.forall_mem_cons.mpr ⟨mk_M20_0, List.forall_mem_cons.mpr ⟨mk_M20_1, List.forall_mem_cons.mpr ⟨mk_M20_2, List.forall_mem_cons.mpr ⟨mk_M20_3, List.forall_mem_cons.mpr ⟨mk_M20_4, fun _ h => absurd h List.not_mem_nil⟩⟩⟩⟩⟩
def mk_M21_ : List (Nat × Nat) := [(2, 169), (17, 92)]
set_option maxRecDepth 100000 in
theorem mk_M21_0 : ms_mw (mk_nm 2) 169 Lib.Math.max.name Lib.Math.max.code 2 .int := ⟨mk_tb (mk_sub8 (List.mem_of_getElem? (i := 25) rfl) rfl), mk_tb (mk_sub5 (List.mem_of_getElem? (i := 100) rfl) rfl), mk_tb (mk_sub1 (List.mem_of_getElem? (i := 5) rfl) rfl), mk_tb (mk_sub5 (List.mem_of_getElem? (i := 101) rfl) rfl)⟩
set_option maxRecDepth 100000 in
theorem mk_M21_1 : ms_mw (mk_nm 17) 92 Lib.Math.max.name Lib.Math.max.code 2 .int := ⟨mk_tb (mk_sub5 (List.mem_of_getElem? (i := 99) rfl) rfl), mk_tb (mk_sub5 (List.mem_of_getElem? (i := 100) rfl) rfl), mk_tb (mk_sub1 (List.mem_of_getElem? (i := 5) rfl) rfl), mk_tb (mk_sub5 (List.mem_of_getElem? (i := 101) rfl) rfl)⟩
set_option maxRecDepth 100000 in
theorem mk_M21__ok : ∀ t ∈ mk_M21_, ms_mw (mk_nm t.1) t.2 Lib.Math.max.name Lib.Math.max.code 2 .int := List.forall_mem_cons.mpr ⟨mk_M21_0, List.forall_mem_cons.mpr ⟨mk_M21_1, fun _ h => absurd h List.not_mem_nil⟩⟩
def mk_M22_ : List (Nat × Nat) := [(1, 142), (5, 117), (8, 70), (12, 111), (13, 58), (14, 527)]
set_option maxRecDepth 100000 in
theorem mk_M22_0 : ms_mw (mk_nm 1) 142 Lib.MathLoose.min_long.x Lib.MathLoose.min_long.code 4 .long := ⟨mk_tb (mk_sub4 (List.mem_of_getElem? (i := 198) rfl) rfl), mk_tb (mk_sub3 (List.mem_of_getElem? (i := 191) rfl) rfl), mk_tb (mk_sub1 (List.mem_of_getElem? (i := 5) rfl) rfl), mk_tb (mk_sub3 (List.mem_of_getElem? (i := 192) rfl) rfl)⟩
set_option maxRecDepth 100000 in
theorem mk_M22_1 : ms_mw (mk_nm 5) 117 Lib.MathLoose.min_long.x Lib.MathLoose.min_long.code 4 .long := ⟨mk_tb (mk_sub4 (List.mem_of_getElem? (i := 82) rfl) rfl), mk_tb (mk_sub3 (List.mem_of_getElem? (i := 191) rfl) rfl), mk_tb (mk_sub1 (List.mem_of_getElem? (i := 5) rfl) rfl), mk_tb (mk_sub3 (List.mem_of_getElem? (i := 192) rfl) rfl)⟩
set_option maxRecDepth 100000 in
theorem mk_M22_2 : ms_mw (mk_nm 8) 70 Lib.MathLoose.min_long.x Lib.MathLoose.min_long.code 4 .long := ⟨mk_tb (mk_sub3 (List.mem_of_getElem? (i := 190) rfl) rfl), mk_tb (mk_sub3 (List.mem_of_getElem? (i := 191) rfl) rfl), mk_tb (mk_sub1 (List.mem_of_getElem? (i := 5) rfl) rfl), mk_tb (mk_sub3 (List.mem_of_getElem? (i := 192) rfl) rfl)⟩
set_option maxRecDepth 100000 in
theorem mk_M22_3 : ms_mw (mk_nm 12) 111 Lib.MathLoose.min_long.x Lib.MathLoose.min_long.code 4 .long := ⟨mk_tb (mk_sub11 (List.mem_of_getElem? (i := 126) rfl) rfl), mk_tb (mk_sub3 (List.mem_of_getElem? (i := 191) rfl) rfl), mk_tb (mk_sub1 (List.mem_of_getElem? (i := 5) rfl) rfl), mk_tb (mk_sub3 (List.mem_of_getElem? (i := 192) rfl) rfl)⟩
set_option maxRecDepth 100000 in
theorem mk_M22_4 : ms_mw (mk_nm 13) 58 Lib.MathLoose.min_long.x Lib.MathLoose.min_long.code 4 .long := ⟨mk_tb (mk_sub11 (List.mem_of_getElem? (i := 88) rfl) rfl), mk_tb (mk_sub3 (List.mem_of_getElem? (i := 191) rfl) rfl), mk_tb (mk_sub1 (List.mem_of_getElem? (i := 5) rfl) rfl), mk_tb (mk_sub3 (List.mem_of_getElem? (i := 192) rfl) rfl)⟩
set_option maxRecDepth 100000 in
theorem mk_M22_5 : ms_mw (mk_nm 14) 527 Lib.MathLoose.min_long.x Lib.MathLoose.min_long.code 4 .long := ⟨mk_tb (mk_sub12 (List.mem_of_getElem? (i := 184) rfl) rfl), mk_tb (mk_sub3 (List.mem_of_getElem? (i := 191) rfl) rfl), mk_tb (mk_sub1 (List.mem_of_getElem? (i := 5) rfl) rfl), mk_tb (mk_sub3 (List.mem_of_getElem? (i := 192) rfl) rfl)⟩
set_option maxRecDepth 100000 in
theorem mk_M22__ok : ∀ t ∈ mk_M22_, ms_mw (mk_nm t.1) t.2 Lib.MathLoose.min_long.x Lib.MathLoose.min_long.code 4 .long := List.forall_mem_cons.mpr ⟨mk_M22_0, List.forall_mem_cons.mpr ⟨mk_M22_1, List.forall_mem_cons.mpr ⟨mk_M22_2, List.forall_mem_cons.mpr ⟨mk_M22_3, List.forall_mem_cons.mpr ⟨mk_M22_4, List.forall_mem_cons.mpr ⟨mk_M22_5, fun _ h => absurd h List.not_mem_nil⟩⟩⟩⟩⟩⟩
def mk_M23_ : List (Nat × Nat) := [(1, 148), (5, 123), (8, 64), (12, 105), (13, 82), (14, 530)]
set_option maxRecDepth 100000 in
theorem mk_M23_0 : ms_mw (mk_nm 1) 148 Lib.MathLoose.max_long.x Lib.MathLoose.max_long.code 4 .long := ⟨mk_tb (mk_sub4 (List.mem_of_getElem? (i := 199) rfl) rfl), mk_tb (mk_sub3 (List.mem_of_getElem? (i := 188) rfl) rfl), mk_tb (mk_sub1 (List.mem_of_getElem? (i := 5) rfl) rfl), mk_tb (mk_sub3 (List.mem_of_getElem? (i := 189) rfl) rfl)⟩
set_option maxRecDepth 100000 in
theorem mk_M23_1 : ms_mw (mk_nm 5) 123 Lib.MathLoose.max_long.x Lib.MathLoose.max_long.code 4 .long := ⟨mk_tb (mk_sub4 (List.mem_of_getElem? (i := 83) rfl) rfl), mk_tb (mk_sub3 (List.mem_of_getElem? (i := 188) rfl) rfl), mk_tb (mk_sub1 (List.mem_of_getElem? (i := 5) rfl) rfl), mk_tb (mk_sub3 (List.mem_of_getElem? (i := 189) rfl) rfl)⟩
set_option maxRecDepth 100000 in
theorem mk_M23_2 : ms_mw (mk_nm 8) 64 Lib.MathLoose.max_long.x Lib.MathLoose.max_long.code 4 .long := ⟨mk_tb (mk_sub3 (List.mem_of_getElem? (i := 187) rfl) rfl), mk_tb (mk_sub3 (List.mem_of_getElem? (i := 188) rfl) rfl), mk_tb (mk_sub1 (List.mem_of_getElem? (i := 5) rfl) rfl), mk_tb (mk_sub3 (List.mem_of_getElem? (i := 189) rfl) rfl)⟩
set_option maxRecDepth 100000 in
theorem mk_M23_3 : ms_mw (mk_nm 12) 105 Lib.MathLoose.max_long.x Lib.MathLoose.max_long.code 4 .long := ⟨mk_tb (mk_sub11 (List.mem_of_getElem? (i := 125) rfl) rfl), mk_tb (mk_sub3 (List.mem_of_getElem? (i := 188) rfl) rfl), mk_tb (mk_sub1 (List.mem_of_getElem? (i := 5) rfl) rfl), mk_tb (mk_sub3 (List.mem_of_getElem? (i := 189) rfl) rfl)⟩
set_option maxRecDepth 100000 in
theorem mk_M23_4 : ms_mw (mk_nm 13) 82 Lib.MathLoose.max_long.x Lib.MathLoose.max_long.code 4 .long := ⟨mk_tb (mk_sub11 (List.mem_of_getElem? (i := 87) rfl) rfl), mk_tb (mk_sub3 (List.mem_of_getElem? (i := 188) rfl) rfl), mk_tb (mk_sub1 (List.mem_of_getElem? (i := 5) rfl) rfl), mk_tb (mk_sub3 (List.mem_of_getElem? (i := 189) rfl) rfl)⟩
set_option maxRecDepth 100000 in
theorem mk_M23_5 : ms_mw (mk_nm 14) 530 Lib.MathLoose.max_long.x Lib.MathLoose.max_long.code 4 .long := ⟨mk_tb (mk_sub12 (List.mem_of_getElem? (i := 185) rfl) rfl), mk_tb (mk_sub3 (List.mem_of_getElem? (i := 188) rfl) rfl), mk_tb (mk_sub1 (List.mem_of_getElem? (i := 5) rfl) rfl), mk_tb (mk_sub3 (List.mem_of_getElem? (i := 189) rfl) rfl)⟩
set_option maxRecDepth 100000 in
theorem mk_M23__ok : ∀ t ∈ mk_M23_, ms_mw (mk_nm t.1) t.2 Lib.MathLoose.max_long.x Lib.MathLoose.max_long.code 4 .long := List.forall_mem_cons.mpr ⟨mk_M23_0, List.forall_mem_cons.mpr ⟨mk_M23_1, List.forall_mem_cons.mpr ⟨mk_M23_2, List.forall_mem_cons.mpr ⟨mk_M23_3, List.forall_mem_cons.mpr ⟨mk_M23_4, List.forall_mem_cons.mpr ⟨mk_M23_5, fun _ h => absurd h List.not_mem_nil⟩⟩⟩⟩⟩⟩
def mk_M24_ : List (Nat × Nat) := [(14, 559)]
set_option maxRecDepth 100000 in
theorem mk_M24_0 : ms_mw (mk_nm 14) 559 Lib.MathLoose.abs_long.x Lib.MathLoose.abs_long.code 2 .long := ⟨mk_tb (mk_sub12 (List.mem_of_getElem? (i := 234) rfl) rfl), mk_tb (mk_sub12 (List.mem_of_getElem? (i := 235) rfl) rfl), mk_tb (mk_sub1 (List.mem_of_getElem? (i := 5) rfl) rfl), mk_tb (mk_sub12 (List.mem_of_getElem? (i := 236) rfl) rfl)⟩
set_option maxRecDepth 100000 in
theorem mk_M24__ok : ∀ t ∈ mk_M24_, ms_mw (mk_nm t.1) t.2 Lib.MathLoose.abs_long.x Lib.MathLoose.abs_long.code 2 .long := List.forall_mem_cons.mpr ⟨mk_M24_0, fun _ h => absurd h List.not_mem_nil⟩
def mk_M25_ : List (Nat × Nat) := [(13, 64)]
set_option maxRecDepth 100000 in
theorem mk_M25_0 : ms_mw (mk_nm 13) 64 fd_x fd_code 6 .long := ⟨mk_tb (mk_sub11 (List.mem_of_getElem? (i := 198) rfl) rfl), mk_tb (mk_sub11 (List.mem_of_getElem? (i := 199) rfl) rfl), mk_tb (mk_sub1 (List.mem_of_getElem? (i := 5) rfl) rfl), mk_tb (mk_sub11 (List.mem_of_getElem? (i := 200) rfl) rfl)⟩
set_option maxRecDepth 100000 in
theorem mk_M25__ok : ∀ t ∈ mk_M25_, ms_mw (mk_nm t.1) t.2 fd_x fd_code 6 .long := List.forall_mem_cons.mpr ⟨mk_M25_0, fun _ h => absurd h List.not_mem_nil⟩
def mk_X : List (Nat × Nat × Nat) := [(10, 69, 30), (10, 89, 33), (10, 95, 36), (10, 97, 39), (10, 99, 42), (10, 101, 45), (10, 103, 48), (10, 105, 51), (10, 107, 54), (11, 285, 3), (11, 296, 6), (11, 327, 9), (11, 329, 12), (11, 331, 15), (11, 340, 18), (11, 342, 21), (11, 344, 24), (11, 346, 27), (14, 153, 57), (14, 155, 60), (14, 157, 63), (14, 159, 66), (14, 161, 69), (14, 163, 72), (14, 165, 75), (14, 167, 78), (14, 553, 81), (14, 570, 84), (14, 572, 87), (14, 574, 90), (14, 579, 93), (14, 580, 96), (14, 585, 99), (14, 594, 102), (14, 596, 105)]
set_option maxRecDepth 100000 in
theorem mk_X0 : ∃ tx, (mk_nm 10, 69, tx, 30) ∈ mx_lk := ⟨_, List.mem_of_getElem? (i := 9) rfl⟩
set_option maxRecDepth 100000 in
theorem mk_X1 : ∃ tx, (mk_nm 10, 89, tx, 33) ∈ mx_lk := ⟨_, List.mem_of_getElem? (i := 10) rfl⟩
set_option maxRecDepth 100000 in
theorem mk_X2 : ∃ tx, (mk_nm 10, 95, tx, 36) ∈ mx_lk := ⟨_, List.mem_of_getElem? (i := 11) rfl⟩
set_option maxRecDepth 100000 in
theorem mk_X3 : ∃ tx, (mk_nm 10, 97, tx, 39) ∈ mx_lk := ⟨_, List.mem_of_getElem? (i := 12) rfl⟩
set_option maxRecDepth 100000 in
theorem mk_X4 : ∃ tx, (mk_nm 10, 99, tx, 42) ∈ mx_lk := ⟨_, List.mem_of_getElem? (i := 13) rfl⟩
set_option maxRecDepth 100000 in
theorem mk_X5 : ∃ tx, (mk_nm 10, 101, tx, 45) ∈ mx_lk := ⟨_, List.mem_of_getElem? (i := 14) rfl⟩
set_option maxRecDepth 100000 in
theorem mk_X6 : ∃ tx, (mk_nm 10, 103, tx, 48) ∈ mx_lk := ⟨_, List.mem_of_getElem? (i := 15) rfl⟩
set_option maxRecDepth 100000 in
theorem mk_X7 : ∃ tx, (mk_nm 10, 105, tx, 51) ∈ mx_lk := ⟨_, List.mem_of_getElem? (i := 16) rfl⟩
set_option maxRecDepth 100000 in
theorem mk_X8 : ∃ tx, (mk_nm 10, 107, tx, 54) ∈ mx_lk := ⟨_, List.mem_of_getElem? (i := 17) rfl⟩
set_option maxRecDepth 100000 in
theorem mk_X9 : ∃ tx, (mk_nm 11, 285, tx, 3) ∈ mx_lk := ⟨_, List.mem_of_getElem? (i := 0) rfl⟩
set_option maxRecDepth 100000 in
theorem mk_X10 : ∃ tx, (mk_nm 11, 296, tx, 6) ∈ mx_lk := ⟨_, List.mem_of_getElem? (i := 1) rfl⟩
set_option maxRecDepth 100000 in
theorem mk_X11 : ∃ tx, (mk_nm 11, 327, tx, 9) ∈ mx_lk := ⟨_, List.mem_of_getElem? (i := 2) rfl⟩
set_option maxRecDepth 100000 in
theorem mk_X12 : ∃ tx, (mk_nm 11, 329, tx, 12) ∈ mx_lk := ⟨_, List.mem_of_getElem? (i := 3) rfl⟩
set_option maxRecDepth 100000 in
theorem mk_X13 : ∃ tx, (mk_nm 11, 331, tx, 15) ∈ mx_lk := ⟨_, List.mem_of_getElem? (i := 4) rfl⟩
set_option maxRecDepth 100000 in
theorem mk_X14 : ∃ tx, (mk_nm 11, 340, tx, 18) ∈ mx_lk := ⟨_, List.mem_of_getElem? (i := 5) rfl⟩
set_option maxRecDepth 100000 in
theorem mk_X15 : ∃ tx, (mk_nm 11, 342, tx, 21) ∈ mx_lk := ⟨_, List.mem_of_getElem? (i := 6) rfl⟩
set_option maxRecDepth 100000 in
theorem mk_X16 : ∃ tx, (mk_nm 11, 344, tx, 24) ∈ mx_lk := ⟨_, List.mem_of_getElem? (i := 7) rfl⟩
set_option maxRecDepth 100000 in
theorem mk_X17 : ∃ tx, (mk_nm 11, 346, tx, 27) ∈ mx_lk := ⟨_, List.mem_of_getElem? (i := 8) rfl⟩
set_option maxRecDepth 100000 in
theorem mk_X18 : ∃ tx, (mk_nm 14, 153, tx, 57) ∈ mx_lk := ⟨_, List.mem_of_getElem? (i := 18) rfl⟩
set_option maxRecDepth 100000 in
theorem mk_X19 : ∃ tx, (mk_nm 14, 155, tx, 60) ∈ mx_lk := ⟨_, List.mem_of_getElem? (i := 19) rfl⟩
set_option maxRecDepth 100000 in
theorem mk_X20 : ∃ tx, (mk_nm 14, 157, tx, 63) ∈ mx_lk := ⟨_, List.mem_of_getElem? (i := 20) rfl⟩
set_option maxRecDepth 100000 in
theorem mk_X21 : ∃ tx, (mk_nm 14, 159, tx, 66) ∈ mx_lk := ⟨_, List.mem_of_getElem? (i := 21) rfl⟩
set_option maxRecDepth 100000 in
theorem mk_X22 : ∃ tx, (mk_nm 14, 161, tx, 69) ∈ mx_lk := ⟨_, List.mem_of_getElem? (i := 22) rfl⟩
set_option maxRecDepth 100000 in
theorem mk_X23 : ∃ tx, (mk_nm 14, 163, tx, 72) ∈ mx_lk := ⟨_, List.mem_of_getElem? (i := 23) rfl⟩
set_option maxRecDepth 100000 in
theorem mk_X24 : ∃ tx, (mk_nm 14, 165, tx, 75) ∈ mx_lk := ⟨_, List.mem_of_getElem? (i := 24) rfl⟩
set_option maxRecDepth 100000 in
theorem mk_X25 : ∃ tx, (mk_nm 14, 167, tx, 78) ∈ mx_lk := ⟨_, List.mem_of_getElem? (i := 25) rfl⟩
set_option maxRecDepth 100000 in
theorem mk_X26 : ∃ tx, (mk_nm 14, 553, tx, 81) ∈ mx_lk := ⟨_, List.mem_of_getElem? (i := 26) rfl⟩
set_option maxRecDepth 100000 in
theorem mk_X27 : ∃ tx, (mk_nm 14, 570, tx, 84) ∈ mx_lk := ⟨_, List.mem_of_getElem? (i := 27) rfl⟩
set_option maxRecDepth 100000 in
theorem mk_X28 : ∃ tx, (mk_nm 14, 572, tx, 87) ∈ mx_lk := ⟨_, List.mem_of_getElem? (i := 28) rfl⟩
set_option maxRecDepth 100000 in
theorem mk_X29 : ∃ tx, (mk_nm 14, 574, tx, 90) ∈ mx_lk := ⟨_, List.mem_of_getElem? (i := 29) rfl⟩
set_option maxRecDepth 100000 in
theorem mk_X30 : ∃ tx, (mk_nm 14, 579, tx, 93) ∈ mx_lk := ⟨_, List.mem_of_getElem? (i := 30) rfl⟩
set_option maxRecDepth 100000 in
theorem mk_X31 : ∃ tx, (mk_nm 14, 580, tx, 96) ∈ mx_lk := ⟨_, List.mem_of_getElem? (i := 31) rfl⟩
set_option maxRecDepth 100000 in
theorem mk_X32 : ∃ tx, (mk_nm 14, 585, tx, 99) ∈ mx_lk := ⟨_, List.mem_of_getElem? (i := 32) rfl⟩
set_option maxRecDepth 100000 in
theorem mk_X33 : ∃ tx, (mk_nm 14, 594, tx, 102) ∈ mx_lk := ⟨_, List.mem_of_getElem? (i := 33) rfl⟩
set_option maxRecDepth 100000 in
theorem mk_X34 : ∃ tx, (mk_nm 14, 596, tx, 105) ∈ mx_lk := ⟨_, List.mem_of_getElem? (i := 34) rfl⟩
set_option maxRecDepth 100000 in
theorem mk_X_ok : ∀ t ∈ mk_X, ∃ tx, (mk_nm t.1, t.2.1, tx, t.2.2) ∈ mx_lk := List.forall_mem_cons.mpr ⟨mk_X0, List.forall_mem_cons.mpr ⟨mk_X1, List.forall_mem_cons.mpr ⟨mk_X2, List.forall_mem_cons.mpr ⟨mk_X3, List.forall_mem_cons.mpr ⟨mk_X4, List.forall_mem_cons.mpr ⟨mk_X5, List.forall_mem_cons.mpr ⟨mk_X6, List.forall_mem_cons.mpr ⟨mk_X7, List.forall_mem_cons.mpr ⟨mk_X8, List.forall_mem_cons.mpr ⟨mk_X9, List.forall_mem_cons.mpr ⟨mk_X10, List.forall_mem_cons.mpr ⟨mk_X11, List.forall_mem_cons.mpr ⟨mk_X12, List.forall_mem_cons.mpr ⟨mk_X13, List.forall_mem_cons.mpr ⟨mk_X14, List.forall_mem_cons.mpr ⟨mk_X15, List.forall_mem_cons.mpr ⟨mk_X16, List.forall_mem_cons.mpr ⟨mk_X17, List.forall_mem_cons.mpr ⟨mk_X18, List.forall_mem_cons.mpr ⟨mk_X19, List.forall_mem_cons.mpr ⟨mk_X20, List.forall_mem_cons.mpr ⟨mk_X21, List.forall_mem_cons.mpr ⟨mk_X22, List.forall_mem_cons.mpr ⟨mk_X23, List.forall_mem_cons.mpr ⟨mk_X24, List.forall_mem_cons.mpr ⟨mk_X25, List.forall_mem_cons.mpr ⟨mk_X26, List.forall_mem_cons.mpr ⟨mk_X27, List.forall_mem_cons.mpr ⟨mk_X28, List.forall_mem_cons.mpr ⟨mk_X29, List.forall_mem_cons.mpr ⟨mk_X30, List.forall_mem_cons.mpr ⟨mk_X31, List.forall_mem_cons.mpr ⟨mk_X32, List.forall_mem_cons.mpr ⟨mk_X33, List.forall_mem_cons.mpr ⟨mk_X34, fun _ h => absurd h List.not_mem_nil⟩⟩⟩⟩⟩⟩⟩⟩⟩⟩⟩⟩⟩⟩⟩⟩⟩⟩⟩⟩⟩⟩⟩⟩⟩⟩⟩⟩⟩⟩⟩⟩⟩⟩⟩
def mk_G2_ : List (Nat × Nat) := [(8, 18)]
set_option maxRecDepth 100000 in
theorem mk_G2_0 : Jvm.Cond.fieldLink (mk_nm 8) 18 "InvariantDesk$State" "ROW" "[I" ∈ ms_tb := mk_tb (mk_sub3 (List.mem_of_getElem? (i := 219) rfl) rfl)
set_option maxRecDepth 100000 in
theorem mk_G2__ok : ∀ t ∈ mk_G2_, Jvm.Cond.fieldLink (mk_nm t.1) t.2 "InvariantDesk$State" "ROW" "[I" ∈ ms_tb := List.forall_mem_cons.mpr ⟨mk_G2_0, fun _ h => absurd h List.not_mem_nil⟩
def mk_G5_ : List (Nat × Nat) := [(16, 1053)]
set_option maxRecDepth 100000 in
theorem mk_G5_0 : Jvm.Cond.fieldLink (mk_nm 16) 1053 "jdk/internal/util/Preconditions" "SIOOBE_FORMATTER" "Ljava/util/function/BiFunction;" ∈ ms_tb := mk_tb (mk_sub5 (List.mem_of_getElem? (i := 124) rfl) rfl)
set_option maxRecDepth 100000 in
theorem mk_G5__ok : ∀ t ∈ mk_G5_, Jvm.Cond.fieldLink (mk_nm t.1) t.2 "jdk/internal/util/Preconditions" "SIOOBE_FORMATTER" "Ljava/util/function/BiFunction;" ∈ ms_tb := List.forall_mem_cons.mpr ⟨mk_G5_0, fun _ h => absurd h List.not_mem_nil⟩
def mk_G1_ : List (Nat × Nat) := [(16, 38)]
set_option maxRecDepth 100000 in
theorem mk_G1_0 : Jvm.Cond.fieldLink (mk_nm 16) 38 "java/lang/String" "COMPACT_STRINGS" "Z" ∈ ms_tb := mk_tb (mk_sub5 (List.mem_of_getElem? (i := 83) rfl) rfl)
set_option maxRecDepth 100000 in
theorem mk_G1__ok : ∀ t ∈ mk_G1_, Jvm.Cond.fieldLink (mk_nm t.1) t.2 "java/lang/String" "COMPACT_STRINGS" "Z" ∈ ms_tb := List.forall_mem_cons.mpr ⟨mk_G1_0, fun _ h => absurd h List.not_mem_nil⟩
def mk_H0_ : List (Nat × Nat) := [(16, 15)]
set_option maxRecDepth 100000 in
theorem mk_H0_0 : Jvm.Cond.fieldLink (mk_nm 16) 15 "java/lang/String" "coder" "B" ∈ ms_tb := mk_tb (mk_sub13 (List.mem_of_getElem? (i := 14) rfl) rfl)
set_option maxRecDepth 100000 in
theorem mk_H0__ok : ∀ t ∈ mk_H0_, Jvm.Cond.fieldLink (mk_nm t.1) t.2 "java/lang/String" "coder" "B" ∈ ms_tb := List.forall_mem_cons.mpr ⟨mk_H0_0, fun _ h => absurd h List.not_mem_nil⟩
def mk_H1_ : List (Nat × Nat) := [(16, 9)]
set_option maxRecDepth 100000 in
theorem mk_H1_0 : Jvm.Cond.fieldLink (mk_nm 16) 9 "java/lang/String" "value" "[B" ∈ ms_tb := mk_tb (mk_sub13 (List.mem_of_getElem? (i := 15) rfl) rfl)
set_option maxRecDepth 100000 in
theorem mk_H1__ok : ∀ t ∈ mk_H1_, Jvm.Cond.fieldLink (mk_nm t.1) t.2 "java/lang/String" "value" "[B" ∈ ms_tb := List.forall_mem_cons.mpr ⟨mk_H1_0, fun _ h => absurd h List.not_mem_nil⟩
def mk_Z : List (Nat × Nat) := [(15, 311)]
set_option maxRecDepth 100000 in
theorem mk_Z0 : Jvm.Cond.classLink (mk_nm 15) 311 "[B" ∈ ms_tb := mk_tb (mk_sub1 (List.mem_of_getElem? (i := 53) rfl) rfl)
set_option maxRecDepth 100000 in
theorem mk_Z_ok : ∀ t ∈ mk_Z, Jvm.Cond.classLink (mk_nm t.1) t.2 "[B" ∈ ms_tb := List.forall_mem_cons.mpr ⟨mk_Z0, fun _ h => absurd h List.not_mem_nil⟩
def mk_Q : List (Nat × Nat) := [(15, 310)]
set_option maxRecDepth 100000 in
theorem mk_Q0 : ms_clw (mk_nm 15) 310 := ⟨mk_tb (mk_sub1 (List.mem_of_getElem? (i := 47) rfl) rfl), mk_tb (mk_sub1 (List.mem_of_getElem? (i := 48) rfl) rfl), mk_tb (mk_sub1 (List.mem_of_getElem? (i := 49) rfl) rfl), mk_tb (mk_sub1 (List.mem_of_getElem? (i := 50) rfl) rfl), mk_tb (mk_sub1 (List.mem_of_getElem? (i := 51) rfl) rfl)⟩
set_option maxRecDepth 100000 in
theorem mk_Q_ok : ∀ t ∈ mk_Q, ms_clw (mk_nm t.1) t.2 := List.forall_mem_cons.mpr ⟨mk_Q0, fun _ h => absurd h List.not_mem_nil⟩
def mk_P : List (Nat × Nat) := [(4, 175), (8, 44), (12, 201), (13, 46), (15, 150)]
set_option maxRecDepth 100000 in
theorem mk_P0 : Jvm.Cond.methodLink (mk_nm 4) 175 arraycopyName ∈ ms_tb ∧ Jvm.Cond.native arraycopyName ∈ ms_tb ∧ Jvm.Cond.static arraycopyName ∈ ms_tb ∧ Jvm.Cond.initialized "java/lang/System" ∈ ms_tb := ⟨mk_tb (mk_sub7 (List.mem_of_getElem? (i := 73) rfl) rfl), mk_tb (mk_sub1 (List.mem_of_getElem? (i := 59) rfl) rfl), mk_tb (mk_sub1 (List.mem_of_getElem? (i := 58) rfl) rfl), mk_tb (mk_sub1 (List.mem_of_getElem? (i := 6) rfl) rfl)⟩
set_option maxRecDepth 100000 in
theorem mk_P1 : Jvm.Cond.methodLink (mk_nm 8) 44 arraycopyName ∈ ms_tb ∧ Jvm.Cond.native arraycopyName ∈ ms_tb ∧ Jvm.Cond.static arraycopyName ∈ ms_tb ∧ Jvm.Cond.initialized "java/lang/System" ∈ ms_tb := ⟨mk_tb (mk_sub3 (List.mem_of_getElem? (i := 186) rfl) rfl), mk_tb (mk_sub1 (List.mem_of_getElem? (i := 59) rfl) rfl), mk_tb (mk_sub1 (List.mem_of_getElem? (i := 58) rfl) rfl), mk_tb (mk_sub1 (List.mem_of_getElem? (i := 6) rfl) rfl)⟩
set_option maxRecDepth 100000 in
theorem mk_P2 : Jvm.Cond.methodLink (mk_nm 12) 201 arraycopyName ∈ ms_tb ∧ Jvm.Cond.native arraycopyName ∈ ms_tb ∧ Jvm.Cond.static arraycopyName ∈ ms_tb ∧ Jvm.Cond.initialized "java/lang/System" ∈ ms_tb := ⟨mk_tb (mk_sub11 (List.mem_of_getElem? (i := 21) rfl) rfl), mk_tb (mk_sub1 (List.mem_of_getElem? (i := 59) rfl) rfl), mk_tb (mk_sub1 (List.mem_of_getElem? (i := 58) rfl) rfl), mk_tb (mk_sub1 (List.mem_of_getElem? (i := 6) rfl) rfl)⟩
set_option maxRecDepth 100000 in
theorem mk_P3 : Jvm.Cond.methodLink (mk_nm 13) 46 arraycopyName ∈ ms_tb ∧ Jvm.Cond.native arraycopyName ∈ ms_tb ∧ Jvm.Cond.static arraycopyName ∈ ms_tb ∧ Jvm.Cond.initialized "java/lang/System" ∈ ms_tb := ⟨mk_tb (mk_sub9 (List.mem_of_getElem? (i := 83) rfl) rfl), mk_tb (mk_sub1 (List.mem_of_getElem? (i := 59) rfl) rfl), mk_tb (mk_sub1 (List.mem_of_getElem? (i := 58) rfl) rfl), mk_tb (mk_sub1 (List.mem_of_getElem? (i := 6) rfl) rfl)⟩
set_option maxRecDepth 100000 in
theorem mk_P4 : Jvm.Cond.methodLink (mk_nm 15) 150 arraycopyName ∈ ms_tb ∧ Jvm.Cond.native arraycopyName ∈ ms_tb ∧ Jvm.Cond.static arraycopyName ∈ ms_tb ∧ Jvm.Cond.initialized "java/lang/System" ∈ ms_tb := ⟨mk_tb (mk_sub1 (List.mem_of_getElem? (i := 57) rfl) rfl), mk_tb (mk_sub1 (List.mem_of_getElem? (i := 59) rfl) rfl), mk_tb (mk_sub1 (List.mem_of_getElem? (i := 58) rfl) rfl), mk_tb (mk_sub1 (List.mem_of_getElem? (i := 6) rfl) rfl)⟩
set_option maxRecDepth 100000 in
theorem mk_P_ok : ∀ t ∈ mk_P, Jvm.Cond.methodLink (mk_nm t.1) t.2 arraycopyName ∈ ms_tb ∧ Jvm.Cond.native arraycopyName ∈ ms_tb ∧ Jvm.Cond.static arraycopyName ∈ ms_tb ∧ Jvm.Cond.initialized "java/lang/System" ∈ ms_tb := List.forall_mem_cons.mpr ⟨mk_P0, List.forall_mem_cons.mpr ⟨mk_P1, List.forall_mem_cons.mpr ⟨mk_P2, List.forall_mem_cons.mpr ⟨mk_P3, List.forall_mem_cons.mpr ⟨mk_P4, fun _ h => absurd h List.not_mem_nil⟩⟩⟩⟩⟩
def mk_W : List (Nat × Nat × Nat × Nat) := [(10, 71, 399, 2), (10, 109, 394, 1), (10, 113, 397, 2), (11, 358, 394, 1), (11, 363, 397, 2), (14, 211, 394, 1), (14, 214, 397, 2), (16, 335, 395, 1), (16, 492, 396, 1), (16, 505, 394, 1), (16, 633, 400, 3)]
set_option maxRecDepth 100000 in
theorem mk_W0 : ms_callee mc_M 399 (2 - 1) ∧ Jvm.Cond.methodLink (mk_nm 10) 71 (mc_M 399).1 ∈ ms_tb ∧ Jvm.Cond.instanceMethod (mc_M 399).1 ∈ ms_tb ∧ Jvm.Cond.selects (mc_M 399).1.cls (mc_M 399).1 (mc_M 399).1 ∈ ms_tb ∧ (mc_M 399).1.cls = "java/lang/String" := ⟨mk_ca399, mk_tb (mk_sub5 (List.mem_of_getElem? (i := 71) rfl) rfl), mk_im399, mk_se399, rfl⟩
set_option maxRecDepth 100000 in
theorem mk_W1 : ms_callee mc_M 394 (1 - 1) ∧ Jvm.Cond.methodLink (mk_nm 10) 109 (mc_M 394).1 ∈ ms_tb ∧ Jvm.Cond.instanceMethod (mc_M 394).1 ∈ ms_tb ∧ Jvm.Cond.selects (mc_M 394).1.cls (mc_M 394).1 (mc_M 394).1 ∈ ms_tb ∧ (mc_M 394).1.cls = "java/lang/String" := ⟨mk_ca394, mk_tb (mk_sub5 (List.mem_of_getElem? (i := 168) rfl) rfl), mk_im394, mk_se394, rfl⟩
set_option maxRecDepth 100000 in
theorem mk_W2 : ms_callee mc_M 397 (2 - 1) ∧ Jvm.Cond.methodLink (mk_nm 10) 113 (mc_M 397).1 ∈ ms_tb ∧ Jvm.Cond.instanceMethod (mc_M 397).1 ∈ ms_tb ∧ Jvm.Cond.selects (mc_M 397).1.cls (mc_M 397).1 (mc_M 397).1 ∈ ms_tb ∧ (mc_M 397).1.cls = "java/lang/String" := ⟨mk_ca397, mk_tb (mk_sub5 (List.mem_of_getElem? (i := 169) rfl) rfl), mk_im397, mk_se397, rfl⟩
set_option maxRecDepth 100000 in
theorem mk_W3 : ms_callee mc_M 394 (1 - 1) ∧ Jvm.Cond.methodLink (mk_nm 11) 358 (mc_M 394).1 ∈ ms_tb ∧ Jvm.Cond.instanceMethod (mc_M 394).1 ∈ ms_tb ∧ Jvm.Cond.selects (mc_M 394).1.cls (mc_M 394).1 (mc_M 394).1 ∈ ms_tb ∧ (mc_M 394).1.cls = "java/lang/String" := ⟨mk_ca394, mk_tb (mk_sub8 (List.mem_of_getElem? (i := 54) rfl) rfl), mk_im394, mk_se394, rfl⟩
set_option maxRecDepth 100000 in
theorem mk_W4 : ms_callee mc_M 397 (2 - 1) ∧ Jvm.Cond.methodLink (mk_nm 11) 363 (mc_M 397).1 ∈ ms_tb ∧ Jvm.Cond.instanceMethod (mc_M 397).1 ∈ ms_tb ∧ Jvm.Cond.selects (mc_M 397).1.cls (mc_M 397).1 (mc_M 397).1 ∈ ms_tb ∧ (mc_M 397).1.cls = "java/lang/String" := ⟨mk_ca397, mk_tb (mk_sub8 (List.mem_of_getElem? (i := 55) rfl) rfl), mk_im397, mk_se397, rfl⟩
set_option maxRecDepth 100000 in
theorem mk_W5 : ms_callee mc_M 394 (1 - 1) ∧ Jvm.Cond.methodLink (mk_nm 14) 211 (mc_M 394).1 ∈ ms_tb ∧ Jvm.Cond.instanceMethod (mc_M 394).1 ∈ ms_tb ∧ Jvm.Cond.selects (mc_M 394).1.cls (mc_M 394).1 (mc_M 394).1 ∈ ms_tb ∧ (mc_M 394).1.cls = "java/lang/String" := ⟨mk_ca394, mk_tb (mk_sub10 (List.mem_of_getElem? (i := 93) rfl) rfl), mk_im394, mk_se394, rfl⟩
set_option maxRecDepth 100000 in
theorem mk_W6 : ms_callee mc_M 397 (2 - 1) ∧ Jvm.Cond.methodLink (mk_nm 14) 214 (mc_M 397).1 ∈ ms_tb ∧ Jvm.Cond.instanceMethod (mc_M 397).1 ∈ ms_tb ∧ Jvm.Cond.selects (mc_M 397).1.cls (mc_M 397).1 (mc_M 397).1 ∈ ms_tb ∧ (mc_M 397).1.cls = "java/lang/String" := ⟨mk_ca397, mk_tb (mk_sub10 (List.mem_of_getElem? (i := 94) rfl) rfl), mk_im397, mk_se397, rfl⟩
set_option maxRecDepth 100000 in
theorem mk_W7 : ms_callee mc_M 395 (1 - 1) ∧ Jvm.Cond.methodLink (mk_nm 16) 335 (mc_M 395).1 ∈ ms_tb ∧ Jvm.Cond.instanceMethod (mc_M 395).1 ∈ ms_tb ∧ Jvm.Cond.selects (mc_M 395).1.cls (mc_M 395).1 (mc_M 395).1 ∈ ms_tb ∧ (mc_M 395).1.cls = "java/lang/String" := ⟨mk_ca395, mk_tb (mk_sub5 (List.mem_of_getElem? (i := 89) rfl) rfl), mk_im395, mk_se395, rfl⟩
set_option maxRecDepth 100000 in
theorem mk_W8 : ms_callee mc_M 396 (1 - 1) ∧ Jvm.Cond.methodLink (mk_nm 16) 492 (mc_M 396).1 ∈ ms_tb ∧ Jvm.Cond.instanceMethod (mc_M 396).1 ∈ ms_tb ∧ Jvm.Cond.selects (mc_M 396).1.cls (mc_M 396).1 (mc_M 396).1 ∈ ms_tb ∧ (mc_M 396).1.cls = "java/lang/String" := ⟨mk_ca396, mk_tb (mk_sub5 (List.mem_of_getElem? (i := 79) rfl) rfl), mk_im396, mk_se396, rfl⟩
set_option maxRecDepth 100000 in
theorem mk_W9 : ms_callee mc_M 394 (1 - 1) ∧ Jvm.Cond.methodLink (mk_nm 16) 505 (mc_M 394).1 ∈ ms_tb ∧ Jvm.Cond.instanceMethod (mc_M 394).1 ∈ ms_tb ∧ Jvm.Cond.selects (mc_M 394).1.cls (mc_M 394).1 (mc_M 394).1 ∈ ms_tb ∧ (mc_M 394).1.cls = "java/lang/String" := ⟨mk_ca394, mk_tb (mk_sub5 (List.mem_of_getElem? (i := 85) rfl) rfl), mk_im394, mk_se394, rfl⟩
set_option maxRecDepth 100000 in
theorem mk_W10 : ms_callee mc_M 400 (3 - 1) ∧ Jvm.Cond.methodLink (mk_nm 16) 633 (mc_M 400).1 ∈ ms_tb ∧ Jvm.Cond.instanceMethod (mc_M 400).1 ∈ ms_tb ∧ Jvm.Cond.selects (mc_M 400).1.cls (mc_M 400).1 (mc_M 400).1 ∈ ms_tb ∧ (mc_M 400).1.cls = "java/lang/String" := ⟨mk_ca400, mk_tb (mk_sub5 (List.mem_of_getElem? (i := 75) rfl) rfl), mk_im400, mk_se400, rfl⟩
set_option maxRecDepth 100000 in
theorem mk_W_ok : ∀ t ∈ mk_W, ms_callee mc_M t.2.2.1 (t.2.2.2 - 1) ∧ Jvm.Cond.methodLink (mk_nm t.1) t.2.1 (mc_M t.2.2.1).1 ∈ ms_tb ∧ Jvm.Cond.instanceMethod (mc_M t.2.2.1).1 ∈ ms_tb ∧ Jvm.Cond.selects (mc_M t.2.2.1).1.cls (mc_M t.2.2.1).1 (mc_M t.2.2.1).1 ∈ ms_tb ∧ (mc_M t.2.2.1).1.cls = "java/lang/String" := List.forall_mem_cons.mpr ⟨mk_W0, List.forall_mem_cons.mpr ⟨mk_W1, List.forall_mem_cons.mpr ⟨mk_W2, List.forall_mem_cons.mpr ⟨mk_W3, List.forall_mem_cons.mpr ⟨mk_W4, List.forall_mem_cons.mpr ⟨mk_W5, List.forall_mem_cons.mpr ⟨mk_W6, List.forall_mem_cons.mpr ⟨mk_W7, List.forall_mem_cons.mpr ⟨mk_W8, List.forall_mem_cons.mpr ⟨mk_W9, List.forall_mem_cons.mpr ⟨mk_W10, fun _ h => absurd h List.not_mem_nil⟩⟩⟩⟩⟩⟩⟩⟩⟩⟩⟩
def mk_fin : List (Nat × Nat) := [(0, 0), (0, 1), (0, 4), (0, 5), (0, 8), (0, 10), (0, 11), (0, 12), (0, 13), (0, 14), (0, 15), (0, 16), (1, 0), (1, 1), (1, 5), (1, 7), (2, 0), (2, 1), (2, 6), (2, 7), (2, 8), (2, 11), (3, 0), (3, 1), (3, 2), (3, 3), (3, 9), (4, 3), (4, 4), (4, 5), (4, 6), (4, 7), (4, 8), (4, 9), (4, 10), (4, 11), (4, 12), (4, 13), (4, 14), (4, 15), (5, 5), (5, 6), (5, 7), (5, 11), (6, 0), (6, 1), (6, 2), (6, 3), (6, 5), (7, 0), (7, 2), (7, 3), (7, 4), (7, 6), (7, 7), (7, 9), (7, 10), (7, 12), (7, 14), (8, 3), (8, 4), (9, 0), (9, 1), (9, 2), (9, 3), (9, 4), (10, 0), (10, 1), (10, 2), (10, 3), (11, 0), (11, 2), (11, 3), (11, 4), (11, 5), (11, 6), (12, 4), (12, 5), (12, 6), (12, 10), (12, 15), (12, 16), (12, 17), (12, 36), (12, 37), (13, 3), (13, 4), (13, 5), (13, 6), (14, 0), (14, 1), (14, 4), (14, 5), (14, 6), (14, 11), (14, 12), (14, 13), (14, 14), (14, 15), (14, 16), (14, 18), (14, 19), (14, 20), (14, 21), (14, 22), (14, 23), (14, 25), (14, 26), (14, 28), (14, 29), (14, 30), (14, 31), (14, 32), (14, 34), (14, 35), (14, 36), (14, 37), (14, 38), (14, 39), (14, 40), (14, 41), (14, 50), (14, 51), (14, 52), (14, 53), (14, 56), (14, 58), (14, 59), (14, 61), (14, 62), (14, 63)]
def mk_ini : List Nat := [0, 99, 99, 99, 99, 99, 99, 99, 99, 99, 99, 99, 1, 99, 99, 99, 99, 99, 99, 99, 99, 99, 99, 99, 99, 2, 99, 99, 99, 99, 99, 99, 99, 99, 99, 99, 99, 99, 99, 99, 99, 99, 99, 3, 99, 99, 99, 99, 99, 99, 99, 99, 99, 99, 99, 99, 99, 99, 99, 99, 99, 99, 99, 99, 99, 99, 99, 99, 99, 99, 99, 99, 99, 99, 99, 99, 99, 99, 4, 99, 99, 99, 99, 99, 99, 99, 99, 99, 99, 99, 99, 99, 99, 99, 99, 99, 5, 99, 99, 99, 99, 99, 99, 99, 99, 99, 99, 99, 99, 99, 99, 99, 99, 99, 99, 99, 6, 99, 99, 99, 99, 99, 99, 99, 99, 7, 99, 99, 99, 99, 99, 99, 99, 99, 99, 99, 99, 99, 99, 8, 99, 99, 99, 99, 99, 99, 99, 99, 99, 99, 99, 99, 99, 99, 99, 99, 99, 99, 99, 99, 99, 99, 99, 99, 9, 99, 99, 10, 99, 99, 99, 99, 99, 99, 99, 99, 99, 99, 99, 99, 99, 99, 99, 11, 99, 99, 99, 99, 99, 99, 99, 99, 99, 99, 99, 99, 99, 99, 99, 99, 99, 99, 99, 99, 99, 99, 99, 99, 99, 99, 99, 99, 99, 99, 99, 99, 99, 99, 99, 99, 99, 99, 99, 99, 99, 12, 99, 99, 99, 99, 99, 99, 99, 99, 99, 99, 99, 99, 99, 99, 99, 99, 99, 99, 99, 99, 99, 99, 99, 99, 99, 99, 99, 99, 99, 99, 99, 99, 99, 99, 99, 99, 99, 99, 99, 99, 99, 99, 99, 99, 99, 99, 99, 99, 99, 99, 13, 99, 99, 99, 99, 99, 99, 99, 99, 99, 99, 99, 99, 99, 99, 99, 99, 99, 99, 99, 99, 99, 14, 99, 99, 99, 99, 99, 99, 99, 99, 99, 99, 99, 99, 99, 99, 99, 99, 99, 99, 99, 99, 99, 99, 99, 99, 99, 99, 99, 99, 99, 99, 99, 99, 99, 99, 99, 99, 99, 99, 99, 99, 99, 99, 99, 99, 99, 99, 99, 99, 99, 99, 99, 99, 99, 99, 99, 99, 99, 99, 99, 99, 99, 99, 99, 99, 99, 99, 99, 99, 99, 99, 99, 99, 99, 99, 99, 99, 99, 99, 99, 99, 99, 99, 99, 99, 99, 99, 99, 99, 99, 99, 99, 99, 99, 99, 99, 99, 99, 99, 99, 99, 99, 99, 99, 99, 99, 99, 99, 99]
theorem mk_w0 : (mc_M 0).1.cls = mk_nm 0 ∧ (0 = 99 ∨ ((mc_M 0).1.name = "<init>" ∧ (mc_M 0).1.cls = mk_nm 0)) := ⟨rfl, Or.inr ⟨rfl, rfl⟩⟩
theorem mk_w1 : (mc_M 1).1.cls = mk_nm 0 ∧ (99 = 99 ∨ ((mc_M 1).1.name = "<init>" ∧ (mc_M 1).1.cls = mk_nm 99)) := ⟨rfl, Or.inl rfl⟩
theorem mk_w2 : (mc_M 2).1.cls = mk_nm 0 ∧ (99 = 99 ∨ ((mc_M 2).1.name = "<init>" ∧ (mc_M 2).1.cls = mk_nm 99)) := ⟨rfl, Or.inl rfl⟩
theorem mk_w3 : (mc_M 3).1.cls = mk_nm 0 ∧ (99 = 99 ∨ ((mc_M 3).1.name = "<init>" ∧ (mc_M 3).1.cls = mk_nm 99)) := ⟨rfl, Or.inl rfl⟩
theorem mk_w4 : (mc_M 4).1.cls = mk_nm 0 ∧ (99 = 99 ∨ ((mc_M 4).1.name = "<init>" ∧ (mc_M 4).1.cls = mk_nm 99)) := ⟨rfl, Or.inl rfl⟩
theorem mk_w5 : (mc_M 5).1.cls = mk_nm 0 ∧ (99 = 99 ∨ ((mc_M 5).1.name = "<init>" ∧ (mc_M 5).1.cls = mk_nm 99)) := ⟨rfl, Or.inl rfl⟩
theorem mk_w6 : (mc_M 6).1.cls = mk_nm 0 ∧ (99 = 99 ∨ ((mc_M 6).1.name = "<init>" ∧ (mc_M 6).1.cls = mk_nm 99)) := ⟨rfl, Or.inl rfl⟩
theorem mk_w7 : (mc_M 7).1.cls = mk_nm 0 ∧ (99 = 99 ∨ ((mc_M 7).1.name = "<init>" ∧ (mc_M 7).1.cls = mk_nm 99)) := ⟨rfl, Or.inl rfl⟩
theorem mk_w8 : (mc_M 8).1.cls = mk_nm 0 ∧ (99 = 99 ∨ ((mc_M 8).1.name = "<init>" ∧ (mc_M 8).1.cls = mk_nm 99)) := ⟨rfl, Or.inl rfl⟩
theorem mk_w9 : (mc_M 9).1.cls = mk_nm 0 ∧ (99 = 99 ∨ ((mc_M 9).1.name = "<init>" ∧ (mc_M 9).1.cls = mk_nm 99)) := ⟨rfl, Or.inl rfl⟩
theorem mk_w10 : (mc_M 10).1.cls = mk_nm 0 ∧ (99 = 99 ∨ ((mc_M 10).1.name = "<init>" ∧ (mc_M 10).1.cls = mk_nm 99)) := ⟨rfl, Or.inl rfl⟩
theorem mk_w11 : (mc_M 11).1.cls = mk_nm 0 ∧ (99 = 99 ∨ ((mc_M 11).1.name = "<init>" ∧ (mc_M 11).1.cls = mk_nm 99)) := ⟨rfl, Or.inl rfl⟩
theorem mk_w12 : (mc_M 12).1.cls = mk_nm 1 ∧ (1 = 99 ∨ ((mc_M 12).1.name = "<init>" ∧ (mc_M 12).1.cls = mk_nm 1)) := ⟨rfl, Or.inr ⟨rfl, rfl⟩⟩
theorem mk_w13 : (mc_M 13).1.cls = mk_nm 1 ∧ (99 = 99 ∨ ((mc_M 13).1.name = "<init>" ∧ (mc_M 13).1.cls = mk_nm 99)) := ⟨rfl, Or.inl rfl⟩
theorem mk_w14 : (mc_M 14).1.cls = mk_nm 1 ∧ (99 = 99 ∨ ((mc_M 14).1.name = "<init>" ∧ (mc_M 14).1.cls = mk_nm 99)) := ⟨rfl, Or.inl rfl⟩
theorem mk_w15 : (mc_M 15).1.cls = mk_nm 1 ∧ (99 = 99 ∨ ((mc_M 15).1.name = "<init>" ∧ (mc_M 15).1.cls = mk_nm 99)) := ⟨rfl, Or.inl rfl⟩
theorem mk_w16 : (mc_M 16).1.cls = mk_nm 1 ∧ (99 = 99 ∨ ((mc_M 16).1.name = "<init>" ∧ (mc_M 16).1.cls = mk_nm 99)) := ⟨rfl, Or.inl rfl⟩
theorem mk_w17 : (mc_M 17).1.cls = mk_nm 1 ∧ (99 = 99 ∨ ((mc_M 17).1.name = "<init>" ∧ (mc_M 17).1.cls = mk_nm 99)) := ⟨rfl, Or.inl rfl⟩
theorem mk_w18 : (mc_M 18).1.cls = mk_nm 1 ∧ (99 = 99 ∨ ((mc_M 18).1.name = "<init>" ∧ (mc_M 18).1.cls = mk_nm 99)) := ⟨rfl, Or.inl rfl⟩
theorem mk_w19 : (mc_M 19).1.cls = mk_nm 1 ∧ (99 = 99 ∨ ((mc_M 19).1.name = "<init>" ∧ (mc_M 19).1.cls = mk_nm 99)) := ⟨rfl, Or.inl rfl⟩
theorem mk_w20 : (mc_M 20).1.cls = mk_nm 1 ∧ (99 = 99 ∨ ((mc_M 20).1.name = "<init>" ∧ (mc_M 20).1.cls = mk_nm 99)) := ⟨rfl, Or.inl rfl⟩
theorem mk_w21 : (mc_M 21).1.cls = mk_nm 1 ∧ (99 = 99 ∨ ((mc_M 21).1.name = "<init>" ∧ (mc_M 21).1.cls = mk_nm 99)) := ⟨rfl, Or.inl rfl⟩
theorem mk_w22 : (mc_M 22).1.cls = mk_nm 1 ∧ (99 = 99 ∨ ((mc_M 22).1.name = "<init>" ∧ (mc_M 22).1.cls = mk_nm 99)) := ⟨rfl, Or.inl rfl⟩
theorem mk_w23 : (mc_M 23).1.cls = mk_nm 1 ∧ (99 = 99 ∨ ((mc_M 23).1.name = "<init>" ∧ (mc_M 23).1.cls = mk_nm 99)) := ⟨rfl, Or.inl rfl⟩
theorem mk_w24 : (mc_M 24).1.cls = mk_nm 1 ∧ (99 = 99 ∨ ((mc_M 24).1.name = "<init>" ∧ (mc_M 24).1.cls = mk_nm 99)) := ⟨rfl, Or.inl rfl⟩
theorem mk_w25 : (mc_M 25).1.cls = mk_nm 2 ∧ (2 = 99 ∨ ((mc_M 25).1.name = "<init>" ∧ (mc_M 25).1.cls = mk_nm 2)) := ⟨rfl, Or.inr ⟨rfl, rfl⟩⟩
theorem mk_w26 : (mc_M 26).1.cls = mk_nm 2 ∧ (99 = 99 ∨ ((mc_M 26).1.name = "<init>" ∧ (mc_M 26).1.cls = mk_nm 99)) := ⟨rfl, Or.inl rfl⟩
theorem mk_w27 : (mc_M 27).1.cls = mk_nm 2 ∧ (99 = 99 ∨ ((mc_M 27).1.name = "<init>" ∧ (mc_M 27).1.cls = mk_nm 99)) := ⟨rfl, Or.inl rfl⟩
theorem mk_w28 : (mc_M 28).1.cls = mk_nm 2 ∧ (99 = 99 ∨ ((mc_M 28).1.name = "<init>" ∧ (mc_M 28).1.cls = mk_nm 99)) := ⟨rfl, Or.inl rfl⟩
theorem mk_w29 : (mc_M 29).1.cls = mk_nm 2 ∧ (99 = 99 ∨ ((mc_M 29).1.name = "<init>" ∧ (mc_M 29).1.cls = mk_nm 99)) := ⟨rfl, Or.inl rfl⟩
theorem mk_w30 : (mc_M 30).1.cls = mk_nm 2 ∧ (99 = 99 ∨ ((mc_M 30).1.name = "<init>" ∧ (mc_M 30).1.cls = mk_nm 99)) := ⟨rfl, Or.inl rfl⟩
theorem mk_w31 : (mc_M 31).1.cls = mk_nm 2 ∧ (99 = 99 ∨ ((mc_M 31).1.name = "<init>" ∧ (mc_M 31).1.cls = mk_nm 99)) := ⟨rfl, Or.inl rfl⟩
theorem mk_w32 : (mc_M 32).1.cls = mk_nm 2 ∧ (99 = 99 ∨ ((mc_M 32).1.name = "<init>" ∧ (mc_M 32).1.cls = mk_nm 99)) := ⟨rfl, Or.inl rfl⟩
theorem mk_w33 : (mc_M 33).1.cls = mk_nm 2 ∧ (99 = 99 ∨ ((mc_M 33).1.name = "<init>" ∧ (mc_M 33).1.cls = mk_nm 99)) := ⟨rfl, Or.inl rfl⟩
theorem mk_w34 : (mc_M 34).1.cls = mk_nm 2 ∧ (99 = 99 ∨ ((mc_M 34).1.name = "<init>" ∧ (mc_M 34).1.cls = mk_nm 99)) := ⟨rfl, Or.inl rfl⟩
theorem mk_w35 : (mc_M 35).1.cls = mk_nm 2 ∧ (99 = 99 ∨ ((mc_M 35).1.name = "<init>" ∧ (mc_M 35).1.cls = mk_nm 99)) := ⟨rfl, Or.inl rfl⟩
theorem mk_w36 : (mc_M 36).1.cls = mk_nm 2 ∧ (99 = 99 ∨ ((mc_M 36).1.name = "<init>" ∧ (mc_M 36).1.cls = mk_nm 99)) := ⟨rfl, Or.inl rfl⟩
theorem mk_w37 : (mc_M 37).1.cls = mk_nm 2 ∧ (99 = 99 ∨ ((mc_M 37).1.name = "<init>" ∧ (mc_M 37).1.cls = mk_nm 99)) := ⟨rfl, Or.inl rfl⟩
theorem mk_w38 : (mc_M 38).1.cls = mk_nm 2 ∧ (99 = 99 ∨ ((mc_M 38).1.name = "<init>" ∧ (mc_M 38).1.cls = mk_nm 99)) := ⟨rfl, Or.inl rfl⟩
theorem mk_w39 : (mc_M 39).1.cls = mk_nm 2 ∧ (99 = 99 ∨ ((mc_M 39).1.name = "<init>" ∧ (mc_M 39).1.cls = mk_nm 99)) := ⟨rfl, Or.inl rfl⟩
theorem mk_w40 : (mc_M 40).1.cls = mk_nm 2 ∧ (99 = 99 ∨ ((mc_M 40).1.name = "<init>" ∧ (mc_M 40).1.cls = mk_nm 99)) := ⟨rfl, Or.inl rfl⟩
theorem mk_w41 : (mc_M 41).1.cls = mk_nm 2 ∧ (99 = 99 ∨ ((mc_M 41).1.name = "<init>" ∧ (mc_M 41).1.cls = mk_nm 99)) := ⟨rfl, Or.inl rfl⟩
theorem mk_w42 : (mc_M 42).1.cls = mk_nm 2 ∧ (99 = 99 ∨ ((mc_M 42).1.name = "<init>" ∧ (mc_M 42).1.cls = mk_nm 99)) := ⟨rfl, Or.inl rfl⟩
theorem mk_w43 : (mc_M 43).1.cls = mk_nm 3 ∧ (3 = 99 ∨ ((mc_M 43).1.name = "<init>" ∧ (mc_M 43).1.cls = mk_nm 3)) := ⟨rfl, Or.inr ⟨rfl, rfl⟩⟩
theorem mk_w44 : (mc_M 44).1.cls = mk_nm 3 ∧ (99 = 99 ∨ ((mc_M 44).1.name = "<init>" ∧ (mc_M 44).1.cls = mk_nm 99)) := ⟨rfl, Or.inl rfl⟩
theorem mk_w45 : (mc_M 45).1.cls = mk_nm 3 ∧ (99 = 99 ∨ ((mc_M 45).1.name = "<init>" ∧ (mc_M 45).1.cls = mk_nm 99)) := ⟨rfl, Or.inl rfl⟩
theorem mk_w46 : (mc_M 46).1.cls = mk_nm 3 ∧ (99 = 99 ∨ ((mc_M 46).1.name = "<init>" ∧ (mc_M 46).1.cls = mk_nm 99)) := ⟨rfl, Or.inl rfl⟩
theorem mk_w47 : (mc_M 47).1.cls = mk_nm 3 ∧ (99 = 99 ∨ ((mc_M 47).1.name = "<init>" ∧ (mc_M 47).1.cls = mk_nm 99)) := ⟨rfl, Or.inl rfl⟩
theorem mk_w48 : (mc_M 48).1.cls = mk_nm 3 ∧ (99 = 99 ∨ ((mc_M 48).1.name = "<init>" ∧ (mc_M 48).1.cls = mk_nm 99)) := ⟨rfl, Or.inl rfl⟩
theorem mk_w49 : (mc_M 49).1.cls = mk_nm 3 ∧ (99 = 99 ∨ ((mc_M 49).1.name = "<init>" ∧ (mc_M 49).1.cls = mk_nm 99)) := ⟨rfl, Or.inl rfl⟩
theorem mk_w50 : (mc_M 50).1.cls = mk_nm 3 ∧ (99 = 99 ∨ ((mc_M 50).1.name = "<init>" ∧ (mc_M 50).1.cls = mk_nm 99)) := ⟨rfl, Or.inl rfl⟩
theorem mk_w51 : (mc_M 51).1.cls = mk_nm 3 ∧ (99 = 99 ∨ ((mc_M 51).1.name = "<init>" ∧ (mc_M 51).1.cls = mk_nm 99)) := ⟨rfl, Or.inl rfl⟩
theorem mk_w52 : (mc_M 52).1.cls = mk_nm 3 ∧ (99 = 99 ∨ ((mc_M 52).1.name = "<init>" ∧ (mc_M 52).1.cls = mk_nm 99)) := ⟨rfl, Or.inl rfl⟩
theorem mk_w53 : (mc_M 53).1.cls = mk_nm 3 ∧ (99 = 99 ∨ ((mc_M 53).1.name = "<init>" ∧ (mc_M 53).1.cls = mk_nm 99)) := ⟨rfl, Or.inl rfl⟩
theorem mk_w54 : (mc_M 54).1.cls = mk_nm 3 ∧ (99 = 99 ∨ ((mc_M 54).1.name = "<init>" ∧ (mc_M 54).1.cls = mk_nm 99)) := ⟨rfl, Or.inl rfl⟩
theorem mk_w55 : (mc_M 55).1.cls = mk_nm 3 ∧ (99 = 99 ∨ ((mc_M 55).1.name = "<init>" ∧ (mc_M 55).1.cls = mk_nm 99)) := ⟨rfl, Or.inl rfl⟩
theorem mk_w56 : (mc_M 56).1.cls = mk_nm 3 ∧ (99 = 99 ∨ ((mc_M 56).1.name = "<init>" ∧ (mc_M 56).1.cls = mk_nm 99)) := ⟨rfl, Or.inl rfl⟩
theorem mk_w57 : (mc_M 57).1.cls = mk_nm 3 ∧ (99 = 99 ∨ ((mc_M 57).1.name = "<init>" ∧ (mc_M 57).1.cls = mk_nm 99)) := ⟨rfl, Or.inl rfl⟩
theorem mk_w58 : (mc_M 58).1.cls = mk_nm 3 ∧ (99 = 99 ∨ ((mc_M 58).1.name = "<init>" ∧ (mc_M 58).1.cls = mk_nm 99)) := ⟨rfl, Or.inl rfl⟩
theorem mk_w59 : (mc_M 59).1.cls = mk_nm 3 ∧ (99 = 99 ∨ ((mc_M 59).1.name = "<init>" ∧ (mc_M 59).1.cls = mk_nm 99)) := ⟨rfl, Or.inl rfl⟩
theorem mk_w60 : (mc_M 60).1.cls = mk_nm 3 ∧ (99 = 99 ∨ ((mc_M 60).1.name = "<init>" ∧ (mc_M 60).1.cls = mk_nm 99)) := ⟨rfl, Or.inl rfl⟩
theorem mk_w61 : (mc_M 61).1.cls = mk_nm 3 ∧ (99 = 99 ∨ ((mc_M 61).1.name = "<init>" ∧ (mc_M 61).1.cls = mk_nm 99)) := ⟨rfl, Or.inl rfl⟩
theorem mk_w62 : (mc_M 62).1.cls = mk_nm 3 ∧ (99 = 99 ∨ ((mc_M 62).1.name = "<init>" ∧ (mc_M 62).1.cls = mk_nm 99)) := ⟨rfl, Or.inl rfl⟩
theorem mk_w63 : (mc_M 63).1.cls = mk_nm 3 ∧ (99 = 99 ∨ ((mc_M 63).1.name = "<init>" ∧ (mc_M 63).1.cls = mk_nm 99)) := ⟨rfl, Or.inl rfl⟩
theorem mk_w64 : (mc_M 64).1.cls = mk_nm 3 ∧ (99 = 99 ∨ ((mc_M 64).1.name = "<init>" ∧ (mc_M 64).1.cls = mk_nm 99)) := ⟨rfl, Or.inl rfl⟩
theorem mk_w65 : (mc_M 65).1.cls = mk_nm 3 ∧ (99 = 99 ∨ ((mc_M 65).1.name = "<init>" ∧ (mc_M 65).1.cls = mk_nm 99)) := ⟨rfl, Or.inl rfl⟩
theorem mk_w66 : (mc_M 66).1.cls = mk_nm 3 ∧ (99 = 99 ∨ ((mc_M 66).1.name = "<init>" ∧ (mc_M 66).1.cls = mk_nm 99)) := ⟨rfl, Or.inl rfl⟩
theorem mk_w67 : (mc_M 67).1.cls = mk_nm 3 ∧ (99 = 99 ∨ ((mc_M 67).1.name = "<init>" ∧ (mc_M 67).1.cls = mk_nm 99)) := ⟨rfl, Or.inl rfl⟩
theorem mk_w68 : (mc_M 68).1.cls = mk_nm 3 ∧ (99 = 99 ∨ ((mc_M 68).1.name = "<init>" ∧ (mc_M 68).1.cls = mk_nm 99)) := ⟨rfl, Or.inl rfl⟩
theorem mk_w69 : (mc_M 69).1.cls = mk_nm 3 ∧ (99 = 99 ∨ ((mc_M 69).1.name = "<init>" ∧ (mc_M 69).1.cls = mk_nm 99)) := ⟨rfl, Or.inl rfl⟩
theorem mk_w70 : (mc_M 70).1.cls = mk_nm 3 ∧ (99 = 99 ∨ ((mc_M 70).1.name = "<init>" ∧ (mc_M 70).1.cls = mk_nm 99)) := ⟨rfl, Or.inl rfl⟩
theorem mk_w71 : (mc_M 71).1.cls = mk_nm 3 ∧ (99 = 99 ∨ ((mc_M 71).1.name = "<init>" ∧ (mc_M 71).1.cls = mk_nm 99)) := ⟨rfl, Or.inl rfl⟩
theorem mk_w72 : (mc_M 72).1.cls = mk_nm 3 ∧ (99 = 99 ∨ ((mc_M 72).1.name = "<init>" ∧ (mc_M 72).1.cls = mk_nm 99)) := ⟨rfl, Or.inl rfl⟩
theorem mk_w73 : (mc_M 73).1.cls = mk_nm 3 ∧ (99 = 99 ∨ ((mc_M 73).1.name = "<init>" ∧ (mc_M 73).1.cls = mk_nm 99)) := ⟨rfl, Or.inl rfl⟩
theorem mk_w74 : (mc_M 74).1.cls = mk_nm 3 ∧ (99 = 99 ∨ ((mc_M 74).1.name = "<init>" ∧ (mc_M 74).1.cls = mk_nm 99)) := ⟨rfl, Or.inl rfl⟩
theorem mk_w75 : (mc_M 75).1.cls = mk_nm 3 ∧ (99 = 99 ∨ ((mc_M 75).1.name = "<init>" ∧ (mc_M 75).1.cls = mk_nm 99)) := ⟨rfl, Or.inl rfl⟩
theorem mk_w76 : (mc_M 76).1.cls = mk_nm 3 ∧ (99 = 99 ∨ ((mc_M 76).1.name = "<init>" ∧ (mc_M 76).1.cls = mk_nm 99)) := ⟨rfl, Or.inl rfl⟩
theorem mk_w77 : (mc_M 77).1.cls = mk_nm 3 ∧ (99 = 99 ∨ ((mc_M 77).1.name = "<init>" ∧ (mc_M 77).1.cls = mk_nm 99)) := ⟨rfl, Or.inl rfl⟩
theorem mk_w78 : (mc_M 78).1.cls = mk_nm 4 ∧ (4 = 99 ∨ ((mc_M 78).1.name = "<init>" ∧ (mc_M 78).1.cls = mk_nm 4)) := ⟨rfl, Or.inr ⟨rfl, rfl⟩⟩
theorem mk_w79 : (mc_M 79).1.cls = mk_nm 4 ∧ (99 = 99 ∨ ((mc_M 79).1.name = "<init>" ∧ (mc_M 79).1.cls = mk_nm 99)) := ⟨rfl, Or.inl rfl⟩
theorem mk_w80 : (mc_M 80).1.cls = mk_nm 4 ∧ (99 = 99 ∨ ((mc_M 80).1.name = "<init>" ∧ (mc_M 80).1.cls = mk_nm 99)) := ⟨rfl, Or.inl rfl⟩
theorem mk_w81 : (mc_M 81).1.cls = mk_nm 4 ∧ (99 = 99 ∨ ((mc_M 81).1.name = "<init>" ∧ (mc_M 81).1.cls = mk_nm 99)) := ⟨rfl, Or.inl rfl⟩
theorem mk_w82 : (mc_M 82).1.cls = mk_nm 4 ∧ (99 = 99 ∨ ((mc_M 82).1.name = "<init>" ∧ (mc_M 82).1.cls = mk_nm 99)) := ⟨rfl, Or.inl rfl⟩
theorem mk_w83 : (mc_M 83).1.cls = mk_nm 4 ∧ (99 = 99 ∨ ((mc_M 83).1.name = "<init>" ∧ (mc_M 83).1.cls = mk_nm 99)) := ⟨rfl, Or.inl rfl⟩
theorem mk_w84 : (mc_M 84).1.cls = mk_nm 4 ∧ (99 = 99 ∨ ((mc_M 84).1.name = "<init>" ∧ (mc_M 84).1.cls = mk_nm 99)) := ⟨rfl, Or.inl rfl⟩
theorem mk_w85 : (mc_M 85).1.cls = mk_nm 4 ∧ (99 = 99 ∨ ((mc_M 85).1.name = "<init>" ∧ (mc_M 85).1.cls = mk_nm 99)) := ⟨rfl, Or.inl rfl⟩
theorem mk_w86 : (mc_M 86).1.cls = mk_nm 4 ∧ (99 = 99 ∨ ((mc_M 86).1.name = "<init>" ∧ (mc_M 86).1.cls = mk_nm 99)) := ⟨rfl, Or.inl rfl⟩
theorem mk_w87 : (mc_M 87).1.cls = mk_nm 4 ∧ (99 = 99 ∨ ((mc_M 87).1.name = "<init>" ∧ (mc_M 87).1.cls = mk_nm 99)) := ⟨rfl, Or.inl rfl⟩
theorem mk_w88 : (mc_M 88).1.cls = mk_nm 4 ∧ (99 = 99 ∨ ((mc_M 88).1.name = "<init>" ∧ (mc_M 88).1.cls = mk_nm 99)) := ⟨rfl, Or.inl rfl⟩
theorem mk_w89 : (mc_M 89).1.cls = mk_nm 4 ∧ (99 = 99 ∨ ((mc_M 89).1.name = "<init>" ∧ (mc_M 89).1.cls = mk_nm 99)) := ⟨rfl, Or.inl rfl⟩
theorem mk_w90 : (mc_M 90).1.cls = mk_nm 4 ∧ (99 = 99 ∨ ((mc_M 90).1.name = "<init>" ∧ (mc_M 90).1.cls = mk_nm 99)) := ⟨rfl, Or.inl rfl⟩
theorem mk_w91 : (mc_M 91).1.cls = mk_nm 4 ∧ (99 = 99 ∨ ((mc_M 91).1.name = "<init>" ∧ (mc_M 91).1.cls = mk_nm 99)) := ⟨rfl, Or.inl rfl⟩
theorem mk_w92 : (mc_M 92).1.cls = mk_nm 4 ∧ (99 = 99 ∨ ((mc_M 92).1.name = "<init>" ∧ (mc_M 92).1.cls = mk_nm 99)) := ⟨rfl, Or.inl rfl⟩
theorem mk_w93 : (mc_M 93).1.cls = mk_nm 4 ∧ (99 = 99 ∨ ((mc_M 93).1.name = "<init>" ∧ (mc_M 93).1.cls = mk_nm 99)) := ⟨rfl, Or.inl rfl⟩
theorem mk_w94 : (mc_M 94).1.cls = mk_nm 4 ∧ (99 = 99 ∨ ((mc_M 94).1.name = "<init>" ∧ (mc_M 94).1.cls = mk_nm 99)) := ⟨rfl, Or.inl rfl⟩
theorem mk_w95 : (mc_M 95).1.cls = mk_nm 4 ∧ (99 = 99 ∨ ((mc_M 95).1.name = "<init>" ∧ (mc_M 95).1.cls = mk_nm 99)) := ⟨rfl, Or.inl rfl⟩
theorem mk_w96 : (mc_M 96).1.cls = mk_nm 5 ∧ (5 = 99 ∨ ((mc_M 96).1.name = "<init>" ∧ (mc_M 96).1.cls = mk_nm 5)) := ⟨rfl, Or.inr ⟨rfl, rfl⟩⟩
theorem mk_w97 : (mc_M 97).1.cls = mk_nm 5 ∧ (99 = 99 ∨ ((mc_M 97).1.name = "<init>" ∧ (mc_M 97).1.cls = mk_nm 99)) := ⟨rfl, Or.inl rfl⟩
theorem mk_w98 : (mc_M 98).1.cls = mk_nm 5 ∧ (99 = 99 ∨ ((mc_M 98).1.name = "<init>" ∧ (mc_M 98).1.cls = mk_nm 99)) := ⟨rfl, Or.inl rfl⟩
theorem mk_w99 : (mc_M 99).1.cls = mk_nm 5 ∧ (99 = 99 ∨ ((mc_M 99).1.name = "<init>" ∧ (mc_M 99).1.cls = mk_nm 99)) := ⟨rfl, Or.inl rfl⟩
theorem mk_w100 : (mc_M 100).1.cls = mk_nm 5 ∧ (99 = 99 ∨ ((mc_M 100).1.name = "<init>" ∧ (mc_M 100).1.cls = mk_nm 99)) := ⟨rfl, Or.inl rfl⟩
theorem mk_w101 : (mc_M 101).1.cls = mk_nm 5 ∧ (99 = 99 ∨ ((mc_M 101).1.name = "<init>" ∧ (mc_M 101).1.cls = mk_nm 99)) := ⟨rfl, Or.inl rfl⟩
theorem mk_w102 : (mc_M 102).1.cls = mk_nm 5 ∧ (99 = 99 ∨ ((mc_M 102).1.name = "<init>" ∧ (mc_M 102).1.cls = mk_nm 99)) := ⟨rfl, Or.inl rfl⟩
theorem mk_w103 : (mc_M 103).1.cls = mk_nm 5 ∧ (99 = 99 ∨ ((mc_M 103).1.name = "<init>" ∧ (mc_M 103).1.cls = mk_nm 99)) := ⟨rfl, Or.inl rfl⟩
theorem mk_w104 : (mc_M 104).1.cls = mk_nm 5 ∧ (99 = 99 ∨ ((mc_M 104).1.name = "<init>" ∧ (mc_M 104).1.cls = mk_nm 99)) := ⟨rfl, Or.inl rfl⟩
theorem mk_w105 : (mc_M 105).1.cls = mk_nm 5 ∧ (99 = 99 ∨ ((mc_M 105).1.name = "<init>" ∧ (mc_M 105).1.cls = mk_nm 99)) := ⟨rfl, Or.inl rfl⟩
theorem mk_w106 : (mc_M 106).1.cls = mk_nm 5 ∧ (99 = 99 ∨ ((mc_M 106).1.name = "<init>" ∧ (mc_M 106).1.cls = mk_nm 99)) := ⟨rfl, Or.inl rfl⟩
theorem mk_w107 : (mc_M 107).1.cls = mk_nm 5 ∧ (99 = 99 ∨ ((mc_M 107).1.name = "<init>" ∧ (mc_M 107).1.cls = mk_nm 99)) := ⟨rfl, Or.inl rfl⟩
theorem mk_w108 : (mc_M 108).1.cls = mk_nm 5 ∧ (99 = 99 ∨ ((mc_M 108).1.name = "<init>" ∧ (mc_M 108).1.cls = mk_nm 99)) := ⟨rfl, Or.inl rfl⟩
theorem mk_w109 : (mc_M 109).1.cls = mk_nm 5 ∧ (99 = 99 ∨ ((mc_M 109).1.name = "<init>" ∧ (mc_M 109).1.cls = mk_nm 99)) := ⟨rfl, Or.inl rfl⟩
theorem mk_w110 : (mc_M 110).1.cls = mk_nm 5 ∧ (99 = 99 ∨ ((mc_M 110).1.name = "<init>" ∧ (mc_M 110).1.cls = mk_nm 99)) := ⟨rfl, Or.inl rfl⟩
theorem mk_w111 : (mc_M 111).1.cls = mk_nm 5 ∧ (99 = 99 ∨ ((mc_M 111).1.name = "<init>" ∧ (mc_M 111).1.cls = mk_nm 99)) := ⟨rfl, Or.inl rfl⟩
theorem mk_w112 : (mc_M 112).1.cls = mk_nm 5 ∧ (99 = 99 ∨ ((mc_M 112).1.name = "<init>" ∧ (mc_M 112).1.cls = mk_nm 99)) := ⟨rfl, Or.inl rfl⟩
theorem mk_w113 : (mc_M 113).1.cls = mk_nm 5 ∧ (99 = 99 ∨ ((mc_M 113).1.name = "<init>" ∧ (mc_M 113).1.cls = mk_nm 99)) := ⟨rfl, Or.inl rfl⟩
theorem mk_w114 : (mc_M 114).1.cls = mk_nm 5 ∧ (99 = 99 ∨ ((mc_M 114).1.name = "<init>" ∧ (mc_M 114).1.cls = mk_nm 99)) := ⟨rfl, Or.inl rfl⟩
theorem mk_w115 : (mc_M 115).1.cls = mk_nm 5 ∧ (99 = 99 ∨ ((mc_M 115).1.name = "<init>" ∧ (mc_M 115).1.cls = mk_nm 99)) := ⟨rfl, Or.inl rfl⟩
theorem mk_w116 : (mc_M 116).1.cls = mk_nm 6 ∧ (6 = 99 ∨ ((mc_M 116).1.name = "<init>" ∧ (mc_M 116).1.cls = mk_nm 6)) := ⟨rfl, Or.inr ⟨rfl, rfl⟩⟩
theorem mk_w117 : (mc_M 117).1.cls = mk_nm 6 ∧ (99 = 99 ∨ ((mc_M 117).1.name = "<init>" ∧ (mc_M 117).1.cls = mk_nm 99)) := ⟨rfl, Or.inl rfl⟩
theorem mk_w118 : (mc_M 118).1.cls = mk_nm 6 ∧ (99 = 99 ∨ ((mc_M 118).1.name = "<init>" ∧ (mc_M 118).1.cls = mk_nm 99)) := ⟨rfl, Or.inl rfl⟩
theorem mk_w119 : (mc_M 119).1.cls = mk_nm 6 ∧ (99 = 99 ∨ ((mc_M 119).1.name = "<init>" ∧ (mc_M 119).1.cls = mk_nm 99)) := ⟨rfl, Or.inl rfl⟩
theorem mk_w120 : (mc_M 120).1.cls = mk_nm 6 ∧ (99 = 99 ∨ ((mc_M 120).1.name = "<init>" ∧ (mc_M 120).1.cls = mk_nm 99)) := ⟨rfl, Or.inl rfl⟩
theorem mk_w121 : (mc_M 121).1.cls = mk_nm 6 ∧ (99 = 99 ∨ ((mc_M 121).1.name = "<init>" ∧ (mc_M 121).1.cls = mk_nm 99)) := ⟨rfl, Or.inl rfl⟩
theorem mk_w122 : (mc_M 122).1.cls = mk_nm 6 ∧ (99 = 99 ∨ ((mc_M 122).1.name = "<init>" ∧ (mc_M 122).1.cls = mk_nm 99)) := ⟨rfl, Or.inl rfl⟩
theorem mk_w123 : (mc_M 123).1.cls = mk_nm 6 ∧ (99 = 99 ∨ ((mc_M 123).1.name = "<init>" ∧ (mc_M 123).1.cls = mk_nm 99)) := ⟨rfl, Or.inl rfl⟩
theorem mk_w124 : (mc_M 124).1.cls = mk_nm 6 ∧ (99 = 99 ∨ ((mc_M 124).1.name = "<init>" ∧ (mc_M 124).1.cls = mk_nm 99)) := ⟨rfl, Or.inl rfl⟩
theorem mk_w125 : (mc_M 125).1.cls = mk_nm 7 ∧ (7 = 99 ∨ ((mc_M 125).1.name = "<init>" ∧ (mc_M 125).1.cls = mk_nm 7)) := ⟨rfl, Or.inr ⟨rfl, rfl⟩⟩
theorem mk_w126 : (mc_M 126).1.cls = mk_nm 7 ∧ (99 = 99 ∨ ((mc_M 126).1.name = "<init>" ∧ (mc_M 126).1.cls = mk_nm 99)) := ⟨rfl, Or.inl rfl⟩
theorem mk_w127 : (mc_M 127).1.cls = mk_nm 7 ∧ (99 = 99 ∨ ((mc_M 127).1.name = "<init>" ∧ (mc_M 127).1.cls = mk_nm 99)) := ⟨rfl, Or.inl rfl⟩
theorem mk_w128 : (mc_M 128).1.cls = mk_nm 7 ∧ (99 = 99 ∨ ((mc_M 128).1.name = "<init>" ∧ (mc_M 128).1.cls = mk_nm 99)) := ⟨rfl, Or.inl rfl⟩
theorem mk_w129 : (mc_M 129).1.cls = mk_nm 7 ∧ (99 = 99 ∨ ((mc_M 129).1.name = "<init>" ∧ (mc_M 129).1.cls = mk_nm 99)) := ⟨rfl, Or.inl rfl⟩
theorem mk_w130 : (mc_M 130).1.cls = mk_nm 7 ∧ (99 = 99 ∨ ((mc_M 130).1.name = "<init>" ∧ (mc_M 130).1.cls = mk_nm 99)) := ⟨rfl, Or.inl rfl⟩
theorem mk_w131 : (mc_M 131).1.cls = mk_nm 7 ∧ (99 = 99 ∨ ((mc_M 131).1.name = "<init>" ∧ (mc_M 131).1.cls = mk_nm 99)) := ⟨rfl, Or.inl rfl⟩
theorem mk_w132 : (mc_M 132).1.cls = mk_nm 7 ∧ (99 = 99 ∨ ((mc_M 132).1.name = "<init>" ∧ (mc_M 132).1.cls = mk_nm 99)) := ⟨rfl, Or.inl rfl⟩
theorem mk_w133 : (mc_M 133).1.cls = mk_nm 7 ∧ (99 = 99 ∨ ((mc_M 133).1.name = "<init>" ∧ (mc_M 133).1.cls = mk_nm 99)) := ⟨rfl, Or.inl rfl⟩
theorem mk_w134 : (mc_M 134).1.cls = mk_nm 7 ∧ (99 = 99 ∨ ((mc_M 134).1.name = "<init>" ∧ (mc_M 134).1.cls = mk_nm 99)) := ⟨rfl, Or.inl rfl⟩
theorem mk_w135 : (mc_M 135).1.cls = mk_nm 7 ∧ (99 = 99 ∨ ((mc_M 135).1.name = "<init>" ∧ (mc_M 135).1.cls = mk_nm 99)) := ⟨rfl, Or.inl rfl⟩
theorem mk_w136 : (mc_M 136).1.cls = mk_nm 7 ∧ (99 = 99 ∨ ((mc_M 136).1.name = "<init>" ∧ (mc_M 136).1.cls = mk_nm 99)) := ⟨rfl, Or.inl rfl⟩
theorem mk_w137 : (mc_M 137).1.cls = mk_nm 7 ∧ (99 = 99 ∨ ((mc_M 137).1.name = "<init>" ∧ (mc_M 137).1.cls = mk_nm 99)) := ⟨rfl, Or.inl rfl⟩
theorem mk_w138 : (mc_M 138).1.cls = mk_nm 7 ∧ (99 = 99 ∨ ((mc_M 138).1.name = "<init>" ∧ (mc_M 138).1.cls = mk_nm 99)) := ⟨rfl, Or.inl rfl⟩
theorem mk_w139 : (mc_M 139).1.cls = mk_nm 8 ∧ (8 = 99 ∨ ((mc_M 139).1.name = "<init>" ∧ (mc_M 139).1.cls = mk_nm 8)) := ⟨rfl, Or.inr ⟨rfl, rfl⟩⟩
theorem mk_w140 : (mc_M 140).1.cls = mk_nm 8 ∧ (99 = 99 ∨ ((mc_M 140).1.name = "<init>" ∧ (mc_M 140).1.cls = mk_nm 99)) := ⟨rfl, Or.inl rfl⟩
theorem mk_w141 : (mc_M 141).1.cls = mk_nm 8 ∧ (99 = 99 ∨ ((mc_M 141).1.name = "<init>" ∧ (mc_M 141).1.cls = mk_nm 99)) := ⟨rfl, Or.inl rfl⟩
theorem mk_w142 : (mc_M 142).1.cls = mk_nm 8 ∧ (99 = 99 ∨ ((mc_M 142).1.name = "<init>" ∧ (mc_M 142).1.cls = mk_nm 99)) := ⟨rfl, Or.inl rfl⟩
theorem mk_w143 : (mc_M 143).1.cls = mk_nm 8 ∧ (99 = 99 ∨ ((mc_M 143).1.name = "<init>" ∧ (mc_M 143).1.cls = mk_nm 99)) := ⟨rfl, Or.inl rfl⟩
theorem mk_w144 : (mc_M 144).1.cls = mk_nm 8 ∧ (99 = 99 ∨ ((mc_M 144).1.name = "<init>" ∧ (mc_M 144).1.cls = mk_nm 99)) := ⟨rfl, Or.inl rfl⟩
theorem mk_w145 : (mc_M 145).1.cls = mk_nm 8 ∧ (99 = 99 ∨ ((mc_M 145).1.name = "<init>" ∧ (mc_M 145).1.cls = mk_nm 99)) := ⟨rfl, Or.inl rfl⟩
theorem mk_w146 : (mc_M 146).1.cls = mk_nm 8 ∧ (99 = 99 ∨ ((mc_M 146).1.name = "<init>" ∧ (mc_M 146).1.cls = mk_nm 99)) := ⟨rfl, Or.inl rfl⟩
theorem mk_w147 : (mc_M 147).1.cls = mk_nm 8 ∧ (99 = 99 ∨ ((mc_M 147).1.name = "<init>" ∧ (mc_M 147).1.cls = mk_nm 99)) := ⟨rfl, Or.inl rfl⟩
theorem mk_w148 : (mc_M 148).1.cls = mk_nm 8 ∧ (99 = 99 ∨ ((mc_M 148).1.name = "<init>" ∧ (mc_M 148).1.cls = mk_nm 99)) := ⟨rfl, Or.inl rfl⟩
theorem mk_w149 : (mc_M 149).1.cls = mk_nm 8 ∧ (99 = 99 ∨ ((mc_M 149).1.name = "<init>" ∧ (mc_M 149).1.cls = mk_nm 99)) := ⟨rfl, Or.inl rfl⟩
theorem mk_w150 : (mc_M 150).1.cls = mk_nm 8 ∧ (99 = 99 ∨ ((mc_M 150).1.name = "<init>" ∧ (mc_M 150).1.cls = mk_nm 99)) := ⟨rfl, Or.inl rfl⟩
theorem mk_w151 : (mc_M 151).1.cls = mk_nm 8 ∧ (99 = 99 ∨ ((mc_M 151).1.name = "<init>" ∧ (mc_M 151).1.cls = mk_nm 99)) := ⟨rfl, Or.inl rfl⟩
theorem mk_w152 : (mc_M 152).1.cls = mk_nm 8 ∧ (99 = 99 ∨ ((mc_M 152).1.name = "<init>" ∧ (mc_M 152).1.cls = mk_nm 99)) := ⟨rfl, Or.inl rfl⟩
theorem mk_w153 : (mc_M 153).1.cls = mk_nm 8 ∧ (99 = 99 ∨ ((mc_M 153).1.name = "<init>" ∧ (mc_M 153).1.cls = mk_nm 99)) := ⟨rfl, Or.inl rfl⟩
theorem mk_w154 : (mc_M 154).1.cls = mk_nm 8 ∧ (99 = 99 ∨ ((mc_M 154).1.name = "<init>" ∧ (mc_M 154).1.cls = mk_nm 99)) := ⟨rfl, Or.inl rfl⟩
theorem mk_w155 : (mc_M 155).1.cls = mk_nm 8 ∧ (99 = 99 ∨ ((mc_M 155).1.name = "<init>" ∧ (mc_M 155).1.cls = mk_nm 99)) := ⟨rfl, Or.inl rfl⟩
theorem mk_w156 : (mc_M 156).1.cls = mk_nm 8 ∧ (99 = 99 ∨ ((mc_M 156).1.name = "<init>" ∧ (mc_M 156).1.cls = mk_nm 99)) := ⟨rfl, Or.inl rfl⟩
theorem mk_w157 : (mc_M 157).1.cls = mk_nm 8 ∧ (99 = 99 ∨ ((mc_M 157).1.name = "<init>" ∧ (mc_M 157).1.cls = mk_nm 99)) := ⟨rfl, Or.inl rfl⟩
theorem mk_w158 : (mc_M 158).1.cls = mk_nm 8 ∧ (99 = 99 ∨ ((mc_M 158).1.name = "<init>" ∧ (mc_M 158).1.cls = mk_nm 99)) := ⟨rfl, Or.inl rfl⟩
theorem mk_w159 : (mc_M 159).1.cls = mk_nm 8 ∧ (99 = 99 ∨ ((mc_M 159).1.name = "<init>" ∧ (mc_M 159).1.cls = mk_nm 99)) := ⟨rfl, Or.inl rfl⟩
theorem mk_w160 : (mc_M 160).1.cls = mk_nm 8 ∧ (99 = 99 ∨ ((mc_M 160).1.name = "<init>" ∧ (mc_M 160).1.cls = mk_nm 99)) := ⟨rfl, Or.inl rfl⟩
theorem mk_w161 : (mc_M 161).1.cls = mk_nm 8 ∧ (99 = 99 ∨ ((mc_M 161).1.name = "<init>" ∧ (mc_M 161).1.cls = mk_nm 99)) := ⟨rfl, Or.inl rfl⟩
theorem mk_w162 : (mc_M 162).1.cls = mk_nm 8 ∧ (99 = 99 ∨ ((mc_M 162).1.name = "<init>" ∧ (mc_M 162).1.cls = mk_nm 99)) := ⟨rfl, Or.inl rfl⟩
theorem mk_w163 : (mc_M 163).1.cls = mk_nm 8 ∧ (99 = 99 ∨ ((mc_M 163).1.name = "<init>" ∧ (mc_M 163).1.cls = mk_nm 99)) := ⟨rfl, Or.inl rfl⟩
theorem mk_w164 : (mc_M 164).1.cls = mk_nm 9 ∧ (9 = 99 ∨ ((mc_M 164).1.name = "<init>" ∧ (mc_M 164).1.cls = mk_nm 9)) := ⟨rfl, Or.inr ⟨rfl, rfl⟩⟩
theorem mk_w165 : (mc_M 165).1.cls = mk_nm 9 ∧ (99 = 99 ∨ ((mc_M 165).1.name = "<init>" ∧ (mc_M 165).1.cls = mk_nm 99)) := ⟨rfl, Or.inl rfl⟩
theorem mk_w166 : (mc_M 166).1.cls = mk_nm 9 ∧ (99 = 99 ∨ ((mc_M 166).1.name = "<init>" ∧ (mc_M 166).1.cls = mk_nm 99)) := ⟨rfl, Or.inl rfl⟩
theorem mk_w167 : (mc_M 167).1.cls = mk_nm 10 ∧ (10 = 99 ∨ ((mc_M 167).1.name = "<init>" ∧ (mc_M 167).1.cls = mk_nm 10)) := ⟨rfl, Or.inr ⟨rfl, rfl⟩⟩
theorem mk_w168 : (mc_M 168).1.cls = mk_nm 10 ∧ (99 = 99 ∨ ((mc_M 168).1.name = "<init>" ∧ (mc_M 168).1.cls = mk_nm 99)) := ⟨rfl, Or.inl rfl⟩
theorem mk_w169 : (mc_M 169).1.cls = mk_nm 10 ∧ (99 = 99 ∨ ((mc_M 169).1.name = "<init>" ∧ (mc_M 169).1.cls = mk_nm 99)) := ⟨rfl, Or.inl rfl⟩
theorem mk_w170 : (mc_M 170).1.cls = mk_nm 10 ∧ (99 = 99 ∨ ((mc_M 170).1.name = "<init>" ∧ (mc_M 170).1.cls = mk_nm 99)) := ⟨rfl, Or.inl rfl⟩
theorem mk_w171 : (mc_M 171).1.cls = mk_nm 10 ∧ (99 = 99 ∨ ((mc_M 171).1.name = "<init>" ∧ (mc_M 171).1.cls = mk_nm 99)) := ⟨rfl, Or.inl rfl⟩
theorem mk_w172 : (mc_M 172).1.cls = mk_nm 10 ∧ (99 = 99 ∨ ((mc_M 172).1.name = "<init>" ∧ (mc_M 172).1.cls = mk_nm 99)) := ⟨rfl, Or.inl rfl⟩
theorem mk_w173 : (mc_M 173).1.cls = mk_nm 10 ∧ (99 = 99 ∨ ((mc_M 173).1.name = "<init>" ∧ (mc_M 173).1.cls = mk_nm 99)) := ⟨rfl, Or.inl rfl⟩
theorem mk_w174 : (mc_M 174).1.cls = mk_nm 10 ∧ (99 = 99 ∨ ((mc_M 174).1.name = "<init>" ∧ (mc_M 174).1.cls = mk_nm 99)) := ⟨rfl, Or.inl rfl⟩
theorem mk_w175 : (mc_M 175).1.cls = mk_nm 10 ∧ (99 = 99 ∨ ((mc_M 175).1.name = "<init>" ∧ (mc_M 175).1.cls = mk_nm 99)) := ⟨rfl, Or.inl rfl⟩
theorem mk_w176 : (mc_M 176).1.cls = mk_nm 10 ∧ (99 = 99 ∨ ((mc_M 176).1.name = "<init>" ∧ (mc_M 176).1.cls = mk_nm 99)) := ⟨rfl, Or.inl rfl⟩
theorem mk_w177 : (mc_M 177).1.cls = mk_nm 10 ∧ (99 = 99 ∨ ((mc_M 177).1.name = "<init>" ∧ (mc_M 177).1.cls = mk_nm 99)) := ⟨rfl, Or.inl rfl⟩
theorem mk_w178 : (mc_M 178).1.cls = mk_nm 10 ∧ (99 = 99 ∨ ((mc_M 178).1.name = "<init>" ∧ (mc_M 178).1.cls = mk_nm 99)) := ⟨rfl, Or.inl rfl⟩
theorem mk_w179 : (mc_M 179).1.cls = mk_nm 10 ∧ (99 = 99 ∨ ((mc_M 179).1.name = "<init>" ∧ (mc_M 179).1.cls = mk_nm 99)) := ⟨rfl, Or.inl rfl⟩
theorem mk_w180 : (mc_M 180).1.cls = mk_nm 10 ∧ (99 = 99 ∨ ((mc_M 180).1.name = "<init>" ∧ (mc_M 180).1.cls = mk_nm 99)) := ⟨rfl, Or.inl rfl⟩
theorem mk_w181 : (mc_M 181).1.cls = mk_nm 10 ∧ (99 = 99 ∨ ((mc_M 181).1.name = "<init>" ∧ (mc_M 181).1.cls = mk_nm 99)) := ⟨rfl, Or.inl rfl⟩
theorem mk_w182 : (mc_M 182).1.cls = mk_nm 10 ∧ (99 = 99 ∨ ((mc_M 182).1.name = "<init>" ∧ (mc_M 182).1.cls = mk_nm 99)) := ⟨rfl, Or.inl rfl⟩
theorem mk_w183 : (mc_M 183).1.cls = mk_nm 11 ∧ (11 = 99 ∨ ((mc_M 183).1.name = "<init>" ∧ (mc_M 183).1.cls = mk_nm 11)) := ⟨rfl, Or.inr ⟨rfl, rfl⟩⟩
theorem mk_w184 : (mc_M 184).1.cls = mk_nm 11 ∧ (99 = 99 ∨ ((mc_M 184).1.name = "<init>" ∧ (mc_M 184).1.cls = mk_nm 99)) := ⟨rfl, Or.inl rfl⟩
theorem mk_w185 : (mc_M 185).1.cls = mk_nm 11 ∧ (99 = 99 ∨ ((mc_M 185).1.name = "<init>" ∧ (mc_M 185).1.cls = mk_nm 99)) := ⟨rfl, Or.inl rfl⟩
theorem mk_w186 : (mc_M 186).1.cls = mk_nm 11 ∧ (99 = 99 ∨ ((mc_M 186).1.name = "<init>" ∧ (mc_M 186).1.cls = mk_nm 99)) := ⟨rfl, Or.inl rfl⟩
theorem mk_w187 : (mc_M 187).1.cls = mk_nm 11 ∧ (99 = 99 ∨ ((mc_M 187).1.name = "<init>" ∧ (mc_M 187).1.cls = mk_nm 99)) := ⟨rfl, Or.inl rfl⟩
theorem mk_w188 : (mc_M 188).1.cls = mk_nm 11 ∧ (99 = 99 ∨ ((mc_M 188).1.name = "<init>" ∧ (mc_M 188).1.cls = mk_nm 99)) := ⟨rfl, Or.inl rfl⟩
theorem mk_w189 : (mc_M 189).1.cls = mk_nm 11 ∧ (99 = 99 ∨ ((mc_M 189).1.name = "<init>" ∧ (mc_M 189).1.cls = mk_nm 99)) := ⟨rfl, Or.inl rfl⟩
theorem mk_w190 : (mc_M 190).1.cls = mk_nm 11 ∧ (99 = 99 ∨ ((mc_M 190).1.name = "<init>" ∧ (mc_M 190).1.cls = mk_nm 99)) := ⟨rfl, Or.inl rfl⟩
theorem mk_w191 : (mc_M 191).1.cls = mk_nm 11 ∧ (99 = 99 ∨ ((mc_M 191).1.name = "<init>" ∧ (mc_M 191).1.cls = mk_nm 99)) := ⟨rfl, Or.inl rfl⟩
theorem mk_w192 : (mc_M 192).1.cls = mk_nm 11 ∧ (99 = 99 ∨ ((mc_M 192).1.name = "<init>" ∧ (mc_M 192).1.cls = mk_nm 99)) := ⟨rfl, Or.inl rfl⟩
theorem mk_w193 : (mc_M 193).1.cls = mk_nm 11 ∧ (99 = 99 ∨ ((mc_M 193).1.name = "<init>" ∧ (mc_M 193).1.cls = mk_nm 99)) := ⟨rfl, Or.inl rfl⟩
theorem mk_w194 : (mc_M 194).1.cls = mk_nm 11 ∧ (99 = 99 ∨ ((mc_M 194).1.name = "<init>" ∧ (mc_M 194).1.cls = mk_nm 99)) := ⟨rfl, Or.inl rfl⟩
theorem mk_w195 : (mc_M 195).1.cls = mk_nm 11 ∧ (99 = 99 ∨ ((mc_M 195).1.name = "<init>" ∧ (mc_M 195).1.cls = mk_nm 99)) := ⟨rfl, Or.inl rfl⟩
theorem mk_w196 : (mc_M 196).1.cls = mk_nm 11 ∧ (99 = 99 ∨ ((mc_M 196).1.name = "<init>" ∧ (mc_M 196).1.cls = mk_nm 99)) := ⟨rfl, Or.inl rfl⟩
theorem mk_w197 : (mc_M 197).1.cls = mk_nm 11 ∧ (99 = 99 ∨ ((mc_M 197).1.name = "<init>" ∧ (mc_M 197).1.cls = mk_nm 99)) := ⟨rfl, Or.inl rfl⟩
theorem mk_w198 : (mc_M 198).1.cls = mk_nm 11 ∧ (99 = 99 ∨ ((mc_M 198).1.name = "<init>" ∧ (mc_M 198).1.cls = mk_nm 99)) := ⟨rfl, Or.inl rfl⟩
theorem mk_w199 : (mc_M 199).1.cls = mk_nm 11 ∧ (99 = 99 ∨ ((mc_M 199).1.name = "<init>" ∧ (mc_M 199).1.cls = mk_nm 99)) := ⟨rfl, Or.inl rfl⟩
theorem mk_w200 : (mc_M 200).1.cls = mk_nm 11 ∧ (99 = 99 ∨ ((mc_M 200).1.name = "<init>" ∧ (mc_M 200).1.cls = mk_nm 99)) := ⟨rfl, Or.inl rfl⟩
theorem mk_w201 : (mc_M 201).1.cls = mk_nm 11 ∧ (99 = 99 ∨ ((mc_M 201).1.name = "<init>" ∧ (mc_M 201).1.cls = mk_nm 99)) := ⟨rfl, Or.inl rfl⟩
theorem mk_w202 : (mc_M 202).1.cls = mk_nm 11 ∧ (99 = 99 ∨ ((mc_M 202).1.name = "<init>" ∧ (mc_M 202).1.cls = mk_nm 99)) := ⟨rfl, Or.inl rfl⟩
theorem mk_w203 : (mc_M 203).1.cls = mk_nm 11 ∧ (99 = 99 ∨ ((mc_M 203).1.name = "<init>" ∧ (mc_M 203).1.cls = mk_nm 99)) := ⟨rfl, Or.inl rfl⟩
theorem mk_w204 : (mc_M 204).1.cls = mk_nm 11 ∧ (99 = 99 ∨ ((mc_M 204).1.name = "<init>" ∧ (mc_M 204).1.cls = mk_nm 99)) := ⟨rfl, Or.inl rfl⟩
theorem mk_w205 : (mc_M 205).1.cls = mk_nm 11 ∧ (99 = 99 ∨ ((mc_M 205).1.name = "<init>" ∧ (mc_M 205).1.cls = mk_nm 99)) := ⟨rfl, Or.inl rfl⟩
theorem mk_w206 : (mc_M 206).1.cls = mk_nm 11 ∧ (99 = 99 ∨ ((mc_M 206).1.name = "<init>" ∧ (mc_M 206).1.cls = mk_nm 99)) := ⟨rfl, Or.inl rfl⟩
theorem mk_w207 : (mc_M 207).1.cls = mk_nm 11 ∧ (99 = 99 ∨ ((mc_M 207).1.name = "<init>" ∧ (mc_M 207).1.cls = mk_nm 99)) := ⟨rfl, Or.inl rfl⟩
theorem mk_w208 : (mc_M 208).1.cls = mk_nm 11 ∧ (99 = 99 ∨ ((mc_M 208).1.name = "<init>" ∧ (mc_M 208).1.cls = mk_nm 99)) := ⟨rfl, Or.inl rfl⟩
theorem mk_w209 : (mc_M 209).1.cls = mk_nm 11 ∧ (99 = 99 ∨ ((mc_M 209).1.name = "<init>" ∧ (mc_M 209).1.cls = mk_nm 99)) := ⟨rfl, Or.inl rfl⟩
theorem mk_w210 : (mc_M 210).1.cls = mk_nm 11 ∧ (99 = 99 ∨ ((mc_M 210).1.name = "<init>" ∧ (mc_M 210).1.cls = mk_nm 99)) := ⟨rfl, Or.inl rfl⟩
theorem mk_w211 : (mc_M 211).1.cls = mk_nm 11 ∧ (99 = 99 ∨ ((mc_M 211).1.name = "<init>" ∧ (mc_M 211).1.cls = mk_nm 99)) := ⟨rfl, Or.inl rfl⟩
theorem mk_w212 : (mc_M 212).1.cls = mk_nm 11 ∧ (99 = 99 ∨ ((mc_M 212).1.name = "<init>" ∧ (mc_M 212).1.cls = mk_nm 99)) := ⟨rfl, Or.inl rfl⟩
theorem mk_w213 : (mc_M 213).1.cls = mk_nm 11 ∧ (99 = 99 ∨ ((mc_M 213).1.name = "<init>" ∧ (mc_M 213).1.cls = mk_nm 99)) := ⟨rfl, Or.inl rfl⟩
theorem mk_w214 : (mc_M 214).1.cls = mk_nm 11 ∧ (99 = 99 ∨ ((mc_M 214).1.name = "<init>" ∧ (mc_M 214).1.cls = mk_nm 99)) := ⟨rfl, Or.inl rfl⟩
theorem mk_w215 : (mc_M 215).1.cls = mk_nm 11 ∧ (99 = 99 ∨ ((mc_M 215).1.name = "<init>" ∧ (mc_M 215).1.cls = mk_nm 99)) := ⟨rfl, Or.inl rfl⟩
theorem mk_w216 : (mc_M 216).1.cls = mk_nm 11 ∧ (99 = 99 ∨ ((mc_M 216).1.name = "<init>" ∧ (mc_M 216).1.cls = mk_nm 99)) := ⟨rfl, Or.inl rfl⟩
theorem mk_w217 : (mc_M 217).1.cls = mk_nm 11 ∧ (99 = 99 ∨ ((mc_M 217).1.name = "<init>" ∧ (mc_M 217).1.cls = mk_nm 99)) := ⟨rfl, Or.inl rfl⟩
theorem mk_w218 : (mc_M 218).1.cls = mk_nm 11 ∧ (99 = 99 ∨ ((mc_M 218).1.name = "<init>" ∧ (mc_M 218).1.cls = mk_nm 99)) := ⟨rfl, Or.inl rfl⟩
theorem mk_w219 : (mc_M 219).1.cls = mk_nm 11 ∧ (99 = 99 ∨ ((mc_M 219).1.name = "<init>" ∧ (mc_M 219).1.cls = mk_nm 99)) := ⟨rfl, Or.inl rfl⟩
theorem mk_w220 : (mc_M 220).1.cls = mk_nm 11 ∧ (99 = 99 ∨ ((mc_M 220).1.name = "<init>" ∧ (mc_M 220).1.cls = mk_nm 99)) := ⟨rfl, Or.inl rfl⟩
theorem mk_w221 : (mc_M 221).1.cls = mk_nm 11 ∧ (99 = 99 ∨ ((mc_M 221).1.name = "<init>" ∧ (mc_M 221).1.cls = mk_nm 99)) := ⟨rfl, Or.inl rfl⟩
theorem mk_w222 : (mc_M 222).1.cls = mk_nm 11 ∧ (99 = 99 ∨ ((mc_M 222).1.name = "<init>" ∧ (mc_M 222).1.cls = mk_nm 99)) := ⟨rfl, Or.inl rfl⟩
theorem mk_w223 : (mc_M 223).1.cls = mk_nm 11 ∧ (99 = 99 ∨ ((mc_M 223).1.name = "<init>" ∧ (mc_M 223).1.cls = mk_nm 99)) := ⟨rfl, Or.inl rfl⟩
theorem mk_w224 : (mc_M 224).1.cls = mk_nm 11 ∧ (99 = 99 ∨ ((mc_M 224).1.name = "<init>" ∧ (mc_M 224).1.cls = mk_nm 99)) := ⟨rfl, Or.inl rfl⟩
theorem mk_w225 : (mc_M 225).1.cls = mk_nm 12 ∧ (12 = 99 ∨ ((mc_M 225).1.name = "<init>" ∧ (mc_M 225).1.cls = mk_nm 12)) := ⟨rfl, Or.inr ⟨rfl, rfl⟩⟩
theorem mk_w226 : (mc_M 226).1.cls = mk_nm 12 ∧ (99 = 99 ∨ ((mc_M 226).1.name = "<init>" ∧ (mc_M 226).1.cls = mk_nm 99)) := ⟨rfl, Or.inl rfl⟩
theorem mk_w227 : (mc_M 227).1.cls = mk_nm 12 ∧ (99 = 99 ∨ ((mc_M 227).1.name = "<init>" ∧ (mc_M 227).1.cls = mk_nm 99)) := ⟨rfl, Or.inl rfl⟩
theorem mk_w228 : (mc_M 228).1.cls = mk_nm 12 ∧ (99 = 99 ∨ ((mc_M 228).1.name = "<init>" ∧ (mc_M 228).1.cls = mk_nm 99)) := ⟨rfl, Or.inl rfl⟩
theorem mk_w229 : (mc_M 229).1.cls = mk_nm 12 ∧ (99 = 99 ∨ ((mc_M 229).1.name = "<init>" ∧ (mc_M 229).1.cls = mk_nm 99)) := ⟨rfl, Or.inl rfl⟩
theorem mk_w230 : (mc_M 230).1.cls = mk_nm 12 ∧ (99 = 99 ∨ ((mc_M 230).1.name = "<init>" ∧ (mc_M 230).1.cls = mk_nm 99)) := ⟨rfl, Or.inl rfl⟩
theorem mk_w231 : (mc_M 231).1.cls = mk_nm 12 ∧ (99 = 99 ∨ ((mc_M 231).1.name = "<init>" ∧ (mc_M 231).1.cls = mk_nm 99)) := ⟨rfl, Or.inl rfl⟩
theorem mk_w232 : (mc_M 232).1.cls = mk_nm 12 ∧ (99 = 99 ∨ ((mc_M 232).1.name = "<init>" ∧ (mc_M 232).1.cls = mk_nm 99)) := ⟨rfl, Or.inl rfl⟩
theorem mk_w233 : (mc_M 233).1.cls = mk_nm 12 ∧ (99 = 99 ∨ ((mc_M 233).1.name = "<init>" ∧ (mc_M 233).1.cls = mk_nm 99)) := ⟨rfl, Or.inl rfl⟩
theorem mk_w234 : (mc_M 234).1.cls = mk_nm 12 ∧ (99 = 99 ∨ ((mc_M 234).1.name = "<init>" ∧ (mc_M 234).1.cls = mk_nm 99)) := ⟨rfl, Or.inl rfl⟩
theorem mk_w235 : (mc_M 235).1.cls = mk_nm 12 ∧ (99 = 99 ∨ ((mc_M 235).1.name = "<init>" ∧ (mc_M 235).1.cls = mk_nm 99)) := ⟨rfl, Or.inl rfl⟩
theorem mk_w236 : (mc_M 236).1.cls = mk_nm 12 ∧ (99 = 99 ∨ ((mc_M 236).1.name = "<init>" ∧ (mc_M 236).1.cls = mk_nm 99)) := ⟨rfl, Or.inl rfl⟩
theorem mk_w237 : (mc_M 237).1.cls = mk_nm 12 ∧ (99 = 99 ∨ ((mc_M 237).1.name = "<init>" ∧ (mc_M 237).1.cls = mk_nm 99)) := ⟨rfl, Or.inl rfl⟩
theorem mk_w238 : (mc_M 238).1.cls = mk_nm 12 ∧ (99 = 99 ∨ ((mc_M 238).1.name = "<init>" ∧ (mc_M 238).1.cls = mk_nm 99)) := ⟨rfl, Or.inl rfl⟩
theorem mk_w239 : (mc_M 239).1.cls = mk_nm 12 ∧ (99 = 99 ∨ ((mc_M 239).1.name = "<init>" ∧ (mc_M 239).1.cls = mk_nm 99)) := ⟨rfl, Or.inl rfl⟩
theorem mk_w240 : (mc_M 240).1.cls = mk_nm 12 ∧ (99 = 99 ∨ ((mc_M 240).1.name = "<init>" ∧ (mc_M 240).1.cls = mk_nm 99)) := ⟨rfl, Or.inl rfl⟩
theorem mk_w241 : (mc_M 241).1.cls = mk_nm 12 ∧ (99 = 99 ∨ ((mc_M 241).1.name = "<init>" ∧ (mc_M 241).1.cls = mk_nm 99)) := ⟨rfl, Or.inl rfl⟩
theorem mk_w242 : (mc_M 242).1.cls = mk_nm 12 ∧ (99 = 99 ∨ ((mc_M 242).1.name = "<init>" ∧ (mc_M 242).1.cls = mk_nm 99)) := ⟨rfl, Or.inl rfl⟩
theorem mk_w243 : (mc_M 243).1.cls = mk_nm 12 ∧ (99 = 99 ∨ ((mc_M 243).1.name = "<init>" ∧ (mc_M 243).1.cls = mk_nm 99)) := ⟨rfl, Or.inl rfl⟩
theorem mk_w244 : (mc_M 244).1.cls = mk_nm 12 ∧ (99 = 99 ∨ ((mc_M 244).1.name = "<init>" ∧ (mc_M 244).1.cls = mk_nm 99)) := ⟨rfl, Or.inl rfl⟩
theorem mk_w245 : (mc_M 245).1.cls = mk_nm 12 ∧ (99 = 99 ∨ ((mc_M 245).1.name = "<init>" ∧ (mc_M 245).1.cls = mk_nm 99)) := ⟨rfl, Or.inl rfl⟩
theorem mk_w246 : (mc_M 246).1.cls = mk_nm 12 ∧ (99 = 99 ∨ ((mc_M 246).1.name = "<init>" ∧ (mc_M 246).1.cls = mk_nm 99)) := ⟨rfl, Or.inl rfl⟩
theorem mk_w247 : (mc_M 247).1.cls = mk_nm 12 ∧ (99 = 99 ∨ ((mc_M 247).1.name = "<init>" ∧ (mc_M 247).1.cls = mk_nm 99)) := ⟨rfl, Or.inl rfl⟩
theorem mk_w248 : (mc_M 248).1.cls = mk_nm 12 ∧ (99 = 99 ∨ ((mc_M 248).1.name = "<init>" ∧ (mc_M 248).1.cls = mk_nm 99)) := ⟨rfl, Or.inl rfl⟩
theorem mk_w249 : (mc_M 249).1.cls = mk_nm 12 ∧ (99 = 99 ∨ ((mc_M 249).1.name = "<init>" ∧ (mc_M 249).1.cls = mk_nm 99)) := ⟨rfl, Or.inl rfl⟩
theorem mk_w250 : (mc_M 250).1.cls = mk_nm 12 ∧ (99 = 99 ∨ ((mc_M 250).1.name = "<init>" ∧ (mc_M 250).1.cls = mk_nm 99)) := ⟨rfl, Or.inl rfl⟩
theorem mk_w251 : (mc_M 251).1.cls = mk_nm 12 ∧ (99 = 99 ∨ ((mc_M 251).1.name = "<init>" ∧ (mc_M 251).1.cls = mk_nm 99)) := ⟨rfl, Or.inl rfl⟩
theorem mk_w252 : (mc_M 252).1.cls = mk_nm 12 ∧ (99 = 99 ∨ ((mc_M 252).1.name = "<init>" ∧ (mc_M 252).1.cls = mk_nm 99)) := ⟨rfl, Or.inl rfl⟩
theorem mk_w253 : (mc_M 253).1.cls = mk_nm 12 ∧ (99 = 99 ∨ ((mc_M 253).1.name = "<init>" ∧ (mc_M 253).1.cls = mk_nm 99)) := ⟨rfl, Or.inl rfl⟩
theorem mk_w254 : (mc_M 254).1.cls = mk_nm 12 ∧ (99 = 99 ∨ ((mc_M 254).1.name = "<init>" ∧ (mc_M 254).1.cls = mk_nm 99)) := ⟨rfl, Or.inl rfl⟩
theorem mk_w255 : (mc_M 255).1.cls = mk_nm 12 ∧ (99 = 99 ∨ ((mc_M 255).1.name = "<init>" ∧ (mc_M 255).1.cls = mk_nm 99)) := ⟨rfl, Or.inl rfl⟩
theorem mk_w256 : (mc_M 256).1.cls = mk_nm 12 ∧ (99 = 99 ∨ ((mc_M 256).1.name = "<init>" ∧ (mc_M 256).1.cls = mk_nm 99)) := ⟨rfl, Or.inl rfl⟩
theorem mk_w257 : (mc_M 257).1.cls = mk_nm 12 ∧ (99 = 99 ∨ ((mc_M 257).1.name = "<init>" ∧ (mc_M 257).1.cls = mk_nm 99)) := ⟨rfl, Or.inl rfl⟩
theorem mk_w258 : (mc_M 258).1.cls = mk_nm 12 ∧ (99 = 99 ∨ ((mc_M 258).1.name = "<init>" ∧ (mc_M 258).1.cls = mk_nm 99)) := ⟨rfl, Or.inl rfl⟩
theorem mk_w259 : (mc_M 259).1.cls = mk_nm 12 ∧ (99 = 99 ∨ ((mc_M 259).1.name = "<init>" ∧ (mc_M 259).1.cls = mk_nm 99)) := ⟨rfl, Or.inl rfl⟩
theorem mk_w260 : (mc_M 260).1.cls = mk_nm 12 ∧ (99 = 99 ∨ ((mc_M 260).1.name = "<init>" ∧ (mc_M 260).1.cls = mk_nm 99)) := ⟨rfl, Or.inl rfl⟩
theorem mk_w261 : (mc_M 261).1.cls = mk_nm 12 ∧ (99 = 99 ∨ ((mc_M 261).1.name = "<init>" ∧ (mc_M 261).1.cls = mk_nm 99)) := ⟨rfl, Or.inl rfl⟩
theorem mk_w262 : (mc_M 262).1.cls = mk_nm 12 ∧ (99 = 99 ∨ ((mc_M 262).1.name = "<init>" ∧ (mc_M 262).1.cls = mk_nm 99)) := ⟨rfl, Or.inl rfl⟩
theorem mk_w263 : (mc_M 263).1.cls = mk_nm 12 ∧ (99 = 99 ∨ ((mc_M 263).1.name = "<init>" ∧ (mc_M 263).1.cls = mk_nm 99)) := ⟨rfl, Or.inl rfl⟩
theorem mk_w264 : (mc_M 264).1.cls = mk_nm 12 ∧ (99 = 99 ∨ ((mc_M 264).1.name = "<init>" ∧ (mc_M 264).1.cls = mk_nm 99)) := ⟨rfl, Or.inl rfl⟩
theorem mk_w265 : (mc_M 265).1.cls = mk_nm 12 ∧ (99 = 99 ∨ ((mc_M 265).1.name = "<init>" ∧ (mc_M 265).1.cls = mk_nm 99)) := ⟨rfl, Or.inl rfl⟩
theorem mk_w266 : (mc_M 266).1.cls = mk_nm 12 ∧ (99 = 99 ∨ ((mc_M 266).1.name = "<init>" ∧ (mc_M 266).1.cls = mk_nm 99)) := ⟨rfl, Or.inl rfl⟩
theorem mk_w267 : (mc_M 267).1.cls = mk_nm 12 ∧ (99 = 99 ∨ ((mc_M 267).1.name = "<init>" ∧ (mc_M 267).1.cls = mk_nm 99)) := ⟨rfl, Or.inl rfl⟩
theorem mk_w268 : (mc_M 268).1.cls = mk_nm 12 ∧ (99 = 99 ∨ ((mc_M 268).1.name = "<init>" ∧ (mc_M 268).1.cls = mk_nm 99)) := ⟨rfl, Or.inl rfl⟩
theorem mk_w269 : (mc_M 269).1.cls = mk_nm 12 ∧ (99 = 99 ∨ ((mc_M 269).1.name = "<init>" ∧ (mc_M 269).1.cls = mk_nm 99)) := ⟨rfl, Or.inl rfl⟩
theorem mk_w270 : (mc_M 270).1.cls = mk_nm 12 ∧ (99 = 99 ∨ ((mc_M 270).1.name = "<init>" ∧ (mc_M 270).1.cls = mk_nm 99)) := ⟨rfl, Or.inl rfl⟩
theorem mk_w271 : (mc_M 271).1.cls = mk_nm 12 ∧ (99 = 99 ∨ ((mc_M 271).1.name = "<init>" ∧ (mc_M 271).1.cls = mk_nm 99)) := ⟨rfl, Or.inl rfl⟩
theorem mk_w272 : (mc_M 272).1.cls = mk_nm 12 ∧ (99 = 99 ∨ ((mc_M 272).1.name = "<init>" ∧ (mc_M 272).1.cls = mk_nm 99)) := ⟨rfl, Or.inl rfl⟩
theorem mk_w273 : (mc_M 273).1.cls = mk_nm 12 ∧ (99 = 99 ∨ ((mc_M 273).1.name = "<init>" ∧ (mc_M 273).1.cls = mk_nm 99)) := ⟨rfl, Or.inl rfl⟩
theorem mk_w274 : (mc_M 274).1.cls = mk_nm 12 ∧ (99 = 99 ∨ ((mc_M 274).1.name = "<init>" ∧ (mc_M 274).1.cls = mk_nm 99)) := ⟨rfl, Or.inl rfl⟩
theorem mk_w275 : (mc_M 275).1.cls = mk_nm 12 ∧ (99 = 99 ∨ ((mc_M 275).1.name = "<init>" ∧ (mc_M 275).1.cls = mk_nm 99)) := ⟨rfl, Or.inl rfl⟩
theorem mk_w276 : (mc_M 276).1.cls = mk_nm 13 ∧ (13 = 99 ∨ ((mc_M 276).1.name = "<init>" ∧ (mc_M 276).1.cls = mk_nm 13)) := ⟨rfl, Or.inr ⟨rfl, rfl⟩⟩
theorem mk_w277 : (mc_M 277).1.cls = mk_nm 13 ∧ (99 = 99 ∨ ((mc_M 277).1.name = "<init>" ∧ (mc_M 277).1.cls = mk_nm 99)) := ⟨rfl, Or.inl rfl⟩
theorem mk_w278 : (mc_M 278).1.cls = mk_nm 13 ∧ (99 = 99 ∨ ((mc_M 278).1.name = "<init>" ∧ (mc_M 278).1.cls = mk_nm 99)) := ⟨rfl, Or.inl rfl⟩
theorem mk_w279 : (mc_M 279).1.cls = mk_nm 13 ∧ (99 = 99 ∨ ((mc_M 279).1.name = "<init>" ∧ (mc_M 279).1.cls = mk_nm 99)) := ⟨rfl, Or.inl rfl⟩
theorem mk_w280 : (mc_M 280).1.cls = mk_nm 13 ∧ (99 = 99 ∨ ((mc_M 280).1.name = "<init>" ∧ (mc_M 280).1.cls = mk_nm 99)) := ⟨rfl, Or.inl rfl⟩
theorem mk_w281 : (mc_M 281).1.cls = mk_nm 13 ∧ (99 = 99 ∨ ((mc_M 281).1.name = "<init>" ∧ (mc_M 281).1.cls = mk_nm 99)) := ⟨rfl, Or.inl rfl⟩
theorem mk_w282 : (mc_M 282).1.cls = mk_nm 13 ∧ (99 = 99 ∨ ((mc_M 282).1.name = "<init>" ∧ (mc_M 282).1.cls = mk_nm 99)) := ⟨rfl, Or.inl rfl⟩
theorem mk_w283 : (mc_M 283).1.cls = mk_nm 13 ∧ (99 = 99 ∨ ((mc_M 283).1.name = "<init>" ∧ (mc_M 283).1.cls = mk_nm 99)) := ⟨rfl, Or.inl rfl⟩
theorem mk_w284 : (mc_M 284).1.cls = mk_nm 13 ∧ (99 = 99 ∨ ((mc_M 284).1.name = "<init>" ∧ (mc_M 284).1.cls = mk_nm 99)) := ⟨rfl, Or.inl rfl⟩
theorem mk_w285 : (mc_M 285).1.cls = mk_nm 13 ∧ (99 = 99 ∨ ((mc_M 285).1.name = "<init>" ∧ (mc_M 285).1.cls = mk_nm 99)) := ⟨rfl, Or.inl rfl⟩
theorem mk_w286 : (mc_M 286).1.cls = mk_nm 13 ∧ (99 = 99 ∨ ((mc_M 286).1.name = "<init>" ∧ (mc_M 286).1.cls = mk_nm 99)) := ⟨rfl, Or.inl rfl⟩
theorem mk_w287 : (mc_M 287).1.cls = mk_nm 13 ∧ (99 = 99 ∨ ((mc_M 287).1.name = "<init>" ∧ (mc_M 287).1.cls = mk_nm 99)) := ⟨rfl, Or.inl rfl⟩
theorem mk_w288 : (mc_M 288).1.cls = mk_nm 13 ∧ (99 = 99 ∨ ((mc_M 288).1.name = "<init>" ∧ (mc_M 288).1.cls = mk_nm 99)) := ⟨rfl, Or.inl rfl⟩
theorem mk_w289 : (mc_M 289).1.cls = mk_nm 13 ∧ (99 = 99 ∨ ((mc_M 289).1.name = "<init>" ∧ (mc_M 289).1.cls = mk_nm 99)) := ⟨rfl, Or.inl rfl⟩
theorem mk_w290 : (mc_M 290).1.cls = mk_nm 13 ∧ (99 = 99 ∨ ((mc_M 290).1.name = "<init>" ∧ (mc_M 290).1.cls = mk_nm 99)) := ⟨rfl, Or.inl rfl⟩
theorem mk_w291 : (mc_M 291).1.cls = mk_nm 13 ∧ (99 = 99 ∨ ((mc_M 291).1.name = "<init>" ∧ (mc_M 291).1.cls = mk_nm 99)) := ⟨rfl, Or.inl rfl⟩
theorem mk_w292 : (mc_M 292).1.cls = mk_nm 13 ∧ (99 = 99 ∨ ((mc_M 292).1.name = "<init>" ∧ (mc_M 292).1.cls = mk_nm 99)) := ⟨rfl, Or.inl rfl⟩
theorem mk_w293 : (mc_M 293).1.cls = mk_nm 13 ∧ (99 = 99 ∨ ((mc_M 293).1.name = "<init>" ∧ (mc_M 293).1.cls = mk_nm 99)) := ⟨rfl, Or.inl rfl⟩
theorem mk_w294 : (mc_M 294).1.cls = mk_nm 13 ∧ (99 = 99 ∨ ((mc_M 294).1.name = "<init>" ∧ (mc_M 294).1.cls = mk_nm 99)) := ⟨rfl, Or.inl rfl⟩
theorem mk_w295 : (mc_M 295).1.cls = mk_nm 13 ∧ (99 = 99 ∨ ((mc_M 295).1.name = "<init>" ∧ (mc_M 295).1.cls = mk_nm 99)) := ⟨rfl, Or.inl rfl⟩
theorem mk_w296 : (mc_M 296).1.cls = mk_nm 13 ∧ (99 = 99 ∨ ((mc_M 296).1.name = "<init>" ∧ (mc_M 296).1.cls = mk_nm 99)) := ⟨rfl, Or.inl rfl⟩
theorem mk_w297 : (mc_M 297).1.cls = mk_nm 13 ∧ (99 = 99 ∨ ((mc_M 297).1.name = "<init>" ∧ (mc_M 297).1.cls = mk_nm 99)) := ⟨rfl, Or.inl rfl⟩
theorem mk_w298 : (mc_M 298).1.cls = mk_nm 14 ∧ (14 = 99 ∨ ((mc_M 298).1.name = "<init>" ∧ (mc_M 298).1.cls = mk_nm 14)) := ⟨rfl, Or.inr ⟨rfl, rfl⟩⟩
theorem mk_w299 : (mc_M 299).1.cls = mk_nm 14 ∧ (99 = 99 ∨ ((mc_M 299).1.name = "<init>" ∧ (mc_M 299).1.cls = mk_nm 99)) := ⟨rfl, Or.inl rfl⟩
theorem mk_w300 : (mc_M 300).1.cls = mk_nm 14 ∧ (99 = 99 ∨ ((mc_M 300).1.name = "<init>" ∧ (mc_M 300).1.cls = mk_nm 99)) := ⟨rfl, Or.inl rfl⟩
theorem mk_w301 : (mc_M 301).1.cls = mk_nm 14 ∧ (99 = 99 ∨ ((mc_M 301).1.name = "<init>" ∧ (mc_M 301).1.cls = mk_nm 99)) := ⟨rfl, Or.inl rfl⟩
theorem mk_w302 : (mc_M 302).1.cls = mk_nm 14 ∧ (99 = 99 ∨ ((mc_M 302).1.name = "<init>" ∧ (mc_M 302).1.cls = mk_nm 99)) := ⟨rfl, Or.inl rfl⟩
theorem mk_w303 : (mc_M 303).1.cls = mk_nm 14 ∧ (99 = 99 ∨ ((mc_M 303).1.name = "<init>" ∧ (mc_M 303).1.cls = mk_nm 99)) := ⟨rfl, Or.inl rfl⟩
theorem mk_w304 : (mc_M 304).1.cls = mk_nm 14 ∧ (99 = 99 ∨ ((mc_M 304).1.name = "<init>" ∧ (mc_M 304).1.cls = mk_nm 99)) := ⟨rfl, Or.inl rfl⟩
theorem mk_w305 : (mc_M 305).1.cls = mk_nm 14 ∧ (99 = 99 ∨ ((mc_M 305).1.name = "<init>" ∧ (mc_M 305).1.cls = mk_nm 99)) := ⟨rfl, Or.inl rfl⟩
theorem mk_w306 : (mc_M 306).1.cls = mk_nm 14 ∧ (99 = 99 ∨ ((mc_M 306).1.name = "<init>" ∧ (mc_M 306).1.cls = mk_nm 99)) := ⟨rfl, Or.inl rfl⟩
theorem mk_w307 : (mc_M 307).1.cls = mk_nm 14 ∧ (99 = 99 ∨ ((mc_M 307).1.name = "<init>" ∧ (mc_M 307).1.cls = mk_nm 99)) := ⟨rfl, Or.inl rfl⟩
theorem mk_w308 : (mc_M 308).1.cls = mk_nm 14 ∧ (99 = 99 ∨ ((mc_M 308).1.name = "<init>" ∧ (mc_M 308).1.cls = mk_nm 99)) := ⟨rfl, Or.inl rfl⟩
theorem mk_w309 : (mc_M 309).1.cls = mk_nm 14 ∧ (99 = 99 ∨ ((mc_M 309).1.name = "<init>" ∧ (mc_M 309).1.cls = mk_nm 99)) := ⟨rfl, Or.inl rfl⟩
theorem mk_w310 : (mc_M 310).1.cls = mk_nm 14 ∧ (99 = 99 ∨ ((mc_M 310).1.name = "<init>" ∧ (mc_M 310).1.cls = mk_nm 99)) := ⟨rfl, Or.inl rfl⟩
theorem mk_w311 : (mc_M 311).1.cls = mk_nm 14 ∧ (99 = 99 ∨ ((mc_M 311).1.name = "<init>" ∧ (mc_M 311).1.cls = mk_nm 99)) := ⟨rfl, Or.inl rfl⟩
theorem mk_w312 : (mc_M 312).1.cls = mk_nm 14 ∧ (99 = 99 ∨ ((mc_M 312).1.name = "<init>" ∧ (mc_M 312).1.cls = mk_nm 99)) := ⟨rfl, Or.inl rfl⟩
theorem mk_w313 : (mc_M 313).1.cls = mk_nm 14 ∧ (99 = 99 ∨ ((mc_M 313).1.name = "<init>" ∧ (mc_M 313).1.cls = mk_nm 99)) := ⟨rfl, Or.inl rfl⟩
theorem mk_w314 : (mc_M 314).1.cls = mk_nm 14 ∧ (99 = 99 ∨ ((mc_M 314).1.name = "<init>" ∧ (mc_M 314).1.cls = mk_nm 99)) := ⟨rfl, Or.inl rfl⟩
theorem mk_w315 : (mc_M 315).1.cls = mk_nm 14 ∧ (99 = 99 ∨ ((mc_M 315).1.name = "<init>" ∧ (mc_M 315).1.cls = mk_nm 99)) := ⟨rfl, Or.inl rfl⟩
theorem mk_w316 : (mc_M 316).1.cls = mk_nm 14 ∧ (99 = 99 ∨ ((mc_M 316).1.name = "<init>" ∧ (mc_M 316).1.cls = mk_nm 99)) := ⟨rfl, Or.inl rfl⟩
theorem mk_w317 : (mc_M 317).1.cls = mk_nm 14 ∧ (99 = 99 ∨ ((mc_M 317).1.name = "<init>" ∧ (mc_M 317).1.cls = mk_nm 99)) := ⟨rfl, Or.inl rfl⟩
theorem mk_w318 : (mc_M 318).1.cls = mk_nm 14 ∧ (99 = 99 ∨ ((mc_M 318).1.name = "<init>" ∧ (mc_M 318).1.cls = mk_nm 99)) := ⟨rfl, Or.inl rfl⟩
theorem mk_w319 : (mc_M 319).1.cls = mk_nm 14 ∧ (99 = 99 ∨ ((mc_M 319).1.name = "<init>" ∧ (mc_M 319).1.cls = mk_nm 99)) := ⟨rfl, Or.inl rfl⟩
theorem mk_w320 : (mc_M 320).1.cls = mk_nm 14 ∧ (99 = 99 ∨ ((mc_M 320).1.name = "<init>" ∧ (mc_M 320).1.cls = mk_nm 99)) := ⟨rfl, Or.inl rfl⟩
theorem mk_w321 : (mc_M 321).1.cls = mk_nm 14 ∧ (99 = 99 ∨ ((mc_M 321).1.name = "<init>" ∧ (mc_M 321).1.cls = mk_nm 99)) := ⟨rfl, Or.inl rfl⟩
theorem mk_w322 : (mc_M 322).1.cls = mk_nm 14 ∧ (99 = 99 ∨ ((mc_M 322).1.name = "<init>" ∧ (mc_M 322).1.cls = mk_nm 99)) := ⟨rfl, Or.inl rfl⟩
theorem mk_w323 : (mc_M 323).1.cls = mk_nm 14 ∧ (99 = 99 ∨ ((mc_M 323).1.name = "<init>" ∧ (mc_M 323).1.cls = mk_nm 99)) := ⟨rfl, Or.inl rfl⟩
theorem mk_w324 : (mc_M 324).1.cls = mk_nm 14 ∧ (99 = 99 ∨ ((mc_M 324).1.name = "<init>" ∧ (mc_M 324).1.cls = mk_nm 99)) := ⟨rfl, Or.inl rfl⟩
theorem mk_w325 : (mc_M 325).1.cls = mk_nm 14 ∧ (99 = 99 ∨ ((mc_M 325).1.name = "<init>" ∧ (mc_M 325).1.cls = mk_nm 99)) := ⟨rfl, Or.inl rfl⟩
theorem mk_w326 : (mc_M 326).1.cls = mk_nm 14 ∧ (99 = 99 ∨ ((mc_M 326).1.name = "<init>" ∧ (mc_M 326).1.cls = mk_nm 99)) := ⟨rfl, Or.inl rfl⟩
theorem mk_w327 : (mc_M 327).1.cls = mk_nm 14 ∧ (99 = 99 ∨ ((mc_M 327).1.name = "<init>" ∧ (mc_M 327).1.cls = mk_nm 99)) := ⟨rfl, Or.inl rfl⟩
theorem mk_w328 : (mc_M 328).1.cls = mk_nm 14 ∧ (99 = 99 ∨ ((mc_M 328).1.name = "<init>" ∧ (mc_M 328).1.cls = mk_nm 99)) := ⟨rfl, Or.inl rfl⟩
theorem mk_w329 : (mc_M 329).1.cls = mk_nm 14 ∧ (99 = 99 ∨ ((mc_M 329).1.name = "<init>" ∧ (mc_M 329).1.cls = mk_nm 99)) := ⟨rfl, Or.inl rfl⟩
theorem mk_w330 : (mc_M 330).1.cls = mk_nm 14 ∧ (99 = 99 ∨ ((mc_M 330).1.name = "<init>" ∧ (mc_M 330).1.cls = mk_nm 99)) := ⟨rfl, Or.inl rfl⟩
theorem mk_w331 : (mc_M 331).1.cls = mk_nm 14 ∧ (99 = 99 ∨ ((mc_M 331).1.name = "<init>" ∧ (mc_M 331).1.cls = mk_nm 99)) := ⟨rfl, Or.inl rfl⟩
theorem mk_w332 : (mc_M 332).1.cls = mk_nm 14 ∧ (99 = 99 ∨ ((mc_M 332).1.name = "<init>" ∧ (mc_M 332).1.cls = mk_nm 99)) := ⟨rfl, Or.inl rfl⟩
theorem mk_w333 : (mc_M 333).1.cls = mk_nm 14 ∧ (99 = 99 ∨ ((mc_M 333).1.name = "<init>" ∧ (mc_M 333).1.cls = mk_nm 99)) := ⟨rfl, Or.inl rfl⟩
theorem mk_w334 : (mc_M 334).1.cls = mk_nm 14 ∧ (99 = 99 ∨ ((mc_M 334).1.name = "<init>" ∧ (mc_M 334).1.cls = mk_nm 99)) := ⟨rfl, Or.inl rfl⟩
theorem mk_w335 : (mc_M 335).1.cls = mk_nm 14 ∧ (99 = 99 ∨ ((mc_M 335).1.name = "<init>" ∧ (mc_M 335).1.cls = mk_nm 99)) := ⟨rfl, Or.inl rfl⟩
theorem mk_w336 : (mc_M 336).1.cls = mk_nm 14 ∧ (99 = 99 ∨ ((mc_M 336).1.name = "<init>" ∧ (mc_M 336).1.cls = mk_nm 99)) := ⟨rfl, Or.inl rfl⟩
theorem mk_w337 : (mc_M 337).1.cls = mk_nm 14 ∧ (99 = 99 ∨ ((mc_M 337).1.name = "<init>" ∧ (mc_M 337).1.cls = mk_nm 99)) := ⟨rfl, Or.inl rfl⟩
theorem mk_w338 : (mc_M 338).1.cls = mk_nm 14 ∧ (99 = 99 ∨ ((mc_M 338).1.name = "<init>" ∧ (mc_M 338).1.cls = mk_nm 99)) := ⟨rfl, Or.inl rfl⟩
theorem mk_w339 : (mc_M 339).1.cls = mk_nm 14 ∧ (99 = 99 ∨ ((mc_M 339).1.name = "<init>" ∧ (mc_M 339).1.cls = mk_nm 99)) := ⟨rfl, Or.inl rfl⟩
theorem mk_w340 : (mc_M 340).1.cls = mk_nm 14 ∧ (99 = 99 ∨ ((mc_M 340).1.name = "<init>" ∧ (mc_M 340).1.cls = mk_nm 99)) := ⟨rfl, Or.inl rfl⟩
theorem mk_w341 : (mc_M 341).1.cls = mk_nm 14 ∧ (99 = 99 ∨ ((mc_M 341).1.name = "<init>" ∧ (mc_M 341).1.cls = mk_nm 99)) := ⟨rfl, Or.inl rfl⟩
theorem mk_w342 : (mc_M 342).1.cls = mk_nm 14 ∧ (99 = 99 ∨ ((mc_M 342).1.name = "<init>" ∧ (mc_M 342).1.cls = mk_nm 99)) := ⟨rfl, Or.inl rfl⟩
theorem mk_w343 : (mc_M 343).1.cls = mk_nm 14 ∧ (99 = 99 ∨ ((mc_M 343).1.name = "<init>" ∧ (mc_M 343).1.cls = mk_nm 99)) := ⟨rfl, Or.inl rfl⟩
theorem mk_w344 : (mc_M 344).1.cls = mk_nm 14 ∧ (99 = 99 ∨ ((mc_M 344).1.name = "<init>" ∧ (mc_M 344).1.cls = mk_nm 99)) := ⟨rfl, Or.inl rfl⟩
theorem mk_w345 : (mc_M 345).1.cls = mk_nm 14 ∧ (99 = 99 ∨ ((mc_M 345).1.name = "<init>" ∧ (mc_M 345).1.cls = mk_nm 99)) := ⟨rfl, Or.inl rfl⟩
theorem mk_w346 : (mc_M 346).1.cls = mk_nm 14 ∧ (99 = 99 ∨ ((mc_M 346).1.name = "<init>" ∧ (mc_M 346).1.cls = mk_nm 99)) := ⟨rfl, Or.inl rfl⟩
theorem mk_w347 : (mc_M 347).1.cls = mk_nm 14 ∧ (99 = 99 ∨ ((mc_M 347).1.name = "<init>" ∧ (mc_M 347).1.cls = mk_nm 99)) := ⟨rfl, Or.inl rfl⟩
theorem mk_w348 : (mc_M 348).1.cls = mk_nm 14 ∧ (99 = 99 ∨ ((mc_M 348).1.name = "<init>" ∧ (mc_M 348).1.cls = mk_nm 99)) := ⟨rfl, Or.inl rfl⟩
theorem mk_w349 : (mc_M 349).1.cls = mk_nm 14 ∧ (99 = 99 ∨ ((mc_M 349).1.name = "<init>" ∧ (mc_M 349).1.cls = mk_nm 99)) := ⟨rfl, Or.inl rfl⟩
theorem mk_w350 : (mc_M 350).1.cls = mk_nm 14 ∧ (99 = 99 ∨ ((mc_M 350).1.name = "<init>" ∧ (mc_M 350).1.cls = mk_nm 99)) := ⟨rfl, Or.inl rfl⟩
theorem mk_w351 : (mc_M 351).1.cls = mk_nm 14 ∧ (99 = 99 ∨ ((mc_M 351).1.name = "<init>" ∧ (mc_M 351).1.cls = mk_nm 99)) := ⟨rfl, Or.inl rfl⟩
theorem mk_w352 : (mc_M 352).1.cls = mk_nm 14 ∧ (99 = 99 ∨ ((mc_M 352).1.name = "<init>" ∧ (mc_M 352).1.cls = mk_nm 99)) := ⟨rfl, Or.inl rfl⟩
theorem mk_w353 : (mc_M 353).1.cls = mk_nm 14 ∧ (99 = 99 ∨ ((mc_M 353).1.name = "<init>" ∧ (mc_M 353).1.cls = mk_nm 99)) := ⟨rfl, Or.inl rfl⟩
theorem mk_w354 : (mc_M 354).1.cls = mk_nm 14 ∧ (99 = 99 ∨ ((mc_M 354).1.name = "<init>" ∧ (mc_M 354).1.cls = mk_nm 99)) := ⟨rfl, Or.inl rfl⟩
theorem mk_w355 : (mc_M 355).1.cls = mk_nm 14 ∧ (99 = 99 ∨ ((mc_M 355).1.name = "<init>" ∧ (mc_M 355).1.cls = mk_nm 99)) := ⟨rfl, Or.inl rfl⟩
theorem mk_w356 : (mc_M 356).1.cls = mk_nm 14 ∧ (99 = 99 ∨ ((mc_M 356).1.name = "<init>" ∧ (mc_M 356).1.cls = mk_nm 99)) := ⟨rfl, Or.inl rfl⟩
theorem mk_w357 : (mc_M 357).1.cls = mk_nm 14 ∧ (99 = 99 ∨ ((mc_M 357).1.name = "<init>" ∧ (mc_M 357).1.cls = mk_nm 99)) := ⟨rfl, Or.inl rfl⟩
theorem mk_w358 : (mc_M 358).1.cls = mk_nm 14 ∧ (99 = 99 ∨ ((mc_M 358).1.name = "<init>" ∧ (mc_M 358).1.cls = mk_nm 99)) := ⟨rfl, Or.inl rfl⟩
theorem mk_w359 : (mc_M 359).1.cls = mk_nm 14 ∧ (99 = 99 ∨ ((mc_M 359).1.name = "<init>" ∧ (mc_M 359).1.cls = mk_nm 99)) := ⟨rfl, Or.inl rfl⟩
theorem mk_w360 : (mc_M 360).1.cls = mk_nm 14 ∧ (99 = 99 ∨ ((mc_M 360).1.name = "<init>" ∧ (mc_M 360).1.cls = mk_nm 99)) := ⟨rfl, Or.inl rfl⟩
theorem mk_w361 : (mc_M 361).1.cls = mk_nm 14 ∧ (99 = 99 ∨ ((mc_M 361).1.name = "<init>" ∧ (mc_M 361).1.cls = mk_nm 99)) := ⟨rfl, Or.inl rfl⟩
theorem mk_w362 : (mc_M 362).1.cls = mk_nm 14 ∧ (99 = 99 ∨ ((mc_M 362).1.name = "<init>" ∧ (mc_M 362).1.cls = mk_nm 99)) := ⟨rfl, Or.inl rfl⟩
theorem mk_w363 : (mc_M 363).1.cls = mk_nm 14 ∧ (99 = 99 ∨ ((mc_M 363).1.name = "<init>" ∧ (mc_M 363).1.cls = mk_nm 99)) := ⟨rfl, Or.inl rfl⟩
theorem mk_w364 : (mc_M 364).1.cls = mk_nm 14 ∧ (99 = 99 ∨ ((mc_M 364).1.name = "<init>" ∧ (mc_M 364).1.cls = mk_nm 99)) := ⟨rfl, Or.inl rfl⟩
theorem mk_w365 : (mc_M 365).1.cls = mk_nm 14 ∧ (99 = 99 ∨ ((mc_M 365).1.name = "<init>" ∧ (mc_M 365).1.cls = mk_nm 99)) := ⟨rfl, Or.inl rfl⟩
theorem mk_w366 : (mc_M 366).1.cls = mk_nm 14 ∧ (99 = 99 ∨ ((mc_M 366).1.name = "<init>" ∧ (mc_M 366).1.cls = mk_nm 99)) := ⟨rfl, Or.inl rfl⟩
theorem mk_w367 : (mc_M 367).1.cls = mk_nm 14 ∧ (99 = 99 ∨ ((mc_M 367).1.name = "<init>" ∧ (mc_M 367).1.cls = mk_nm 99)) := ⟨rfl, Or.inl rfl⟩
theorem mk_w368 : (mc_M 368).1.cls = mk_nm 14 ∧ (99 = 99 ∨ ((mc_M 368).1.name = "<init>" ∧ (mc_M 368).1.cls = mk_nm 99)) := ⟨rfl, Or.inl rfl⟩
theorem mk_w369 : (mc_M 369).1.cls = mk_nm 14 ∧ (99 = 99 ∨ ((mc_M 369).1.name = "<init>" ∧ (mc_M 369).1.cls = mk_nm 99)) := ⟨rfl, Or.inl rfl⟩
theorem mk_w370 : (mc_M 370).1.cls = mk_nm 14 ∧ (99 = 99 ∨ ((mc_M 370).1.name = "<init>" ∧ (mc_M 370).1.cls = mk_nm 99)) := ⟨rfl, Or.inl rfl⟩
theorem mk_w371 : (mc_M 371).1.cls = mk_nm 14 ∧ (99 = 99 ∨ ((mc_M 371).1.name = "<init>" ∧ (mc_M 371).1.cls = mk_nm 99)) := ⟨rfl, Or.inl rfl⟩
theorem mk_w372 : (mc_M 372).1.cls = mk_nm 14 ∧ (99 = 99 ∨ ((mc_M 372).1.name = "<init>" ∧ (mc_M 372).1.cls = mk_nm 99)) := ⟨rfl, Or.inl rfl⟩
theorem mk_w373 : (mc_M 373).1.cls = mk_nm 14 ∧ (99 = 99 ∨ ((mc_M 373).1.name = "<init>" ∧ (mc_M 373).1.cls = mk_nm 99)) := ⟨rfl, Or.inl rfl⟩
theorem mk_w374 : (mc_M 374).1.cls = mk_nm 14 ∧ (99 = 99 ∨ ((mc_M 374).1.name = "<init>" ∧ (mc_M 374).1.cls = mk_nm 99)) := ⟨rfl, Or.inl rfl⟩
theorem mk_w375 : (mc_M 375).1.cls = mk_nm 14 ∧ (99 = 99 ∨ ((mc_M 375).1.name = "<init>" ∧ (mc_M 375).1.cls = mk_nm 99)) := ⟨rfl, Or.inl rfl⟩
theorem mk_w376 : (mc_M 376).1.cls = mk_nm 14 ∧ (99 = 99 ∨ ((mc_M 376).1.name = "<init>" ∧ (mc_M 376).1.cls = mk_nm 99)) := ⟨rfl, Or.inl rfl⟩
theorem mk_w377 : (mc_M 377).1.cls = mk_nm 14 ∧ (99 = 99 ∨ ((mc_M 377).1.name = "<init>" ∧ (mc_M 377).1.cls = mk_nm 99)) := ⟨rfl, Or.inl rfl⟩
theorem mk_w378 : (mc_M 378).1.cls = mk_nm 14 ∧ (99 = 99 ∨ ((mc_M 378).1.name = "<init>" ∧ (mc_M 378).1.cls = mk_nm 99)) := ⟨rfl, Or.inl rfl⟩
theorem mk_w379 : (mc_M 379).1.cls = mk_nm 14 ∧ (99 = 99 ∨ ((mc_M 379).1.name = "<init>" ∧ (mc_M 379).1.cls = mk_nm 99)) := ⟨rfl, Or.inl rfl⟩
theorem mk_w380 : (mc_M 380).1.cls = mk_nm 14 ∧ (99 = 99 ∨ ((mc_M 380).1.name = "<init>" ∧ (mc_M 380).1.cls = mk_nm 99)) := ⟨rfl, Or.inl rfl⟩
theorem mk_w381 : (mc_M 381).1.cls = mk_nm 14 ∧ (99 = 99 ∨ ((mc_M 381).1.name = "<init>" ∧ (mc_M 381).1.cls = mk_nm 99)) := ⟨rfl, Or.inl rfl⟩
theorem mk_w382 : (mc_M 382).1.cls = mk_nm 14 ∧ (99 = 99 ∨ ((mc_M 382).1.name = "<init>" ∧ (mc_M 382).1.cls = mk_nm 99)) := ⟨rfl, Or.inl rfl⟩
theorem mk_w383 : (mc_M 383).1.cls = mk_nm 14 ∧ (99 = 99 ∨ ((mc_M 383).1.name = "<init>" ∧ (mc_M 383).1.cls = mk_nm 99)) := ⟨rfl, Or.inl rfl⟩
theorem mk_w384 : (mc_M 384).1.cls = mk_nm 14 ∧ (99 = 99 ∨ ((mc_M 384).1.name = "<init>" ∧ (mc_M 384).1.cls = mk_nm 99)) := ⟨rfl, Or.inl rfl⟩
theorem mk_w385 : (mc_M 385).1.cls = mk_nm 14 ∧ (99 = 99 ∨ ((mc_M 385).1.name = "<init>" ∧ (mc_M 385).1.cls = mk_nm 99)) := ⟨rfl, Or.inl rfl⟩
theorem mk_w386 : (mc_M 386).1.cls = mk_nm 14 ∧ (99 = 99 ∨ ((mc_M 386).1.name = "<init>" ∧ (mc_M 386).1.cls = mk_nm 99)) := ⟨rfl, Or.inl rfl⟩
theorem mk_w387 : (mc_M 387).1.cls = mk_nm 14 ∧ (99 = 99 ∨ ((mc_M 387).1.name = "<init>" ∧ (mc_M 387).1.cls = mk_nm 99)) := ⟨rfl, Or.inl rfl⟩
theorem mk_w388 : (mc_M 388).1.cls = mk_nm 14 ∧ (99 = 99 ∨ ((mc_M 388).1.name = "<init>" ∧ (mc_M 388).1.cls = mk_nm 99)) := ⟨rfl, Or.inl rfl⟩
theorem mk_w389 : (mc_M 389).1.cls = mk_nm 14 ∧ (99 = 99 ∨ ((mc_M 389).1.name = "<init>" ∧ (mc_M 389).1.cls = mk_nm 99)) := ⟨rfl, Or.inl rfl⟩
theorem mk_w390 : (mc_M 390).1.cls = mk_nm 14 ∧ (99 = 99 ∨ ((mc_M 390).1.name = "<init>" ∧ (mc_M 390).1.cls = mk_nm 99)) := ⟨rfl, Or.inl rfl⟩
theorem mk_w391 : (mc_M 391).1.cls = mk_nm 14 ∧ (99 = 99 ∨ ((mc_M 391).1.name = "<init>" ∧ (mc_M 391).1.cls = mk_nm 99)) := ⟨rfl, Or.inl rfl⟩
theorem mk_w392 : (mc_M 392).1.cls = mk_nm 15 ∧ (99 = 99 ∨ ((mc_M 392).1.name = "<init>" ∧ (mc_M 392).1.cls = mk_nm 99)) := ⟨rfl, Or.inl rfl⟩
theorem mk_w393 : (mc_M 393).1.cls = mk_nm 15 ∧ (99 = 99 ∨ ((mc_M 393).1.name = "<init>" ∧ (mc_M 393).1.cls = mk_nm 99)) := ⟨rfl, Or.inl rfl⟩
theorem mk_w394 : (mc_M 394).1.cls = mk_nm 16 ∧ (99 = 99 ∨ ((mc_M 394).1.name = "<init>" ∧ (mc_M 394).1.cls = mk_nm 99)) := ⟨rfl, Or.inl rfl⟩
theorem mk_w395 : (mc_M 395).1.cls = mk_nm 16 ∧ (99 = 99 ∨ ((mc_M 395).1.name = "<init>" ∧ (mc_M 395).1.cls = mk_nm 99)) := ⟨rfl, Or.inl rfl⟩
theorem mk_w396 : (mc_M 396).1.cls = mk_nm 16 ∧ (99 = 99 ∨ ((mc_M 396).1.name = "<init>" ∧ (mc_M 396).1.cls = mk_nm 99)) := ⟨rfl, Or.inl rfl⟩
theorem mk_w397 : (mc_M 397).1.cls = mk_nm 16 ∧ (99 = 99 ∨ ((mc_M 397).1.name = "<init>" ∧ (mc_M 397).1.cls = mk_nm 99)) := ⟨rfl, Or.inl rfl⟩
theorem mk_w398 : (mc_M 398).1.cls = mk_nm 16 ∧ (99 = 99 ∨ ((mc_M 398).1.name = "<init>" ∧ (mc_M 398).1.cls = mk_nm 99)) := ⟨rfl, Or.inl rfl⟩
theorem mk_w399 : (mc_M 399).1.cls = mk_nm 16 ∧ (99 = 99 ∨ ((mc_M 399).1.name = "<init>" ∧ (mc_M 399).1.cls = mk_nm 99)) := ⟨rfl, Or.inl rfl⟩
theorem mk_w400 : (mc_M 400).1.cls = mk_nm 16 ∧ (99 = 99 ∨ ((mc_M 400).1.name = "<init>" ∧ (mc_M 400).1.cls = mk_nm 99)) := ⟨rfl, Or.inl rfl⟩
theorem mk_w401 : (mc_M 401).1.cls = mk_nm 17 ∧ (99 = 99 ∨ ((mc_M 401).1.name = "<init>" ∧ (mc_M 401).1.cls = mk_nm 99)) := ⟨rfl, Or.inl rfl⟩
theorem mk_w402 : (mc_M 402).1.cls = mk_nm 17 ∧ (99 = 99 ∨ ((mc_M 402).1.name = "<init>" ∧ (mc_M 402).1.cls = mk_nm 99)) := ⟨rfl, Or.inl rfl⟩
theorem mk_w403 : (mc_M 403).1.cls = mk_nm 17 ∧ (99 = 99 ∨ ((mc_M 403).1.name = "<init>" ∧ (mc_M 403).1.cls = mk_nm 99)) := ⟨rfl, Or.inl rfl⟩
theorem mk_w404 : (mc_M 404).1.cls = mk_nm 17 ∧ (99 = 99 ∨ ((mc_M 404).1.name = "<init>" ∧ (mc_M 404).1.cls = mk_nm 99)) := ⟨rfl, Or.inl rfl⟩
theorem mk_w405 : (mc_M 405).1.cls = mk_nm 18 ∧ (99 = 99 ∨ ((mc_M 405).1.name = "<init>" ∧ (mc_M 405).1.cls = mk_nm 99)) := ⟨rfl, Or.inl rfl⟩
theorem mk_w406 : (mc_M 406).1.cls = mk_nm 19 ∧ (99 = 99 ∨ ((mc_M 406).1.name = "<init>" ∧ (mc_M 406).1.cls = mk_nm 99)) := ⟨rfl, Or.inl rfl⟩
def mk_yl : List (Nat × Nat × Nat) := [(0, 0, 0), (1, 0, 99), (2, 0, 99), (3, 0, 99), (4, 0, 99), (5, 0, 99), (6, 0, 99), (7, 0, 99), (8, 0, 99), (9, 0, 99), (10, 0, 99), (11, 0, 99), (12, 1, 1), (13, 1, 99), (14, 1, 99), (15, 1, 99), (16, 1, 99), (17, 1, 99), (18, 1, 99), (19, 1, 99), (20, 1, 99), (21, 1, 99), (22, 1, 99), (23, 1, 99), (24, 1, 99), (25, 2, 2), (26, 2, 99), (27, 2, 99), (28, 2, 99), (29, 2, 99), (30, 2, 99), (31, 2, 99), (32, 2, 99), (33, 2, 99), (34, 2, 99), (35, 2, 99), (36, 2, 99), (37, 2, 99), (38, 2, 99), (39, 2, 99), (40, 2, 99), (41, 2, 99), (42, 2, 99), (43, 3, 3), (44, 3, 99), (45, 3, 99), (46, 3, 99), (47, 3, 99), (48, 3, 99), (49, 3, 99), (50, 3, 99), (51, 3, 99), (52, 3, 99), (53, 3, 99), (54, 3, 99), (55, 3, 99), (56, 3, 99), (57, 3, 99), (58, 3, 99), (59, 3, 99), (60, 3, 99), (61, 3, 99), (62, 3, 99), (63, 3, 99), (64, 3, 99), (65, 3, 99), (66, 3, 99), (67, 3, 99), (68, 3, 99), (69, 3, 99), (70, 3, 99), (71, 3, 99), (72, 3, 99), (73, 3, 99), (74, 3, 99), (75, 3, 99), (76, 3, 99), (77, 3, 99), (78, 4, 4), (79, 4, 99), (80, 4, 99), (81, 4, 99), (82, 4, 99), (83, 4, 99), (84, 4, 99), (85, 4, 99), (86, 4, 99), (87, 4, 99), (88, 4, 99), (89, 4, 99), (90, 4, 99), (91, 4, 99), (92, 4, 99), (93, 4, 99), (94, 4, 99), (95, 4, 99), (96, 5, 5), (97, 5, 99), (98, 5, 99), (99, 5, 99), (100, 5, 99), (101, 5, 99), (102, 5, 99), (103, 5, 99), (104, 5, 99), (105, 5, 99), (106, 5, 99), (107, 5, 99), (108, 5, 99), (109, 5, 99), (110, 5, 99), (111, 5, 99), (112, 5, 99), (113, 5, 99), (114, 5, 99), (115, 5, 99), (116, 6, 6), (117, 6, 99), (118, 6, 99), (119, 6, 99), (120, 6, 99), (121, 6, 99), (122, 6, 99), (123, 6, 99), (124, 6, 99), (125, 7, 7), (126, 7, 99), (127, 7, 99), (128, 7, 99), (129, 7, 99), (130, 7, 99), (131, 7, 99), (132, 7, 99), (133, 7, 99), (134, 7, 99), (135, 7, 99), (136, 7, 99), (137, 7, 99), (138, 7, 99), (139, 8, 8), (140, 8, 99), (141, 8, 99), (142, 8, 99), (143, 8, 99), (144, 8, 99), (145, 8, 99), (146, 8, 99), (147, 8, 99), (148, 8, 99), (149, 8, 99), (150, 8, 99), (151, 8, 99), (152, 8, 99), (153, 8, 99), (154, 8, 99), (155, 8, 99), (156, 8, 99), (157, 8, 99), (158, 8, 99), (159, 8, 99), (160, 8, 99), (161, 8, 99), (162, 8, 99), (163, 8, 99), (164, 9, 9), (165, 9, 99), (166, 9, 99), (167, 10, 10), (168, 10, 99), (169, 10, 99), (170, 10, 99), (171, 10, 99), (172, 10, 99), (173, 10, 99), (174, 10, 99), (175, 10, 99), (176, 10, 99), (177, 10, 99), (178, 10, 99), (179, 10, 99), (180, 10, 99), (181, 10, 99), (182, 10, 99), (183, 11, 11), (184, 11, 99), (185, 11, 99), (186, 11, 99), (187, 11, 99), (188, 11, 99), (189, 11, 99), (190, 11, 99), (191, 11, 99), (192, 11, 99), (193, 11, 99), (194, 11, 99), (195, 11, 99), (196, 11, 99), (197, 11, 99), (198, 11, 99), (199, 11, 99), (200, 11, 99), (201, 11, 99), (202, 11, 99), (203, 11, 99), (204, 11, 99), (205, 11, 99), (206, 11, 99), (207, 11, 99), (208, 11, 99), (209, 11, 99), (210, 11, 99), (211, 11, 99), (212, 11, 99), (213, 11, 99), (214, 11, 99), (215, 11, 99), (216, 11, 99), (217, 11, 99), (218, 11, 99), (219, 11, 99), (220, 11, 99), (221, 11, 99), (222, 11, 99), (223, 11, 99), (224, 11, 99), (225, 12, 12), (226, 12, 99), (227, 12, 99), (228, 12, 99), (229, 12, 99), (230, 12, 99), (231, 12, 99), (232, 12, 99), (233, 12, 99), (234, 12, 99), (235, 12, 99), (236, 12, 99), (237, 12, 99), (238, 12, 99), (239, 12, 99), (240, 12, 99), (241, 12, 99), (242, 12, 99), (243, 12, 99), (244, 12, 99), (245, 12, 99), (246, 12, 99), (247, 12, 99), (248, 12, 99), (249, 12, 99), (250, 12, 99), (251, 12, 99), (252, 12, 99), (253, 12, 99), (254, 12, 99), (255, 12, 99), (256, 12, 99), (257, 12, 99), (258, 12, 99), (259, 12, 99), (260, 12, 99), (261, 12, 99), (262, 12, 99), (263, 12, 99), (264, 12, 99), (265, 12, 99), (266, 12, 99), (267, 12, 99), (268, 12, 99), (269, 12, 99), (270, 12, 99), (271, 12, 99), (272, 12, 99), (273, 12, 99), (274, 12, 99), (275, 12, 99), (276, 13, 13), (277, 13, 99), (278, 13, 99), (279, 13, 99), (280, 13, 99), (281, 13, 99), (282, 13, 99), (283, 13, 99), (284, 13, 99), (285, 13, 99), (286, 13, 99), (287, 13, 99), (288, 13, 99), (289, 13, 99), (290, 13, 99), (291, 13, 99), (292, 13, 99), (293, 13, 99), (294, 13, 99), (295, 13, 99), (296, 13, 99), (297, 13, 99), (298, 14, 14), (299, 14, 99), (300, 14, 99), (301, 14, 99), (302, 14, 99), (303, 14, 99), (304, 14, 99), (305, 14, 99), (306, 14, 99), (307, 14, 99), (308, 14, 99), (309, 14, 99), (310, 14, 99), (311, 14, 99), (312, 14, 99), (313, 14, 99), (314, 14, 99), (315, 14, 99), (316, 14, 99), (317, 14, 99), (318, 14, 99), (319, 14, 99), (320, 14, 99), (321, 14, 99), (322, 14, 99), (323, 14, 99), (324, 14, 99), (325, 14, 99), (326, 14, 99), (327, 14, 99), (328, 14, 99), (329, 14, 99), (330, 14, 99), (331, 14, 99), (332, 14, 99), (333, 14, 99), (334, 14, 99), (335, 14, 99), (336, 14, 99), (337, 14, 99), (338, 14, 99), (339, 14, 99), (340, 14, 99), (341, 14, 99), (342, 14, 99), (343, 14, 99), (344, 14, 99), (345, 14, 99), (346, 14, 99), (347, 14, 99), (348, 14, 99), (349, 14, 99), (350, 14, 99), (351, 14, 99), (352, 14, 99), (353, 14, 99), (354, 14, 99), (355, 14, 99), (356, 14, 99), (357, 14, 99), (358, 14, 99), (359, 14, 99), (360, 14, 99), (361, 14, 99), (362, 14, 99), (363, 14, 99), (364, 14, 99), (365, 14, 99), (366, 14, 99), (367, 14, 99), (368, 14, 99), (369, 14, 99), (370, 14, 99), (371, 14, 99), (372, 14, 99), (373, 14, 99), (374, 14, 99), (375, 14, 99), (376, 14, 99), (377, 14, 99), (378, 14, 99), (379, 14, 99), (380, 14, 99), (381, 14, 99), (382, 14, 99), (383, 14, 99), (384, 14, 99), (385, 14, 99), (386, 14, 99), (387, 14, 99), (388, 14, 99), (389, 14, 99), (390, 14, 99), (391, 14, 99), (392, 15, 99), (393, 15, 99), (394, 16, 99), (395, 16, 99), (396, 16, 99), (397, 16, 99), (398, 16, 99), (399, 16, 99), (400, 16, 99), (401, 17, 99), (402, 17, 99), (403, 17, 99), (404, 17, 99), (405, 18, 99), (406, 19, 99)]
set_option maxRecDepth 100000 in
theorem mk_yl_ok : ∀ t ∈ mk_yl, (mc_M t.1).1.cls = mk_nm t.2.1 ∧ (t.2.2 = 99 ∨ ((mc_M t.1).1.name = "<init>" ∧ (mc_M t.1).1.cls = mk_nm t.2.2)) := List.forall_mem_cons.mpr ⟨mk_w0, List.forall_mem_cons.mpr ⟨mk_w1, List.forall_mem_cons.mpr ⟨mk_w2, List.forall_mem_cons.mpr ⟨mk_w3, List.forall_mem_cons.mpr ⟨mk_w4, List.forall_mem_cons.mpr ⟨mk_w5, List.forall_mem_cons.mpr ⟨mk_w6, List.forall_mem_cons.mpr ⟨mk_w7, List.forall_mem_cons.mpr ⟨mk_w8, List.forall_mem_cons.mpr ⟨mk_w9, List.forall_mem_cons.mpr ⟨mk_w10, List.forall_mem_cons.mpr ⟨mk_w11, List.forall_mem_cons.mpr ⟨mk_w12, List.forall_mem_cons.mpr ⟨mk_w13, List.forall_mem_cons.mpr ⟨mk_w14, List.forall_mem_cons.mpr ⟨mk_w15, List.forall_mem_cons.mpr ⟨mk_w16, List.forall_mem_cons.mpr ⟨mk_w17, List.forall_mem_cons.mpr ⟨mk_w18, List.forall_mem_cons.mpr ⟨mk_w19, List.forall_mem_cons.mpr ⟨mk_w20, List.forall_mem_cons.mpr ⟨mk_w21, List.forall_mem_cons.mpr ⟨mk_w22, List.forall_mem_cons.mpr ⟨mk_w23, List.forall_mem_cons.mpr ⟨mk_w24, List.forall_mem_cons.mpr ⟨mk_w25, List.forall_mem_cons.mpr ⟨mk_w26, List.forall_mem_cons.mpr ⟨mk_w27, List.forall_mem_cons.mpr ⟨mk_w28, List.forall_mem_cons.mpr ⟨mk_w29, List.forall_mem_cons.mpr ⟨mk_w30, List.forall_mem_cons.mpr ⟨mk_w31, List.forall_mem_cons.mpr ⟨mk_w32, List.forall_mem_cons.mpr ⟨mk_w33, List.forall_mem_cons.mpr ⟨mk_w34, List.forall_mem_cons.mpr ⟨mk_w35, List.forall_mem_cons.mpr ⟨mk_w36, List.forall_mem_cons.mpr ⟨mk_w37, List.forall_mem_cons.mpr ⟨mk_w38, List.forall_mem_cons.mpr ⟨mk_w39, List.forall_mem_cons.mpr ⟨mk_w40, List.forall_mem_cons.mpr ⟨mk_w41, List.forall_mem_cons.mpr ⟨mk_w42, List.forall_mem_cons.mpr ⟨mk_w43, List.forall_mem_cons.mpr ⟨mk_w44, List.forall_mem_cons.mpr ⟨mk_w45, List.forall_mem_cons.mpr ⟨mk_w46, List.forall_mem_cons.mpr ⟨mk_w47, List.forall_mem_cons.mpr ⟨mk_w48, List.forall_mem_cons.mpr ⟨mk_w49, List.forall_mem_cons.mpr ⟨mk_w50, List.forall_mem_cons.mpr ⟨mk_w51, List.forall_mem_cons.mpr ⟨mk_w52, List.forall_mem_cons.mpr ⟨mk_w53, List.forall_mem_cons.mpr ⟨mk_w54, List.forall_mem_cons.mpr ⟨mk_w55, List.forall_mem_cons.mpr ⟨mk_w56, List.forall_mem_cons.mpr ⟨mk_w57, List.forall_mem_cons.mpr ⟨mk_w58, List.forall_mem_cons.mpr ⟨mk_w59, List.forall_mem_cons.mpr ⟨mk_w60, List.forall_mem_cons.mpr ⟨mk_w61, List.forall_mem_cons.mpr ⟨mk_w62, List.forall_mem_cons.mpr ⟨mk_w63, List.forall_mem_cons.mpr ⟨mk_w64, List.forall_mem_cons.mpr ⟨mk_w65, List.forall_mem_cons.mpr ⟨mk_w66, List.forall_mem_cons.mpr ⟨mk_w67, List.forall_mem_cons.mpr ⟨mk_w68, List.forall_mem_cons.mpr ⟨mk_w69, List.forall_mem_cons.mpr ⟨mk_w70, List.forall_mem_cons.mpr ⟨mk_w71, List.forall_mem_cons.mpr ⟨mk_w72, List.forall_mem_cons.mpr ⟨mk_w73, List.forall_mem_cons.mpr ⟨mk_w74, List.forall_mem_cons.mpr ⟨mk_w75, List.forall_mem_cons.mpr ⟨mk_w76, List.forall_mem_cons.mpr ⟨mk_w77, List.forall_mem_cons.mpr ⟨mk_w78, List.forall_mem_cons.mpr ⟨mk_w79, List.forall_mem_cons.mpr ⟨mk_w80, List.forall_mem_cons.mpr ⟨mk_w81, List.forall_mem_cons.mpr ⟨mk_w82, List.forall_mem_cons.mpr ⟨mk_w83, List.forall_mem_cons.mpr ⟨mk_w84, List.forall_mem_cons.mpr ⟨mk_w85, List.forall_mem_cons.mpr ⟨mk_w86, List.forall_mem_cons.mpr ⟨mk_w87, List.forall_mem_cons.mpr ⟨mk_w88, List.forall_mem_cons.mpr ⟨mk_w89, List.forall_mem_cons.mpr ⟨mk_w90, List.forall_mem_cons.mpr ⟨mk_w91, List.forall_mem_cons.mpr ⟨mk_w92, List.forall_mem_cons.mpr ⟨mk_w93, List.forall_mem_cons.mpr ⟨mk_w94, List.forall_mem_cons.mpr ⟨mk_w95, List.forall_mem_cons.mpr ⟨mk_w96, List.forall_mem_cons.mpr ⟨mk_w97, List.forall_mem_cons.mpr ⟨mk_w98, List.forall_mem_cons.mpr ⟨mk_w99, List.forall_mem_cons.mpr ⟨mk_w100, List.forall_mem_cons.mpr ⟨mk_w101, List.forall_mem_cons.mpr ⟨mk_w102, List.forall_mem_cons.mpr ⟨mk_w103, List.forall_mem_cons.mpr ⟨mk_w104, List.forall_mem_cons.mpr ⟨mk_w105, List.forall_mem_cons.mpr ⟨mk_w106, List.forall_mem_cons.mpr ⟨mk_w107, List.forall_mem_cons.mpr ⟨mk_w108, List.forall_mem_cons.mpr ⟨mk_w109, List.forall_mem_cons.mpr ⟨mk_w110, List.forall_mem_cons.mpr ⟨mk_w111, List.forall_mem_cons.mpr ⟨mk_w112, List.forall_mem_cons.mpr ⟨mk_w113, List.forall_mem_cons.mpr ⟨mk_w114, List.forall_mem_cons.mpr ⟨mk_w115, List.forall_mem_cons.mpr ⟨mk_w116, List.forall_mem_cons.mpr ⟨mk_w117, List.forall_mem_cons.mpr ⟨mk_w118, List.forall_mem_cons.mpr ⟨mk_w119, List.forall_mem_cons.mpr ⟨mk_w120, List.forall_mem_cons.mpr ⟨mk_w121, List.forall_mem_cons.mpr ⟨mk_w122, List.forall_mem_cons.mpr ⟨mk_w123, List.forall_mem_cons.mpr ⟨mk_w124, List.forall_mem_cons.mpr ⟨mk_w125, List.forall_mem_cons.mpr ⟨mk_w126, List.forall_mem_cons.mpr ⟨mk_w127, List.forall_mem_cons.mpr ⟨mk_w128, List.forall_mem_cons.mpr ⟨mk_w129, List.forall_mem_cons.mpr ⟨mk_w130, List.forall_mem_cons.mpr ⟨mk_w131, List.forall_mem_cons.mpr ⟨mk_w132, List.forall_mem_cons.mpr ⟨mk_w133, List.forall_mem_cons.mpr ⟨mk_w134, List.forall_mem_cons.mpr ⟨mk_w135, List.forall_mem_cons.mpr ⟨mk_w136, List.forall_mem_cons.mpr ⟨mk_w137, List.forall_mem_cons.mpr ⟨mk_w138, List.forall_mem_cons.mpr ⟨mk_w139, List.forall_mem_cons.mpr ⟨mk_w140, List.forall_mem_cons.mpr ⟨mk_w141, List.forall_mem_cons.mpr ⟨mk_w142, List.forall_mem_cons.mpr ⟨mk_w143, List.forall_mem_cons.mpr ⟨mk_w144, List.forall_mem_cons.mpr ⟨mk_w145, List.forall_mem_cons.mpr ⟨mk_w146, List.forall_mem_cons.mpr ⟨mk_w147, List.forall_mem_cons.mpr ⟨mk_w148, List.forall_mem_cons.mpr ⟨mk_w149, List.forall_mem_cons.mpr ⟨mk_w150, List.forall_mem_cons.mpr ⟨mk_w151, List.forall_mem_cons.mpr ⟨mk_w152, List.forall_mem_cons.mpr ⟨mk_w153, List.forall_mem_cons.mpr ⟨mk_w154, List.forall_mem_cons.mpr ⟨mk_w155, List.forall_mem_cons.mpr ⟨mk_w156, List.forall_mem_cons.mpr ⟨mk_w157, List.forall_mem_cons.mpr ⟨mk_w158, List.forall_mem_cons.mpr ⟨mk_w159, List.forall_mem_cons.mpr ⟨mk_w160, List.forall_mem_cons.mpr ⟨mk_w161, List.forall_mem_cons.mpr ⟨mk_w162, List.forall_mem_cons.mpr ⟨mk_w163, List.forall_mem_cons.mpr ⟨mk_w164, List.forall_mem_cons.mpr ⟨mk_w165, List.forall_mem_cons.mpr ⟨mk_w166, List.forall_mem_cons.mpr ⟨mk_w167, List.forall_mem_cons.mpr ⟨mk_w168, List.forall_mem_cons.mpr ⟨mk_w169, List.forall_mem_cons.mpr ⟨mk_w170, List.forall_mem_cons.mpr ⟨mk_w171, List.forall_mem_cons.mpr ⟨mk_w172, List.forall_mem_cons.mpr ⟨mk_w173, List.forall_mem_cons.mpr ⟨mk_w174, List.forall_mem_cons.mpr ⟨mk_w175, List.forall_mem_cons.mpr ⟨mk_w176, List.forall_mem_cons.mpr ⟨mk_w177, List.forall_mem_cons.mpr ⟨mk_w178, List.forall_mem_cons.mpr ⟨mk_w179, List.forall_mem_cons.mpr ⟨mk_w180, List.forall_mem_cons.mpr ⟨mk_w181, List.forall_mem_cons.mpr ⟨mk_w182, List.forall_mem_cons.mpr ⟨mk_w183, List.forall_mem_cons.mpr ⟨mk_w184, List.forall_mem_cons.mpr ⟨mk_w185, List.forall_mem_cons.mpr ⟨mk_w186, List.forall_mem_cons.mpr ⟨mk_w187, List.forall_mem_cons.mpr ⟨mk_w188, List.forall_mem_cons.mpr ⟨mk_w189, List.forall_mem_cons.mpr ⟨mk_w190, List.forall_mem_cons.mpr ⟨mk_w191, List.forall_mem_cons.mpr ⟨mk_w192, List.forall_mem_cons.mpr ⟨mk_w193, List.forall_mem_cons.mpr ⟨mk_w194, List.forall_mem_cons.mpr ⟨mk_w195, List.forall_mem_cons.mpr ⟨mk_w196, List.forall_mem_cons.mpr ⟨mk_w197, List.forall_mem_cons.mpr ⟨mk_w198, List.forall_mem_cons.mpr ⟨mk_w199, List.forall_mem_cons.mpr ⟨mk_w200, List.forall_mem_cons.mpr ⟨mk_w201, List.forall_mem_cons.mpr ⟨mk_w202, List.forall_mem_cons.mpr ⟨mk_w203, List.forall_mem_cons.mpr ⟨mk_w204, List.forall_mem_cons.mpr ⟨mk_w205, List.forall_mem_cons.mpr ⟨mk_w206, List.forall_mem_cons.mpr ⟨mk_w207, List.forall_mem_cons.mpr ⟨mk_w208, List.forall_mem_cons.mpr ⟨mk_w209, List.forall_mem_cons.mpr ⟨mk_w210, List.forall_mem_cons.mpr ⟨mk_w211, List.forall_mem_cons.mpr ⟨mk_w212, List.forall_mem_cons.mpr ⟨mk_w213, List.forall_mem_cons.mpr ⟨mk_w214, List.forall_mem_cons.mpr ⟨mk_w215, List.forall_mem_cons.mpr ⟨mk_w216, List.forall_mem_cons.mpr ⟨mk_w217, List.forall_mem_cons.mpr ⟨mk_w218, List.forall_mem_cons.mpr ⟨mk_w219, List.forall_mem_cons.mpr ⟨mk_w220, List.forall_mem_cons.mpr ⟨mk_w221, List.forall_mem_cons.mpr ⟨mk_w222, List.forall_mem_cons.mpr ⟨mk_w223, List.forall_mem_cons.mpr ⟨mk_w224, List.forall_mem_cons.mpr ⟨mk_w225, List.forall_mem_cons.mpr ⟨mk_w226, List.forall_mem_cons.mpr ⟨mk_w227, List.forall_mem_cons.mpr ⟨mk_w228, List.forall_mem_cons.mpr ⟨mk_w229, List.forall_mem_cons.mpr ⟨mk_w230, List.forall_mem_cons.mpr ⟨mk_w231, List.forall_mem_cons.mpr ⟨mk_w232, List.forall_mem_cons.mpr ⟨mk_w233, List.forall_mem_cons.mpr ⟨mk_w234, List.forall_mem_cons.mpr ⟨mk_w235, List.forall_mem_cons.mpr ⟨mk_w236, List.forall_mem_cons.mpr ⟨mk_w237, List.forall_mem_cons.mpr ⟨mk_w238, List.forall_mem_cons.mpr ⟨mk_w239, List.forall_mem_cons.mpr ⟨mk_w240, List.forall_mem_cons.mpr ⟨mk_w241, List.forall_mem_cons.mpr ⟨mk_w242, List.forall_mem_cons.mpr ⟨mk_w243, List.forall_mem_cons.mpr ⟨mk_w244, List.forall_mem_cons.mpr ⟨mk_w245, List.forall_mem_cons.mpr ⟨mk_w246, List.forall_mem_cons.mpr ⟨mk_w247, List.forall_mem_cons.mpr ⟨mk_w248, List.forall_mem_cons.mpr ⟨mk_w249, List.forall_mem_cons.mpr ⟨mk_w250, List.forall_mem_cons.mpr ⟨mk_w251, List.forall_mem_cons.mpr ⟨mk_w252, List.forall_mem_cons.mpr ⟨mk_w253, List.forall_mem_cons.mpr ⟨mk_w254, List.forall_mem_cons.mpr ⟨mk_w255, List.forall_mem_cons.mpr ⟨mk_w256, List.forall_mem_cons.mpr ⟨mk_w257, List.forall_mem_cons.mpr ⟨mk_w258, List.forall_mem_cons.mpr ⟨mk_w259, List.forall_mem_cons.mpr ⟨mk_w260, List.forall_mem_cons.mpr ⟨mk_w261, List.forall_mem_cons.mpr ⟨mk_w262, List.forall_mem_cons.mpr ⟨mk_w263, List.forall_mem_cons.mpr ⟨mk_w264, List.forall_mem_cons.mpr ⟨mk_w265, List.forall_mem_cons.mpr ⟨mk_w266, List.forall_mem_cons.mpr ⟨mk_w267, List.forall_mem_cons.mpr ⟨mk_w268, List.forall_mem_cons.mpr ⟨mk_w269, List.forall_mem_cons.mpr ⟨mk_w270, List.forall_mem_cons.mpr ⟨mk_w271, List.forall_mem_cons.mpr ⟨mk_w272, List.forall_mem_cons.mpr ⟨mk_w273, List.forall_mem_cons.mpr ⟨mk_w274, List.forall_mem_cons.mpr ⟨mk_w275, List.forall_mem_cons.mpr ⟨mk_w276, List.forall_mem_cons.mpr ⟨mk_w277, List.forall_mem_cons.mpr ⟨mk_w278, List.forall_mem_cons.mpr ⟨mk_w279, List.forall_mem_cons.mpr ⟨mk_w280, List.forall_mem_cons.mpr ⟨mk_w281, List.forall_mem_cons.mpr ⟨mk_w282, List.forall_mem_cons.mpr ⟨mk_w283, List.forall_mem_cons.mpr ⟨mk_w284, List.forall_mem_cons.mpr ⟨mk_w285, List.forall_mem_cons.mpr ⟨mk_w286, List.forall_mem_cons.mpr ⟨mk_w287, List.forall_mem_cons.mpr ⟨mk_w288, List.forall_mem_cons.mpr ⟨mk_w289, List.forall_mem_cons.mpr ⟨mk_w290, List.forall_mem_cons.mpr ⟨mk_w291, List.forall_mem_cons.mpr ⟨mk_w292, List.forall_mem_cons.mpr ⟨mk_w293, List.forall_mem_cons.mpr ⟨mk_w294, List.forall_mem_cons.mpr ⟨mk_w295, List.forall_mem_cons.mpr ⟨mk_w296, List.forall_mem_cons.mpr ⟨mk_w297, List.forall_mem_cons.mpr ⟨mk_w298, List.forall_mem_cons.mpr ⟨mk_w299, List.forall_mem_cons.mpr ⟨mk_w300, List.forall_mem_cons.mpr ⟨mk_w301, List.forall_mem_cons.mpr ⟨mk_w302, List.forall_mem_cons.mpr ⟨mk_w303, List.forall_mem_cons.mpr ⟨mk_w304, List.forall_mem_cons.mpr ⟨mk_w305, List.forall_mem_cons.mpr ⟨mk_w306, List.forall_mem_cons.mpr ⟨mk_w307, List.forall_mem_cons.mpr ⟨mk_w308, List.forall_mem_cons.mpr ⟨mk_w309, List.forall_mem_cons.mpr ⟨mk_w310, List.forall_mem_cons.mpr ⟨mk_w311, List.forall_mem_cons.mpr ⟨mk_w312, List.forall_mem_cons.mpr ⟨mk_w313, List.forall_mem_cons.mpr ⟨mk_w314, List.forall_mem_cons.mpr ⟨mk_w315, List.forall_mem_cons.mpr ⟨mk_w316, List.forall_mem_cons.mpr ⟨mk_w317, List.forall_mem_cons.mpr ⟨mk_w318, List.forall_mem_cons.mpr ⟨mk_w319, List.forall_mem_cons.mpr ⟨mk_w320, List.forall_mem_cons.mpr ⟨mk_w321, List.forall_mem_cons.mpr ⟨mk_w322, List.forall_mem_cons.mpr ⟨mk_w323, List.forall_mem_cons.mpr ⟨mk_w324, List.forall_mem_cons.mpr ⟨mk_w325, List.forall_mem_cons.mpr ⟨mk_w326, List.forall_mem_cons.mpr ⟨mk_w327, List.forall_mem_cons.mpr ⟨mk_w328, List.forall_mem_cons.mpr ⟨mk_w329, List.forall_mem_cons.mpr ⟨mk_w330, List.forall_mem_cons.mpr ⟨mk_w331, List.forall_mem_cons.mpr ⟨mk_w332, List.forall_mem_cons.mpr ⟨mk_w333, List.forall_mem_cons.mpr ⟨mk_w334, List.forall_mem_cons.mpr ⟨mk_w335, List.forall_mem_cons.mpr ⟨mk_w336, List.forall_mem_cons.mpr ⟨mk_w337, List.forall_mem_cons.mpr ⟨mk_w338, List.forall_mem_cons.mpr ⟨mk_w339, List.forall_mem_cons.mpr ⟨mk_w340, List.forall_mem_cons.mpr ⟨mk_w341, List.forall_mem_cons.mpr ⟨mk_w342, List.forall_mem_cons.mpr ⟨mk_w343, List.forall_mem_cons.mpr ⟨mk_w344, List.forall_mem_cons.mpr ⟨mk_w345, List.forall_mem_cons.mpr ⟨mk_w346, List.forall_mem_cons.mpr ⟨mk_w347, List.forall_mem_cons.mpr ⟨mk_w348, List.forall_mem_cons.mpr ⟨mk_w349, List.forall_mem_cons.mpr ⟨mk_w350, List.forall_mem_cons.mpr ⟨mk_w351, List.forall_mem_cons.mpr ⟨mk_w352, List.forall_mem_cons.mpr ⟨mk_w353, List.forall_mem_cons.mpr ⟨mk_w354, List.forall_mem_cons.mpr ⟨mk_w355, List.forall_mem_cons.mpr ⟨mk_w356, List.forall_mem_cons.mpr ⟨mk_w357, List.forall_mem_cons.mpr ⟨mk_w358, List.forall_mem_cons.mpr ⟨mk_w359, List.forall_mem_cons.mpr ⟨mk_w360, List.forall_mem_cons.mpr ⟨mk_w361, List.forall_mem_cons.mpr ⟨mk_w362, List.forall_mem_cons.mpr ⟨mk_w363, List.forall_mem_cons.mpr ⟨mk_w364, List.forall_mem_cons.mpr ⟨mk_w365, List.forall_mem_cons.mpr ⟨mk_w366, List.forall_mem_cons.mpr ⟨mk_w367, List.forall_mem_cons.mpr ⟨mk_w368, List.forall_mem_cons.mpr ⟨mk_w369, List.forall_mem_cons.mpr ⟨mk_w370, List.forall_mem_cons.mpr ⟨mk_w371, List.forall_mem_cons.mpr ⟨mk_w372, List.forall_mem_cons.mpr ⟨mk_w373, List.forall_mem_cons.mpr ⟨mk_w374, List.forall_mem_cons.mpr ⟨mk_w375, List.forall_mem_cons.mpr ⟨mk_w376, List.forall_mem_cons.mpr ⟨mk_w377, List.forall_mem_cons.mpr ⟨mk_w378, List.forall_mem_cons.mpr ⟨mk_w379, List.forall_mem_cons.mpr ⟨mk_w380, List.forall_mem_cons.mpr ⟨mk_w381, List.forall_mem_cons.mpr ⟨mk_w382, List.forall_mem_cons.mpr ⟨mk_w383, List.forall_mem_cons.mpr ⟨mk_w384, List.forall_mem_cons.mpr ⟨mk_w385, List.forall_mem_cons.mpr ⟨mk_w386, List.forall_mem_cons.mpr ⟨mk_w387, List.forall_mem_cons.mpr ⟨mk_w388, List.forall_mem_cons.mpr ⟨mk_w389, List.forall_mem_cons.mpr ⟨mk_w390, List.forall_mem_cons.mpr ⟨mk_w391, List.forall_mem_cons.mpr ⟨mk_w392, List.forall_mem_cons.mpr ⟨mk_w393, List.forall_mem_cons.mpr ⟨mk_w394, List.forall_mem_cons.mpr ⟨mk_w395, List.forall_mem_cons.mpr ⟨mk_w396, List.forall_mem_cons.mpr ⟨mk_w397, List.forall_mem_cons.mpr ⟨mk_w398, List.forall_mem_cons.mpr ⟨mk_w399, List.forall_mem_cons.mpr ⟨mk_w400, List.forall_mem_cons.mpr ⟨mk_w401, List.forall_mem_cons.mpr ⟨mk_w402, List.forall_mem_cons.mpr ⟨mk_w403, List.forall_mem_cons.mpr ⟨mk_w404, List.forall_mem_cons.mpr ⟨mk_w405, List.forall_mem_cons.mpr ⟨mk_w406, fun _ h => absurd h List.not_mem_nil⟩⟩⟩⟩⟩⟩⟩⟩⟩⟩⟩⟩⟩⟩⟩⟩⟩⟩⟩⟩⟩⟩⟩⟩⟩⟩⟩⟩⟩⟩⟩⟩⟩⟩⟩⟩⟩⟩⟩⟩⟩⟩⟩⟩⟩⟩⟩⟩⟩⟩⟩⟩⟩⟩⟩⟩⟩⟩⟩⟩⟩⟩⟩⟩⟩⟩⟩⟩⟩⟩⟩⟩⟩⟩⟩⟩⟩⟩⟩⟩⟩⟩⟩⟩⟩⟩⟩⟩⟩⟩⟩⟩⟩⟩⟩⟩⟩⟩⟩⟩⟩⟩⟩⟩⟩⟩⟩⟩⟩⟩⟩⟩⟩⟩⟩⟩⟩⟩⟩⟩⟩⟩⟩⟩⟩⟩⟩⟩⟩⟩⟩⟩⟩⟩⟩⟩⟩⟩⟩⟩⟩⟩⟩⟩⟩⟩⟩⟩⟩⟩⟩⟩⟩⟩⟩⟩⟩⟩⟩⟩⟩⟩⟩⟩⟩⟩⟩⟩⟩⟩⟩⟩⟩⟩⟩⟩⟩⟩⟩⟩⟩⟩⟩⟩⟩⟩⟩⟩⟩⟩⟩⟩⟩⟩⟩⟩⟩⟩⟩⟩⟩⟩⟩⟩⟩⟩⟩⟩⟩⟩⟩⟩⟩⟩⟩⟩⟩⟩⟩⟩⟩⟩⟩⟩⟩⟩⟩⟩⟩⟩⟩⟩⟩⟩⟩⟩⟩⟩⟩⟩⟩⟩⟩⟩⟩⟩⟩⟩⟩⟩⟩⟩⟩⟩⟩⟩⟩⟩⟩⟩⟩⟩⟩⟩⟩⟩⟩⟩⟩⟩⟩⟩⟩⟩⟩⟩⟩⟩⟩⟩⟩⟩⟩⟩⟩⟩⟩⟩⟩⟩⟩⟩⟩⟩⟩⟩⟩⟩⟩⟩⟩⟩⟩⟩⟩⟩⟩⟩⟩⟩⟩⟩⟩⟩⟩⟩⟩⟩⟩⟩⟩⟩⟩⟩⟩⟩⟩⟩⟩⟩⟩⟩⟩⟩⟩⟩⟩⟩⟩⟩⟩⟩⟩⟩⟩⟩⟩⟩⟩⟩⟩⟩⟩⟩⟩⟩⟩⟩⟩⟩⟩⟩⟩⟩⟩⟩⟩⟩⟩⟩⟩⟩⟩⟩⟩⟩⟩⟩⟩⟩⟩⟩⟩⟩⟩⟩⟩⟩⟩⟩⟩⟩⟩⟩⟩⟩⟩⟩⟩⟩⟩⟩⟩⟩⟩⟩⟩
set_option maxRecDepth 100000 in
theorem mk_ac100 : Jvm.Cond.arrayClass (ms_ety 100) ∈ ms_tb := mk_tb (mk_sub1 (List.mem_of_getElem? (i := 83) rfl) rfl)
set_option maxRecDepth 100000 in
theorem mk_ac101 : Jvm.Cond.arrayClass (ms_ety 101) ∈ ms_tb := mk_tb (mk_sub2 (List.mem_of_getElem? (i := 184) rfl) rfl)
set_option maxRecDepth 100000 in
theorem mk_ac102 : Jvm.Cond.arrayClass (ms_ety 102) ∈ ms_tb := mk_tb (mk_sub1 (List.mem_of_getElem? (i := 82) rfl) rfl)
set_option maxRecDepth 100000 in
theorem mk_ac103 : Jvm.Cond.arrayClass (ms_ety 103) ∈ ms_tb := mk_tb (mk_sub2 (List.mem_of_getElem? (i := 21) rfl) rfl)
