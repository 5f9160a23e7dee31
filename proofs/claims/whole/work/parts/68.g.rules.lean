/-! rules of methods, by program (wip/whole/srule.py) -/
section SR
variable {d : Nat} {Q : Option Value → mh_H → Prop} {st : List Value} {h : mh_H}
theorem mj_298_308 : mc_P 298 308 = some (.putfield 121, 3, 14, 52, 0) := by decide +kernel
theorem s_298_308 {x0 : Option Value} {o w : Nat} : mw d 298 Q 308 [x0] (.ref w :: .ref o :: st) h = (mg h o 14 ∧ mw d 298 Q 311 [x0] (st) (mh_sr h o 52 (some w))) := (mw_at mj_298_308).trans (z_putr (by decide) (by decide) rfl)
theorem s_298_308n {x0 : Option Value} {o : Nat} : mw d 298 Q 308 [x0] (.null :: .ref o :: st) h = (mg h o 14 ∧ mw d 298 Q 311 [x0] (st) (mh_sr h o 52 none)) := (mw_at mj_298_308).trans (z_putn (by decide) (by decide) rfl)
theorem mj_298_311 : mc_P 298 311 = some (.aload_n 0, 1, 0, 0, 0) := by decide +kernel
theorem s_298_311 {w : Value} : mw d 298 Q 311 [some w] (st) h = mv_a w (mw d 298 Q 312 [some w] (w :: st) h) := (mw_at mj_298_311).trans (z_aload_n rfl)
theorem mj_298_312 : mc_P 298 312 = some (.new 125, 3, 13, 0, 0) := by decide +kernel
theorem s_298_312 {x0 : Option Value} : mw d 298 Q 312 [x0] (st) h = mw d 298 Q 315 [x0] (.ref (mh_n h) :: st) (mh_new h 13 7) := (mw_at mj_298_312).trans (z_new (by decide) rfl)
theorem mj_298_315 : mc_P 298 315 = some (.dup, 1, 0, 0, 0) := by decide +kernel
theorem s_298_315 {x0 : Option Value} {w : Value} : mw d 298 Q 315 [x0] (w :: st) h = (w.category = 1 ∧ mw d 298 Q 316 [x0] (w :: w :: st) h) := (mw_at mj_298_315).trans (z_dup)
theorem mj_298_316 : mc_P 298 316 = some (.invokespecial 127, 3, 276, 2, 1) := by decide +kernel
theorem s_298_316 {x0 : Option Value} {o : Nat} : mw (d + 1) 298 Q 316 [x0] (.ref o :: st) h = (mca st 8 ∧ mca [.ref o] 1 ∧ mcall d 276 [.ref o] h (mK (d + 1) 298 Q 319 [x0] st)) := (mw_at mj_298_316).trans ((z_invsp (As := []) (by decide) rfl rfl).trans (congrArg (And _) (mC_nl nl_276)))
theorem mj_298_319 : mc_P 298 319 = some (.putfield 128, 3, 14, 53, 0) := by decide +kernel
theorem s_298_319 {x0 : Option Value} {o w : Nat} : mw d 298 Q 319 [x0] (.ref w :: .ref o :: st) h = (mg h o 14 ∧ mw d 298 Q 322 [x0] (st) (mh_sr h o 53 (some w))) := (mw_at mj_298_319).trans (z_putr (by decide) (by decide) rfl)
theorem s_298_319n {x0 : Option Value} {o : Nat} : mw d 298 Q 319 [x0] (.null :: .ref o :: st) h = (mg h o 14 ∧ mw d 298 Q 322 [x0] (st) (mh_sr h o 53 none)) := (mw_at mj_298_319).trans (z_putn (by decide) (by decide) rfl)
theorem mj_298_322 : mc_P 298 322 = some (.aload_n 0, 1, 0, 0, 0) := by decide +kernel
theorem s_298_322 {w : Value} : mw d 298 Q 322 [some w] (st) h = mv_a w (mw d 298 Q 323 [some w] (w :: st) h) := (mw_at mj_298_322).trans (z_aload_n rfl)
theorem mj_298_323 : mc_P 298 323 = some (.sipush 24000, 3, 0, 0, 0) := by decide +kernel
theorem s_298_323 {x0 : Option Value} : mw d 298 Q 323 [x0] (st) h = mw d 298 Q 326 [x0] (.int 24000 :: st) h := (mw_at mj_298_323).trans (z_sipush (by decide))
theorem mj_298_326 : mc_P 298 326 = some (.newarray .int, 2, 100, 0, 0) := by decide +kernel
theorem s_298_326 {x0 : Option Value} {i : Int32} : mw d 298 Q 326 [x0] (.int i :: st) h = (mN i ∧ mw d 298 Q 328 [x0] (.ref (mh_n h) :: st) (mh_new h 100 i.toNatClampNeg)) := (mw_at mj_298_326).trans (z_newa (by decide) (by decide))
theorem mj_298_328 : mc_P 298 328 = some (.putfield 132, 3, 14, 56, 0) := by decide +kernel
theorem s_298_328 {x0 : Option Value} {o w : Nat} : mw d 298 Q 328 [x0] (.ref w :: .ref o :: st) h = (mg h o 14 ∧ mw d 298 Q 331 [x0] (st) (mh_sr h o 56 (some w))) := (mw_at mj_298_328).trans (z_putr (by decide) (by decide) rfl)
theorem s_298_328n {x0 : Option Value} {o : Nat} : mw d 298 Q 328 [x0] (.null :: .ref o :: st) h = (mg h o 14 ∧ mw d 298 Q 331 [x0] (st) (mh_sr h o 56 none)) := (mw_at mj_298_328).trans (z_putn (by decide) (by decide) rfl)
theorem mj_298_331 : mc_P 298 331 = some (.aload_n 0, 1, 0, 0, 0) := by decide +kernel
theorem s_298_331 {w : Value} : mw d 298 Q 331 [some w] (st) h = mv_a w (mw d 298 Q 332 [some w] (w :: st) h) := (mw_at mj_298_331).trans (z_aload_n rfl)
theorem mj_298_332 : mc_P 298 332 = some (.sipush 24000, 3, 0, 0, 0) := by decide +kernel
theorem s_298_332 {x0 : Option Value} : mw d 298 Q 332 [x0] (st) h = mw d 298 Q 335 [x0] (.int 24000 :: st) h := (mw_at mj_298_332).trans (z_sipush (by decide))
theorem mj_298_335 : mc_P 298 335 = some (.newarray .int, 2, 100, 0, 0) := by decide +kernel
theorem s_298_335 {x0 : Option Value} {i : Int32} : mw d 298 Q 335 [x0] (.int i :: st) h = (mN i ∧ mw d 298 Q 337 [x0] (.ref (mh_n h) :: st) (mh_new h 100 i.toNatClampNeg)) := (mw_at mj_298_335).trans (z_newa (by decide) (by decide))
theorem mj_298_337 : mc_P 298 337 = some (.putfield 135, 3, 14, 58, 0) := by decide +kernel
theorem s_298_337 {x0 : Option Value} {o w : Nat} : mw d 298 Q 337 [x0] (.ref w :: .ref o :: st) h = (mg h o 14 ∧ mw d 298 Q 340 [x0] (st) (mh_sr h o 58 (some w))) := (mw_at mj_298_337).trans (z_putr (by decide) (by decide) rfl)
theorem s_298_337n {x0 : Option Value} {o : Nat} : mw d 298 Q 337 [x0] (.null :: .ref o :: st) h = (mg h o 14 ∧ mw d 298 Q 340 [x0] (st) (mh_sr h o 58 none)) := (mw_at mj_298_337).trans (z_putn (by decide) (by decide) rfl)
theorem mj_298_340 : mc_P 298 340 = some (.aload_n 0, 1, 0, 0, 0) := by decide +kernel
theorem s_298_340 {w : Value} : mw d 298 Q 340 [some w] (st) h = mv_a w (mw d 298 Q 341 [some w] (w :: st) h) := (mw_at mj_298_340).trans (z_aload_n rfl)
theorem mj_298_341 : mc_P 298 341 = some (.sipush 1000, 3, 0, 0, 0) := by decide +kernel
theorem s_298_341 {x0 : Option Value} : mw d 298 Q 341 [x0] (st) h = mw d 298 Q 344 [x0] (.int 1000 :: st) h := (mw_at mj_298_341).trans (z_sipush (by decide))
theorem mj_298_344 : mc_P 298 344 = some (.newarray .int, 2, 100, 0, 0) := by decide +kernel
theorem s_298_344 {x0 : Option Value} {i : Int32} : mw d 298 Q 344 [x0] (.int i :: st) h = (mN i ∧ mw d 298 Q 346 [x0] (.ref (mh_n h) :: st) (mh_new h 100 i.toNatClampNeg)) := (mw_at mj_298_344).trans (z_newa (by decide) (by decide))
theorem mj_298_346 : mc_P 298 346 = some (.putfield 138, 3, 14, 59, 0) := by decide +kernel
theorem s_298_346 {x0 : Option Value} {o w : Nat} : mw d 298 Q 346 [x0] (.ref w :: .ref o :: st) h = (mg h o 14 ∧ mw d 298 Q 349 [x0] (st) (mh_sr h o 59 (some w))) := (mw_at mj_298_346).trans (z_putr (by decide) (by decide) rfl)
theorem s_298_346n {x0 : Option Value} {o : Nat} : mw d 298 Q 346 [x0] (.null :: .ref o :: st) h = (mg h o 14 ∧ mw d 298 Q 349 [x0] (st) (mh_sr h o 59 none)) := (mw_at mj_298_346).trans (z_putn (by decide) (by decide) rfl)
theorem mj_298_349 : mc_P 298 349 = some (.aload_n 0, 1, 0, 0, 0) := by decide +kernel
theorem s_298_349 {w : Value} : mw d 298 Q 349 [some w] (st) h = mv_a w (mw d 298 Q 350 [some w] (w :: st) h) := (mw_at mj_298_349).trans (z_aload_n rfl)
theorem mj_298_350 : mc_P 298 350 = some (.bipush 12, 2, 0, 0, 0) := by decide +kernel
theorem s_298_350 {x0 : Option Value} : mw d 298 Q 350 [x0] (st) h = mw d 298 Q 352 [x0] (.int 12 :: st) h := (mw_at mj_298_350).trans (z_bipush (by decide))
theorem mj_298_352 : mc_P 298 352 = some (.newarray .int, 2, 100, 0, 0) := by decide +kernel
theorem s_298_352 {x0 : Option Value} {i : Int32} : mw d 298 Q 352 [x0] (.int i :: st) h = (mN i ∧ mw d 298 Q 354 [x0] (.ref (mh_n h) :: st) (mh_new h 100 i.toNatClampNeg)) := (mw_at mj_298_352).trans (z_newa (by decide) (by decide))
theorem mj_298_354 : mc_P 298 354 = some (.putfield 141, 3, 14, 61, 0) := by decide +kernel
theorem s_298_354 {x0 : Option Value} {o w : Nat} : mw d 298 Q 354 [x0] (.ref w :: .ref o :: st) h = (mg h o 14 ∧ mw d 298 Q 357 [x0] (st) (mh_sr h o 61 (some w))) := (mw_at mj_298_354).trans (z_putr (by decide) (by decide) rfl)
theorem s_298_354n {x0 : Option Value} {o : Nat} : mw d 298 Q 354 [x0] (.null :: .ref o :: st) h = (mg h o 14 ∧ mw d 298 Q 357 [x0] (st) (mh_sr h o 61 none)) := (mw_at mj_298_354).trans (z_putn (by decide) (by decide) rfl)
theorem mj_298_357 : mc_P 298 357 = some (.aload_n 0, 1, 0, 0, 0) := by decide +kernel
theorem s_298_357 {w : Value} : mw d 298 Q 357 [some w] (st) h = mv_a w (mw d 298 Q 358 [some w] (w :: st) h) := (mw_at mj_298_357).trans (z_aload_n rfl)
theorem mj_298_358 : mc_P 298 358 = some (.sipush 384, 3, 0, 0, 0) := by decide +kernel
theorem s_298_358 {x0 : Option Value} : mw d 298 Q 358 [x0] (st) h = mw d 298 Q 361 [x0] (.int 384 :: st) h := (mw_at mj_298_358).trans (z_sipush (by decide))
theorem mj_298_361 : mc_P 298 361 = some (.newarray .int, 2, 100, 0, 0) := by decide +kernel
theorem s_298_361 {x0 : Option Value} {i : Int32} : mw d 298 Q 361 [x0] (.int i :: st) h = (mN i ∧ mw d 298 Q 363 [x0] (.ref (mh_n h) :: st) (mh_new h 100 i.toNatClampNeg)) := (mw_at mj_298_361).trans (z_newa (by decide) (by decide))
theorem mj_298_363 : mc_P 298 363 = some (.putfield 144, 3, 14, 62, 0) := by decide +kernel
theorem s_298_363 {x0 : Option Value} {o w : Nat} : mw d 298 Q 363 [x0] (.ref w :: .ref o :: st) h = (mg h o 14 ∧ mw d 298 Q 366 [x0] (st) (mh_sr h o 62 (some w))) := (mw_at mj_298_363).trans (z_putr (by decide) (by decide) rfl)
theorem s_298_363n {x0 : Option Value} {o : Nat} : mw d 298 Q 363 [x0] (.null :: .ref o :: st) h = (mg h o 14 ∧ mw d 298 Q 366 [x0] (st) (mh_sr h o 62 none)) := (mw_at mj_298_363).trans (z_putn (by decide) (by decide) rfl)
theorem mj_298_366 : mc_P 298 366 = some (.aload_n 0, 1, 0, 0, 0) := by decide +kernel
theorem s_298_366 {w : Value} : mw d 298 Q 366 [some w] (st) h = mv_a w (mw d 298 Q 367 [some w] (w :: st) h) := (mw_at mj_298_366).trans (z_aload_n rfl)
theorem mj_298_367 : mc_P 298 367 = some (.bipush 13, 2, 0, 0, 0) := by decide +kernel
theorem s_298_367 {x0 : Option Value} : mw d 298 Q 367 [x0] (st) h = mw d 298 Q 369 [x0] (.int 13 :: st) h := (mw_at mj_298_367).trans (z_bipush (by decide))
theorem mj_298_369 : mc_P 298 369 = some (.newarray .long, 2, 101, 0, 0) := by decide +kernel
theorem s_298_369 {x0 : Option Value} {i : Int32} : mw d 298 Q 369 [x0] (.int i :: st) h = (mN i ∧ mw d 298 Q 371 [x0] (.ref (mh_n h) :: st) (mh_new h 101 i.toNatClampNeg)) := (mw_at mj_298_369).trans (z_newa (by decide) (by decide))
theorem mj_298_371 : mc_P 298 371 = some (.putfield 147, 3, 14, 63, 0) := by decide +kernel
theorem s_298_371 {x0 : Option Value} {o w : Nat} : mw d 298 Q 371 [x0] (.ref w :: .ref o :: st) h = (mg h o 14 ∧ mw d 298 Q 374 [x0] (st) (mh_sr h o 63 (some w))) := (mw_at mj_298_371).trans (z_putr (by decide) (by decide) rfl)
theorem s_298_371n {x0 : Option Value} {o : Nat} : mw d 298 Q 371 [x0] (.null :: .ref o :: st) h = (mg h o 14 ∧ mw d 298 Q 374 [x0] (st) (mh_sr h o 63 none)) := (mw_at mj_298_371).trans (z_putn (by decide) (by decide) rfl)
theorem mj_298_374 : mc_P 298 374 = some (.aload_n 0, 1, 0, 0, 0) := by decide +kernel
theorem s_298_374 {w : Value} : mw d 298 Q 374 [some w] (st) h = mv_a w (mw d 298 Q 375 [some w] (w :: st) h) := (mw_at mj_298_374).trans (z_aload_n rfl)
theorem mj_298_375 : mc_P 298 375 = some (.bipush 8, 2, 0, 0, 0) := by decide +kernel
theorem s_298_375 {x0 : Option Value} : mw d 298 Q 375 [x0] (st) h = mw d 298 Q 377 [x0] (.int 8 :: st) h := (mw_at mj_298_375).trans (z_bipush (by decide))
theorem mj_298_377 : mc_P 298 377 = some (.anewarray 151, 3, 107, 0, 0) := by decide +kernel
theorem s_298_377 {x0 : Option Value} {i : Int32} : mw d 298 Q 377 [x0] (.int i :: st) h = (mN i ∧ mw d 298 Q 380 [x0] (.ref (mh_n h) :: st) (mh_new h 107 i.toNatClampNeg)) := (mw_at mj_298_377).trans (z_anewa (by decide) (by decide))
theorem mj_298_380 : mc_P 298 380 = some (.dup, 1, 0, 0, 0) := by decide +kernel
theorem s_298_380 {x0 : Option Value} {w : Value} : mw d 298 Q 380 [x0] (w :: st) h = (w.category = 1 ∧ mw d 298 Q 381 [x0] (w :: w :: st) h) := (mw_at mj_298_380).trans (z_dup)
theorem mj_298_381 : mc_P 298 381 = some (.iconst 0, 1, 0, 0, 0) := by decide +kernel
theorem s_298_381 {x0 : Option Value} : mw d 298 Q 381 [x0] (st) h = mw d 298 Q 382 [x0] (.int 0 :: st) h := (mw_at mj_298_381).trans (z_iconst (by decide))
theorem mj_298_382 : mc_P 298 382 = some (.ldc 153, 2, 57, 1, 0) := by decide +kernel
theorem s_298_382 {x0 : Option Value} : mw d 298 Q 382 [x0] (st) h = mw d 298 Q 384 [x0] (.retAddr 57 :: st) h := (mw_at mj_298_382).trans (z_ldcS)
theorem mj_298_384 : mc_P 298 384 = some (.aastore, 1, 0, 0, 0) := by decide +kernel
theorem s_298_384 {x0 : Option Value} {o w : Nat} {i : Int32} : mw d 298 Q 384 [x0] (.ref w :: .int i :: .ref o :: st) h = (mgr h o ∧ mx i (mh_l h o) ∧ mh_k h o < 107 ∧ mg h w (me_ac (mh_k h o)) ∧ mw d 298 Q 385 [x0] (st) (mh_sr h o i.toNatClampNeg (some w))) := (mw_at mj_298_384).trans (z_aast)
theorem s_298_384n {x0 : Option Value} {o : Nat} {i : Int32} : mw d 298 Q 384 [x0] (.null :: .int i :: .ref o :: st) h = (mgr h o ∧ mx i (mh_l h o) ∧ mh_k h o < 107 ∧ mw d 298 Q 385 [x0] (st) (mh_sr h o i.toNatClampNeg none)) := (mw_at mj_298_384).trans (z_aastN)
theorem s_298_384x {x0 : Option Value} {o x : Nat} {i : Int32} : mw d 298 Q 384 [x0] (.retAddr x :: .int i :: .ref o :: st) h = (mg h o 107 ∧ mx i (mh_l h o) ∧ me_xs x = true ∧ mw d 298 Q 385 [x0] (st) (mh_si h o i.toNatClampNeg (Int32.ofNat x))) := (mw_at mj_298_384).trans (z_aastS)
theorem mj_298_385 : mc_P 298 385 = some (.dup, 1, 0, 0, 0) := by decide +kernel
theorem s_298_385 {x0 : Option Value} {w : Value} : mw d 298 Q 385 [x0] (w :: st) h = (w.category = 1 ∧ mw d 298 Q 386 [x0] (w :: w :: st) h) := (mw_at mj_298_385).trans (z_dup)
theorem mj_298_386 : mc_P 298 386 = some (.iconst 1, 1, 0, 0, 0) := by decide +kernel
theorem s_298_386 {x0 : Option Value} : mw d 298 Q 386 [x0] (st) h = mw d 298 Q 387 [x0] (.int 1 :: st) h := (mw_at mj_298_386).trans (z_iconst (by decide))
theorem mj_298_387 : mc_P 298 387 = some (.ldc 155, 2, 60, 1, 0) := by decide +kernel
theorem s_298_387 {x0 : Option Value} : mw d 298 Q 387 [x0] (st) h = mw d 298 Q 389 [x0] (.retAddr 60 :: st) h := (mw_at mj_298_387).trans (z_ldcS)
theorem mj_298_389 : mc_P 298 389 = some (.aastore, 1, 0, 0, 0) := by decide +kernel
theorem s_298_389 {x0 : Option Value} {o w : Nat} {i : Int32} : mw d 298 Q 389 [x0] (.ref w :: .int i :: .ref o :: st) h = (mgr h o ∧ mx i (mh_l h o) ∧ mh_k h o < 107 ∧ mg h w (me_ac (mh_k h o)) ∧ mw d 298 Q 390 [x0] (st) (mh_sr h o i.toNatClampNeg (some w))) := (mw_at mj_298_389).trans (z_aast)
theorem s_298_389n {x0 : Option Value} {o : Nat} {i : Int32} : mw d 298 Q 389 [x0] (.null :: .int i :: .ref o :: st) h = (mgr h o ∧ mx i (mh_l h o) ∧ mh_k h o < 107 ∧ mw d 298 Q 390 [x0] (st) (mh_sr h o i.toNatClampNeg none)) := (mw_at mj_298_389).trans (z_aastN)
theorem s_298_389x {x0 : Option Value} {o x : Nat} {i : Int32} : mw d 298 Q 389 [x0] (.retAddr x :: .int i :: .ref o :: st) h = (mg h o 107 ∧ mx i (mh_l h o) ∧ me_xs x = true ∧ mw d 298 Q 390 [x0] (st) (mh_si h o i.toNatClampNeg (Int32.ofNat x))) := (mw_at mj_298_389).trans (z_aastS)
theorem mj_298_390 : mc_P 298 390 = some (.dup, 1, 0, 0, 0) := by decide +kernel
theorem s_298_390 {x0 : Option Value} {w : Value} : mw d 298 Q 390 [x0] (w :: st) h = (w.category = 1 ∧ mw d 298 Q 391 [x0] (w :: w :: st) h) := (mw_at mj_298_390).trans (z_dup)
theorem mj_298_391 : mc_P 298 391 = some (.iconst 2, 1, 0, 0, 0) := by decide +kernel
theorem s_298_391 {x0 : Option Value} : mw d 298 Q 391 [x0] (st) h = mw d 298 Q 392 [x0] (.int 2 :: st) h := (mw_at mj_298_391).trans (z_iconst (by decide))
theorem mj_298_392 : mc_P 298 392 = some (.ldc 157, 2, 63, 1, 0) := by decide +kernel
theorem s_298_392 {x0 : Option Value} : mw d 298 Q 392 [x0] (st) h = mw d 298 Q 394 [x0] (.retAddr 63 :: st) h := (mw_at mj_298_392).trans (z_ldcS)
theorem mj_298_394 : mc_P 298 394 = some (.aastore, 1, 0, 0, 0) := by decide +kernel
theorem s_298_394 {x0 : Option Value} {o w : Nat} {i : Int32} : mw d 298 Q 394 [x0] (.ref w :: .int i :: .ref o :: st) h = (mgr h o ∧ mx i (mh_l h o) ∧ mh_k h o < 107 ∧ mg h w (me_ac (mh_k h o)) ∧ mw d 298 Q 395 [x0] (st) (mh_sr h o i.toNatClampNeg (some w))) := (mw_at mj_298_394).trans (z_aast)
theorem s_298_394n {x0 : Option Value} {o : Nat} {i : Int32} : mw d 298 Q 394 [x0] (.null :: .int i :: .ref o :: st) h = (mgr h o ∧ mx i (mh_l h o) ∧ mh_k h o < 107 ∧ mw d 298 Q 395 [x0] (st) (mh_sr h o i.toNatClampNeg none)) := (mw_at mj_298_394).trans (z_aastN)
theorem s_298_394x {x0 : Option Value} {o x : Nat} {i : Int32} : mw d 298 Q 394 [x0] (.retAddr x :: .int i :: .ref o :: st) h = (mg h o 107 ∧ mx i (mh_l h o) ∧ me_xs x = true ∧ mw d 298 Q 395 [x0] (st) (mh_si h o i.toNatClampNeg (Int32.ofNat x))) := (mw_at mj_298_394).trans (z_aastS)
theorem mj_298_395 : mc_P 298 395 = some (.dup, 1, 0, 0, 0) := by decide +kernel
theorem s_298_395 {x0 : Option Value} {w : Value} : mw d 298 Q 395 [x0] (w :: st) h = (w.category = 1 ∧ mw d 298 Q 396 [x0] (w :: w :: st) h) := (mw_at mj_298_395).trans (z_dup)
theorem mj_298_396 : mc_P 298 396 = some (.iconst 3, 1, 0, 0, 0) := by decide +kernel
theorem s_298_396 {x0 : Option Value} : mw d 298 Q 396 [x0] (st) h = mw d 298 Q 397 [x0] (.int 3 :: st) h := (mw_at mj_298_396).trans (z_iconst (by decide))
theorem mj_298_397 : mc_P 298 397 = some (.ldc 159, 2, 66, 1, 0) := by decide +kernel
theorem s_298_397 {x0 : Option Value} : mw d 298 Q 397 [x0] (st) h = mw d 298 Q 399 [x0] (.retAddr 66 :: st) h := (mw_at mj_298_397).trans (z_ldcS)
theorem mj_298_399 : mc_P 298 399 = some (.aastore, 1, 0, 0, 0) := by decide +kernel
theorem s_298_399 {x0 : Option Value} {o w : Nat} {i : Int32} : mw d 298 Q 399 [x0] (.ref w :: .int i :: .ref o :: st) h = (mgr h o ∧ mx i (mh_l h o) ∧ mh_k h o < 107 ∧ mg h w (me_ac (mh_k h o)) ∧ mw d 298 Q 400 [x0] (st) (mh_sr h o i.toNatClampNeg (some w))) := (mw_at mj_298_399).trans (z_aast)
theorem s_298_399n {x0 : Option Value} {o : Nat} {i : Int32} : mw d 298 Q 399 [x0] (.null :: .int i :: .ref o :: st) h = (mgr h o ∧ mx i (mh_l h o) ∧ mh_k h o < 107 ∧ mw d 298 Q 400 [x0] (st) (mh_sr h o i.toNatClampNeg none)) := (mw_at mj_298_399).trans (z_aastN)
theorem s_298_399x {x0 : Option Value} {o x : Nat} {i : Int32} : mw d 298 Q 399 [x0] (.retAddr x :: .int i :: .ref o :: st) h = (mg h o 107 ∧ mx i (mh_l h o) ∧ me_xs x = true ∧ mw d 298 Q 400 [x0] (st) (mh_si h o i.toNatClampNeg (Int32.ofNat x))) := (mw_at mj_298_399).trans (z_aastS)
theorem mj_298_400 : mc_P 298 400 = some (.dup, 1, 0, 0, 0) := by decide +kernel
theorem s_298_400 {x0 : Option Value} {w : Value} : mw d 298 Q 400 [x0] (w :: st) h = (w.category = 1 ∧ mw d 298 Q 401 [x0] (w :: w :: st) h) := (mw_at mj_298_400).trans (z_dup)
theorem mj_298_401 : mc_P 298 401 = some (.iconst 4, 1, 0, 0, 0) := by decide +kernel
theorem s_298_401 {x0 : Option Value} : mw d 298 Q 401 [x0] (st) h = mw d 298 Q 402 [x0] (.int 4 :: st) h := (mw_at mj_298_401).trans (z_iconst (by decide))
theorem mj_298_402 : mc_P 298 402 = some (.ldc 161, 2, 69, 1, 0) := by decide +kernel
theorem s_298_402 {x0 : Option Value} : mw d 298 Q 402 [x0] (st) h = mw d 298 Q 404 [x0] (.retAddr 69 :: st) h := (mw_at mj_298_402).trans (z_ldcS)
theorem mj_298_404 : mc_P 298 404 = some (.aastore, 1, 0, 0, 0) := by decide +kernel
theorem s_298_404 {x0 : Option Value} {o w : Nat} {i : Int32} : mw d 298 Q 404 [x0] (.ref w :: .int i :: .ref o :: st) h = (mgr h o ∧ mx i (mh_l h o) ∧ mh_k h o < 107 ∧ mg h w (me_ac (mh_k h o)) ∧ mw d 298 Q 405 [x0] (st) (mh_sr h o i.toNatClampNeg (some w))) := (mw_at mj_298_404).trans (z_aast)
theorem s_298_404n {x0 : Option Value} {o : Nat} {i : Int32} : mw d 298 Q 404 [x0] (.null :: .int i :: .ref o :: st) h = (mgr h o ∧ mx i (mh_l h o) ∧ mh_k h o < 107 ∧ mw d 298 Q 405 [x0] (st) (mh_sr h o i.toNatClampNeg none)) := (mw_at mj_298_404).trans (z_aastN)
theorem s_298_404x {x0 : Option Value} {o x : Nat} {i : Int32} : mw d 298 Q 404 [x0] (.retAddr x :: .int i :: .ref o :: st) h = (mg h o 107 ∧ mx i (mh_l h o) ∧ me_xs x = true ∧ mw d 298 Q 405 [x0] (st) (mh_si h o i.toNatClampNeg (Int32.ofNat x))) := (mw_at mj_298_404).trans (z_aastS)
theorem mj_298_405 : mc_P 298 405 = some (.dup, 1, 0, 0, 0) := by decide +kernel
theorem s_298_405 {x0 : Option Value} {w : Value} : mw d 298 Q 405 [x0] (w :: st) h = (w.category = 1 ∧ mw d 298 Q 406 [x0] (w :: w :: st) h) := (mw_at mj_298_405).trans (z_dup)
theorem mj_298_406 : mc_P 298 406 = some (.iconst 5, 1, 0, 0, 0) := by decide +kernel
theorem s_298_406 {x0 : Option Value} : mw d 298 Q 406 [x0] (st) h = mw d 298 Q 407 [x0] (.int 5 :: st) h := (mw_at mj_298_406).trans (z_iconst (by decide))
theorem mj_298_407 : mc_P 298 407 = some (.ldc 163, 2, 72, 1, 0) := by decide +kernel
theorem s_298_407 {x0 : Option Value} : mw d 298 Q 407 [x0] (st) h = mw d 298 Q 409 [x0] (.retAddr 72 :: st) h := (mw_at mj_298_407).trans (z_ldcS)
theorem mj_298_409 : mc_P 298 409 = some (.aastore, 1, 0, 0, 0) := by decide +kernel
theorem s_298_409 {x0 : Option Value} {o w : Nat} {i : Int32} : mw d 298 Q 409 [x0] (.ref w :: .int i :: .ref o :: st) h = (mgr h o ∧ mx i (mh_l h o) ∧ mh_k h o < 107 ∧ mg h w (me_ac (mh_k h o)) ∧ mw d 298 Q 410 [x0] (st) (mh_sr h o i.toNatClampNeg (some w))) := (mw_at mj_298_409).trans (z_aast)
theorem s_298_409n {x0 : Option Value} {o : Nat} {i : Int32} : mw d 298 Q 409 [x0] (.null :: .int i :: .ref o :: st) h = (mgr h o ∧ mx i (mh_l h o) ∧ mh_k h o < 107 ∧ mw d 298 Q 410 [x0] (st) (mh_sr h o i.toNatClampNeg none)) := (mw_at mj_298_409).trans (z_aastN)
theorem s_298_409x {x0 : Option Value} {o x : Nat} {i : Int32} : mw d 298 Q 409 [x0] (.retAddr x :: .int i :: .ref o :: st) h = (mg h o 107 ∧ mx i (mh_l h o) ∧ me_xs x = true ∧ mw d 298 Q 410 [x0] (st) (mh_si h o i.toNatClampNeg (Int32.ofNat x))) := (mw_at mj_298_409).trans (z_aastS)
theorem mj_298_410 : mc_P 298 410 = some (.dup, 1, 0, 0, 0) := by decide +kernel
theorem s_298_410 {x0 : Option Value} {w : Value} : mw d 298 Q 410 [x0] (w :: st) h = (w.category = 1 ∧ mw d 298 Q 411 [x0] (w :: w :: st) h) := (mw_at mj_298_410).trans (z_dup)
theorem mj_298_411 : mc_P 298 411 = some (.bipush 6, 2, 0, 0, 0) := by decide +kernel
theorem s_298_411 {x0 : Option Value} : mw d 298 Q 411 [x0] (st) h = mw d 298 Q 413 [x0] (.int 6 :: st) h := (mw_at mj_298_411).trans (z_bipush (by decide))
theorem mj_298_413 : mc_P 298 413 = some (.ldc 165, 2, 75, 1, 0) := by decide +kernel
theorem s_298_413 {x0 : Option Value} : mw d 298 Q 413 [x0] (st) h = mw d 298 Q 415 [x0] (.retAddr 75 :: st) h := (mw_at mj_298_413).trans (z_ldcS)
theorem mj_298_415 : mc_P 298 415 = some (.aastore, 1, 0, 0, 0) := by decide +kernel
theorem s_298_415 {x0 : Option Value} {o w : Nat} {i : Int32} : mw d 298 Q 415 [x0] (.ref w :: .int i :: .ref o :: st) h = (mgr h o ∧ mx i (mh_l h o) ∧ mh_k h o < 107 ∧ mg h w (me_ac (mh_k h o)) ∧ mw d 298 Q 416 [x0] (st) (mh_sr h o i.toNatClampNeg (some w))) := (mw_at mj_298_415).trans (z_aast)
theorem s_298_415n {x0 : Option Value} {o : Nat} {i : Int32} : mw d 298 Q 415 [x0] (.null :: .int i :: .ref o :: st) h = (mgr h o ∧ mx i (mh_l h o) ∧ mh_k h o < 107 ∧ mw d 298 Q 416 [x0] (st) (mh_sr h o i.toNatClampNeg none)) := (mw_at mj_298_415).trans (z_aastN)
theorem s_298_415x {x0 : Option Value} {o x : Nat} {i : Int32} : mw d 298 Q 415 [x0] (.retAddr x :: .int i :: .ref o :: st) h = (mg h o 107 ∧ mx i (mh_l h o) ∧ me_xs x = true ∧ mw d 298 Q 416 [x0] (st) (mh_si h o i.toNatClampNeg (Int32.ofNat x))) := (mw_at mj_298_415).trans (z_aastS)
theorem mj_298_416 : mc_P 298 416 = some (.dup, 1, 0, 0, 0) := by decide +kernel
theorem s_298_416 {x0 : Option Value} {w : Value} : mw d 298 Q 416 [x0] (w :: st) h = (w.category = 1 ∧ mw d 298 Q 417 [x0] (w :: w :: st) h) := (mw_at mj_298_416).trans (z_dup)
theorem mj_298_417 : mc_P 298 417 = some (.bipush 7, 2, 0, 0, 0) := by decide +kernel
theorem s_298_417 {x0 : Option Value} : mw d 298 Q 417 [x0] (st) h = mw d 298 Q 419 [x0] (.int 7 :: st) h := (mw_at mj_298_417).trans (z_bipush (by decide))
theorem mj_298_419 : mc_P 298 419 = some (.ldc 167, 2, 78, 1, 0) := by decide +kernel
theorem s_298_419 {x0 : Option Value} : mw d 298 Q 419 [x0] (st) h = mw d 298 Q 421 [x0] (.retAddr 78 :: st) h := (mw_at mj_298_419).trans (z_ldcS)
theorem mj_298_421 : mc_P 298 421 = some (.aastore, 1, 0, 0, 0) := by decide +kernel
theorem s_298_421 {x0 : Option Value} {o w : Nat} {i : Int32} : mw d 298 Q 421 [x0] (.ref w :: .int i :: .ref o :: st) h = (mgr h o ∧ mx i (mh_l h o) ∧ mh_k h o < 107 ∧ mg h w (me_ac (mh_k h o)) ∧ mw d 298 Q 422 [x0] (st) (mh_sr h o i.toNatClampNeg (some w))) := (mw_at mj_298_421).trans (z_aast)
theorem s_298_421n {x0 : Option Value} {o : Nat} {i : Int32} : mw d 298 Q 421 [x0] (.null :: .int i :: .ref o :: st) h = (mgr h o ∧ mx i (mh_l h o) ∧ mh_k h o < 107 ∧ mw d 298 Q 422 [x0] (st) (mh_sr h o i.toNatClampNeg none)) := (mw_at mj_298_421).trans (z_aastN)
theorem s_298_421x {x0 : Option Value} {o x : Nat} {i : Int32} : mw d 298 Q 421 [x0] (.retAddr x :: .int i :: .ref o :: st) h = (mg h o 107 ∧ mx i (mh_l h o) ∧ me_xs x = true ∧ mw d 298 Q 422 [x0] (st) (mh_si h o i.toNatClampNeg (Int32.ofNat x))) := (mw_at mj_298_421).trans (z_aastS)
theorem mj_298_422 : mc_P 298 422 = some (.putfield 169, 3, 14, 0, 0) := by decide +kernel
theorem s_298_422 {x0 : Option Value} {o w : Nat} : mw d 298 Q 422 [x0] (.ref w :: .ref o :: st) h = (mg h o 14 ∧ mw d 298 Q 425 [x0] (st) (mh_sr h o 0 (some w))) := (mw_at mj_298_422).trans (z_putr (by decide) (by decide) rfl)
theorem s_298_422n {x0 : Option Value} {o : Nat} : mw d 298 Q 422 [x0] (.null :: .ref o :: st) h = (mg h o 14 ∧ mw d 298 Q 425 [x0] (st) (mh_sr h o 0 none)) := (mw_at mj_298_422).trans (z_putn (by decide) (by decide) rfl)
theorem mj_298_425 : mc_P 298 425 = some (.aload_n 0, 1, 0, 0, 0) := by decide +kernel
theorem s_298_425 {w : Value} : mw d 298 Q 425 [some w] (st) h = mv_a w (mw d 298 Q 426 [some w] (w :: st) h) := (mw_at mj_298_425).trans (z_aload_n rfl)
theorem mj_298_426 : mc_P 298 426 = some (.invokevirtual 173, 3, 299, 14, 1) := by decide +kernel
theorem s_298_426 {x0 : Option Value} {o : Nat} : mw (d + 1) 298 Q 426 [x0] (.ref o :: st) h = (mg h o 14 ∧ mca st 8 ∧ mca [.ref o] 1 ∧ mcall d 299 [.ref o] h (mK (d + 1) 298 Q 429 [x0] st)) := (mw_at mj_298_426).trans ((z_invv (As := []) (by decide) rfl rfl).trans (congrArg (And _) (congrArg (And _) (mC_nl nl_299))))
theorem mj_298_429 : mc_P 298 429 = some (.return_, 1, 0, 0, 0) := by decide +kernel
theorem s_298_429 {x0 : Option Value} : mw d 298 Q 429 [x0] ([]) h = Q none h := (mw_at mj_298_429).trans (z_vret)
theorem e_298 {a0 : Nat} : mcall d 298 [.ref a0] h Q = mw d 298 Q 0 [some (.ref a0)] [] h := by
  show mw d 298 Q 0 (me_en (mc_nl 298) _) [] h = _
  rw [nl_298]; rfl
end SR
