theorem mk_g406 : mk_good 406 mc_406 := mk_good_of (o := 19) (ini := 99) (by decide +kernel) mk_w406
