def opb (k : Nat) : Int32 := if k = 18 then 43 else if k = 19 then 45 else if k = 21 then 42 else if k = 22 then 47 else 37
