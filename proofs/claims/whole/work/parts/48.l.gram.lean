set_option maxRecDepth 100000
/-! THE GRAMMAR, pure: what is read from a token on, the token behind it, or the token of a fault; trees as the reference builds them (a NAME's value is its token) -/
def tL (n : Nat) : tr := .branch n (.leaf ()) (.leaf ())
def tNd (n : Nat) (cs : tr) : tr := .branch n cs (.leaf ())
/-- a node in front of a row -/
def tA (t r : tr) : tr := match t with
  | .branch n cs _ => .branch n cs r
  | .leaf _ => r
def tR (t : tr) : Nat := match t with
  | .branch n _ _ => tP n
  | .leaf _ => 0
abbrev pqr : Type := Nat × Option tr
def bnd (r : pqr) (g : tr → Nat → pqr) : pqr := match r with
  | (j, some t) => g t j
  | (j, none) => (j, none)
def tak (K : Nat → Int32) (k : Int32) (j : Nat) (r : pqr) : pqr := if K j = k then r else (j, none)
/-- a limit of any -/
def pLim (K : Nat → Int32) (P : Nat → Nat) (V : Nat → Int) (i : Nat) : pqr := if K i = 45 then tak K 3 (i + 1) (i + 2, some (tL (tE 12 (P i) (-(V (i + 1)))))) else tak K 3 i (i + 1, some (tL (tE 12 (P i) (V i))))
/-- SUM 0, TERM 1, FACTOR 2, more TERMs 3, more FACTORs 4 -/
def pgX (K : Nat → Int32) (P : Nat → Nat) (V : Nat → Int) : Nat → Nat → Nat → Nat → pqr
  | 0, _, _, i => (i, none)
  | f + 1, 0, d, i => if 60 < d then (i, none) else bnd (pgX K P V f 1 d i) fun t j => if K j = 43 ∨ K j = 45 then bnd (pgX K P V f 3 d j) fun r k => (k, some (tNd (tE 17 (tR t) 0) (tA t r))) else (j, some t)
  | f + 1, 1, d, i => bnd (pgX K P V f 2 d i) fun t j => if K j = 42 ∨ K j = 47 ∨ K j = 37 then bnd (pgX K P V f 4 d j) fun r k => (k, some (tNd (tE 20 (tR t) 0) (tA t r))) else (j, some t)
  | f + 1, 3, d, i => if K i = 43 ∨ K i = 45 then bnd (pgX K P V f 1 d (i + 1)) fun t j => bnd (pgX K P V f 3 d j) fun r k => (k, some (.branch (tE (if K i = 43 then 18 else 19) (P i) 0) t r)) else (i, some (.leaf ()))
  | f + 1, 4, d, i => if K i = 42 ∨ K i = 47 ∨ K i = 37 then bnd (pgX K P V f 2 d (i + 1)) fun t j => bnd (pgX K P V f 4 d j) fun r k => (k, some (.branch (tE (if K i = 42 then 21 else if K i = 47 then 22 else 23) (P i) 0) t r)) else (i, some (.leaf ()))
  | f + 1, _, d, i =>
    if K i = 3 then (i + 1, some (tL (tE 12 (P i) (V i))))
    else if K i = 2 then (if K (i + 1) = 91 then bnd (pgX K P V f 0 (d + 1) (i + 2)) fun t j => tak K 93 j (j + 1, some (tNd (tE 14 (P i) 0) (.branch (tE 13 (P i) i) (.leaf ()) t))) else (i + 1, some (tL (tE 13 (P i) i))))
    else if K i = 45 then (if 60 < d + 1 then (i + 1, none) else bnd (pgX K P V f 2 (d + 1) (i + 1)) fun t j => (j, some (tNd (tE 15 (P i) 0) t)))
    else if K i = 11 then (if K (i + 1) = 40 then bnd (pLim K P V (i + 2)) fun a j => tak K 44 j (bnd (pLim K P V (j + 1)) fun b k => tak K 41 k (k + 1, some (tNd (tE 16 (P i) 0) (tA a b)))) else (i + 1, some (tL (tE 16 (P i) 0))))
    else if K i = 40 then bnd (pgX K P V f 0 (d + 1) (i + 1)) fun t j => tak K 41 j (j + 1, some t)
    else (i, none)
def relK (k : Int32) : Nat := if k = 60 then 27 else if k = 128 then 28 else if k = 62 then 29 else if k = 129 then 30 else if k = 130 then 31 else if k = 131 then 32 else 0
/-- COND 0, TESTs joined by && 1, TEST 2, more joined by || 3, more joined by && 4 -/
def pgC (K : Nat → Int32) (P : Nat → Nat) (V : Nat → Int) (N : Nat) : Nat → Nat → Nat → Nat → pqr
  | 0, _, _, i => (i, none)
  | f + 1, 0, d, i => if 60 < d then (i, none) else bnd (pgC K P V N f 1 d i) fun t j => if K j = 133 then bnd (pgC K P V N f 3 d j) fun r k => (k, some (tNd (tE 24 (tR t) 0) (tA t r))) else (j, some t)
  | f + 1, 1, d, i => bnd (pgC K P V N f 2 d i) fun t j => if K j = 132 then bnd (pgC K P V N f 4 d j) fun r k => (k, some (tNd (tE 25 (tR t) 0) (tA t r))) else (j, some t)
  | f + 1, 3, d, i => if K i = 133 then bnd (pgC K P V N f 1 d (i + 1)) fun t j => bnd (pgC K P V N f 3 d j) fun r k => (k, some (tA t r)) else (i, some (.leaf ()))
  | f + 1, 4, d, i => if K i = 132 then bnd (pgC K P V N f 2 d (i + 1)) fun t j => bnd (pgC K P V N f 4 d j) fun r k => (k, some (tA t r)) else (i, some (.leaf ()))
  | f + 1, _, d, i =>
    if K i = 33 then (if 60 < d + 1 then (i + 1, none) else bnd (pgC K P V N f 2 (d + 1) (i + 1)) fun t j => (j, some (tNd (tE 26 (P i) 0) t)))
    else if K i = 91 then bnd (pgC K P V N f 0 (d + 1) (i + 1)) fun t j => tak K 93 j (j + 1, some t)
    else bnd (pgX K P V N 0 (d + 1) i) fun t j => if relK (K j) = 0 then (j, none) else bnd (pgX K P V N 0 (d + 1) (j + 1)) fun u k => (k, some (tNd (tE (relK (K j)) (tR t) 0) (tA t u)))
/-- SUMs behind commas, to the bracket -/
def pgA (K : Nat → Int32) (P : Nat → Nat) (V : Nat → Int) (N : Nat) : Nat → Nat → Nat → pqr
  | 0, _, i => (i, none)
  | f + 1, d, i => if K i = 44 then bnd (pgX K P V N 0 d (i + 1)) fun t j => bnd (pgA K P V N f d j) fun r k => (k, some (tA t r)) else tak K 41 i (i + 1, some (.leaf ()))
/-- what a call gives, from behind the bracket on -/
def pgS (K : Nat → Int32) (P : Nat → Nat) (V : Nat → Int) (N : Nat) (d i : Nat) : pqr := if K i = 41 then (i + 1, some (.leaf ())) else bnd (pgX K P V N 0 d i) fun t j => bnd (pgA K P V N N d j) fun r k => (k, some (tA t r))
/-- statements 0 (to the brace), statement 1, BLOCK 2 -/
def pgB (K : Nat → Int32) (P : Nat → Nat) (V : Nat → Int) (N : Nat) : Nat → Nat → Nat → Nat → pqr
  | 0, _, _, i => (i, none)
  | f + 1, 0, d, i => if K i = 125 then (i, some (.leaf ())) else bnd (pgB K P V N f 1 d i) fun t j => bnd (pgB K P V N f 0 d j) fun r k => (k, some (tA t r))
  | f + 1, 2, d, i => if 60 < d then (i, none) else tak K 123 i (bnd (pgB K P V N f 0 d (i + 1)) fun r j => (j + 1, some (tNd (tE 2 (P i) 0) r)))
  | f + 1, _, d, i =>
    if K i = 5 then tak K 2 (i + 1) (
      if K (i + 2) = 91 then tak K 3 (i + 3) (tak K 93 (i + 4) (tak K 59 (i + 5) (i + 6, some (tNd (tE 4 (P i) 0) (.branch (tE 13 (P (i + 1)) (i + 1)) (.leaf ()) (tL (tE 12 (P (i + 3)) (V (i + 3)))))))))
      else if K (i + 2) = 61 then bnd (pgX K P V N 0 (d + 1) (i + 3)) fun t j => tak K 59 j (j + 1, some (tNd (tE 3 (P i) 0) (.branch (tE 13 (P (i + 1)) (i + 1)) (.leaf ()) t)))
      else tak K 59 (i + 2) (i + 3, some (tNd (tE 3 (P i) 0) (tL (tE 13 (P (i + 1)) (i + 1))))))
    else if K i = 2 then (
      if K (i + 1) = 40 then bnd (pgS K P V N (d + 1) (i + 2)) fun r j => tak K 59 j (j + 1, some (tNd (tE 7 (P i) 0) (.branch (tE 33 (P i) 0) (.leaf ()) (.branch (tE 13 (P i) i) (.leaf ()) r))))
      else if K (i + 1) = 91 then bnd (pgX K P V N 0 (d + 1) (i + 2)) fun t j => tak K 93 j (tak K 61 (j + 1) (bnd (pgX K P V N 0 (d + 1) (j + 2)) fun u k => tak K 59 k (k + 1, some (tNd (tE 6 (P i) 0) (.branch (tE 13 (P i) i) (.leaf ()) (tA t u))))))
      else tak K 61 (i + 1) (
        if K (i + 2) = 2 ∧ K (i + 3) = 40 then bnd (pgS K P V N (d + 1) (i + 4)) fun r j => tak K 59 j (j + 1, some (tNd (tE 7 (P i) 0) (.branch (tE 13 (P i) i) (.leaf ()) (.branch (tE 13 (P (i + 2)) (i + 2)) (.leaf ()) r))))
        else bnd (pgX K P V N 0 (d + 1) (i + 2)) fun t j => tak K 59 j (j + 1, some (tNd (tE 5 (P i) 0) (.branch (tE 13 (P i) i) (.leaf ()) t)))))
    else if K i = 6 then tak K 40 (i + 1) (bnd (pgC K P V N N 0 (d + 1) (i + 2)) fun c j => tak K 41 j (bnd (pgB K P V N f 2 (d + 1) (j + 1)) fun b k => if K k = 7 then bnd (pgB K P V N f 2 (d + 1) (k + 1)) fun e l => (l, some (tNd (tE 8 (P i) 0) (tA c (tA b e)))) else (k, some (tNd (tE 8 (P i) 0) (tA c b)))))
    else if K i = 8 then tak K 40 (i + 1) (bnd (pgC K P V N N 0 (d + 1) (i + 2)) fun c j => tak K 41 j (bnd (pgB K P V N f 2 (d + 1) (j + 1)) fun b k => (k, some (tNd (tE 9 (P i) 0) (tA c b)))))
    else if K i = 9 then tak K 40 (i + 1) (bnd (pgC K P V N N 0 (d + 1) (i + 2)) fun c j => tak K 41 j (tak K 59 (j + 1) (j + 2, some (tNd (tE 10 (P i) 0) c))))
    else if K i = 10 then bnd (pgX K P V N 0 (d + 1) (i + 1)) fun t j => tak K 59 j (j + 1, some (tNd (tE 11 (P i) 0) t))
    else (i, none)
/-- parameters behind commas, to the bracket -/
def pgM (K : Nat → Int32) (P : Nat → Nat) : Nat → Nat → pqr
  | 0, i => (i, none)
  | f + 1, i => if K i = 44 then tak K 2 (i + 1) (bnd (pgM K P f (i + 2)) fun r k => (k, some (.branch (tE 13 (P (i + 1)) (i + 1)) (.leaf ()) r))) else tak K 41 i (i + 1, some (.leaf ()))
/-- a row, and behind it another one -/
def tC : tr → tr → tr
  | .leaf _, u => u
  | .branch n cs r, u => .branch n cs (tC r u)
/-- a function -/
def pgF (K : Nat → Int32) (P : Nat → Nat) (V : Nat → Int) (N : Nat) (i : Nat) : pqr := tak K 4 i (tak K 2 (i + 1) (tak K 40 (i + 2) (bnd (if K (i + 3) = 41 then (i + 4, some (.leaf ())) else tak K 2 (i + 3) (bnd (pgM K P N (i + 4)) fun r k => (k, some (.branch (tE 13 (P (i + 3)) (i + 3)) (.leaf ()) r)))) fun r j => bnd (pgB K P V N N 2 1 j) fun b k => (k, some (tNd (tE 1 (P i) 0) (.branch (tE 13 (P (i + 1)) (i + 1)) (.leaf ()) (tC r b)))))))
/-- all functions -/
def pgZ (K : Nat → Int32) (P : Nat → Nat) (V : Nat → Int) (N : Nat) : Nat → Nat → pqr
  | 0, i => (i, none)
  | f + 1, i => bnd (pgF K P V N i) fun t j => if K j = 0 then (j, some t) else bnd (pgZ K P V N f j) fun r k => (k, some (tA t r))
