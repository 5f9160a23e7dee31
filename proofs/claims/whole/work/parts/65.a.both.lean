set_option maxRecDepth 100000
/-! BOTH SIDES: what holds between two calls of the law. Worlds: what was fed; what end told; the program; inputs; the run; the line -/
abbrev pgz : Type := pgm × pin × pin × Nat × (Nat → Nat) × (Nat → Nat) × (Nat → Int32) × (Nat → Option ab) × (Nat → Int32) × Bool × (Nat → Nat → List Int32) × (Nat → Nat → List Int32)
def pgz.G (g : pgz) : pgm := g.1
def pgz.J (g : pgz) : pin := g.2.1
def pgz.J2 (g : pgz) : pin := g.2.2.1
def pgz.c (g : pgz) : Nat := g.2.2.2.1
def pgz.fs (g : pgz) : Nat → Nat := g.2.2.2.2.1
def pgz.ot (g : pgz) : Nat → Nat := g.2.2.2.2.2.1
def pgz.pl (g : pgz) : Nat → Int32 := g.2.2.2.2.2.2.1
def pgz.kn (g : pgz) : Nat → Option ab := g.2.2.2.2.2.2.2.1
def pgz.al (g : pgz) : Nat → Int32 := g.2.2.2.2.2.2.2.2.1
def pgz.m (g : pgz) : Bool := g.2.2.2.2.2.2.2.2.2.1
def pgz.nm (g : pgz) : Nat → Nat → List Int32 := g.2.2.2.2.2.2.2.2.2.2.1
def pgz.am (g : pgz) : Nat → Nat → List Int32 := g.2.2.2.2.2.2.2.2.2.2.2
/-- a run: where, steps, inputs taken, outside, cells, places -/
abbrev rnz : Type := Nat × Int32 × Int32 × Int32 × (Nat → Int32) × (Nat → Int32)
def rnz.p (r : rnz) : Nat := r.1
def rnz.d (r : rnz) : Int32 := r.2.1
def rnz.t (r : rnz) : Int32 := r.2.2.1
def rnz.o (r : rnz) : Int32 := r.2.2.2.1
def rnz.V (r : rnz) : Nat → Int32 := r.2.2.2.2.1
def rnz.P (r : rnz) : Nat → Int32 := r.2.2.2.2.2
/-- what is so of a program, whichever side holds it -/
def PUR (g : pgz) : Prop := (g.G.fx = fxJ g.J) ∧ (DMS g.G g.fs g.ot g.c) ∧ (SHN g.G g.J2 g.c g.fs g.ot) ∧ (g.G.n (g.c - 1) = 0 ∧ g.G.a (g.c - 1) = 0) ∧ (g.G.n 0 = 0 ∧ g.G.a 0 = 0) ∧ (∀ p, p + 1 < g.c → th (g.J2.t p) ≤ 300 ∧ ts (g.J2.t p) ≤ 26000 ∧ 1 ≤ g.J2.c p ∧ g.J2.c p ≤ 9) ∧ (∀ q, q < g.c - 1 → g.G.sp q ≤ 350) ∧ (1 ≤ g.c ∧ g.c ≤ 250) ∧ (CSH g.G g.c g.kn)
theorem PUR.of {g : pgz} (q : (g.G.fx = fxJ g.J) ∧ (DMS g.G g.fs g.ot g.c) ∧ (SHN g.G g.J2 g.c g.fs g.ot) ∧ (g.G.n (g.c - 1) = 0 ∧ g.G.a (g.c - 1) = 0) ∧ (g.G.n 0 = 0 ∧ g.G.a 0 = 0) ∧ (∀ p, p + 1 < g.c → th (g.J2.t p) ≤ 300 ∧ ts (g.J2.t p) ≤ 26000 ∧ 1 ≤ g.J2.c p ∧ g.J2.c p ≤ 9) ∧ (∀ q, q < g.c - 1 → g.G.sp q ≤ 350) ∧ (1 ≤ g.c ∧ g.c ≤ 250) ∧ (CSH g.G g.c g.kn)) : PUR g := q
theorem PUR.x {g : pgz} (q : PUR g) : g.G.fx = fxJ g.J := q.1
theorem PUR.D {g : pgz} (q : PUR g) : DMS g.G g.fs g.ot g.c := q.2.1
theorem PUR.S {g : pgz} (q : PUR g) : SHN g.G g.J2 g.c g.fs g.ot := q.2.2.1
theorem PUR.z {g : pgz} (q : PUR g) : g.G.n (g.c - 1) = 0 ∧ g.G.a (g.c - 1) = 0 := q.2.2.2.1
theorem PUR.o {g : pgz} (q : PUR g) : g.G.n 0 = 0 ∧ g.G.a 0 = 0 := q.2.2.2.2.1
theorem PUR.t {g : pgz} (q : PUR g) : ∀ p, p + 1 < g.c → th (g.J2.t p) ≤ 300 ∧ ts (g.J2.t p) ≤ 26000 ∧ 1 ≤ g.J2.c p ∧ g.J2.c p ≤ 9 := q.2.2.2.2.2.1
theorem PUR.s {g : pgz} (q : PUR g) : ∀ q, q < g.c - 1 → g.G.sp q ≤ 350 := q.2.2.2.2.2.2.1
theorem PUR.c {g : pgz} (q : PUR g) : 1 ≤ g.c ∧ g.c ≤ 250 := q.2.2.2.2.2.2.2.1
theorem PUR.k {g : pgz} (q : PUR g) : CSH g.G g.c g.kn := q.2.2.2.2.2.2.2.2
/-- the class's line -/
def LNa (h : mh_H) (T : List Int32) (s0 l : Nat) : Prop := (mh_r h 0 13 = some s0) ∧ (mg h s0 102) ∧ (mh_l h s0 = l) ∧ (64 ≤ l ∧ l ≤ 48000) ∧ (s0 = 74 ∨ 2644 ≤ s0) ∧ (T.length ≤ l ∧ T.length ≤ 24000) ∧ (mh_i h 0 14 = Int32.ofNat T.length) ∧ (∀ i v, T[i]? = some v → mh_i h s0 i &&& 255 = v)
theorem LNa.of {h : mh_H} {T : List Int32} {s0 l : Nat} (q : (mh_r h 0 13 = some s0) ∧ (mg h s0 102) ∧ (mh_l h s0 = l) ∧ (64 ≤ l ∧ l ≤ 48000) ∧ (s0 = 74 ∨ 2644 ≤ s0) ∧ (T.length ≤ l ∧ T.length ≤ 24000) ∧ (mh_i h 0 14 = Int32.ofNat T.length) ∧ (∀ i v, T[i]? = some v → mh_i h s0 i &&& 255 = v)) : LNa h T s0 l := q
theorem LNa.r {h : mh_H} {T : List Int32} {s0 l : Nat} (q : LNa h T s0 l) : mh_r h 0 13 = some s0 := q.1
theorem LNa.g {h : mh_H} {T : List Int32} {s0 l : Nat} (q : LNa h T s0 l) : mg h s0 102 := q.2.1
theorem LNa.l {h : mh_H} {T : List Int32} {s0 l : Nat} (q : LNa h T s0 l) : mh_l h s0 = l := q.2.2.1
theorem LNa.b {h : mh_H} {T : List Int32} {s0 l : Nat} (q : LNa h T s0 l) : 64 ≤ l ∧ l ≤ 48000 := q.2.2.2.1
theorem LNa.s {h : mh_H} {T : List Int32} {s0 l : Nat} (q : LNa h T s0 l) : s0 = 74 ∨ 2644 ≤ s0 := q.2.2.2.2.1
theorem LNa.n {h : mh_H} {T : List Int32} {s0 l : Nat} (q : LNa h T s0 l) : T.length ≤ l ∧ T.length ≤ 24000 := q.2.2.2.2.2.1
theorem LNa.e {h : mh_H} {T : List Int32} {s0 l : Nat} (q : LNa h T s0 l) : mh_i h 0 14 = Int32.ofNat T.length := q.2.2.2.2.2.2.1
theorem LNa.t {h : mh_H} {T : List Int32} {s0 l : Nat} (q : LNa h T s0 l) : ∀ i v, T[i]? = some v → mh_i h s0 i &&& 255 = v := q.2.2.2.2.2.2.2
/-- the class's names -/
def CNm (h : mh_H) (g : pgz) : Prop := ∃ TK X n Bt, ∃ np ap : Nat → Nat → Nat, (∀ p, p < g.c → 0 < g.G.n p + g.G.a p → mh_r h 2 0 = some TK ∧ TB h TK X n Bt ∧ (2644 ≤ TK ∧ 2644 ≤ X) ∧ ∀ s0, mh_r h 0 13 = some s0 → s0 ≠ TK ∧ s0 ≠ X) ∧ (∀ p x, p < g.c → x < g.G.n p → mh_i h 30 (18 * p + x) = Int32.ofNat (np p x) ∧ np p x ≤ n ∧ (nmX Bt n (np p x)).length ≤ 30 ∧ g.nm p x = nmX Bt n (np p x)) ∧ ∀ p x, p < g.c → x < g.G.a p → mh_i h 30 (18 * p + (12 + x)) = Int32.ofNat (ap p x) ∧ ap p x ≤ n ∧ (nmX Bt n (ap p x)).length ≤ 30 ∧ g.am p x = nmX Bt n (ap p x)
def ICl (h : mh_H) (fd : Nat × (Nat → Int32)) (td : Bool × Int32 × Int32 × Int32) (g : pgz) (cl : Nat → Option ab) (ip : Nat × (Nat → Int32)) (rz : rnz) (T : List Int32) : Prop := (∃ Y C E TT UU SC SP nC nE nS pa, CPg h Y C E TT UU SC SP nC nE nS pa g.G g.J g.J2 g.c g.fs g.ot g.pl) ∧ (∀ q, q < g.c → pv h 54 q (g.kn q)) ∧ (∀ q, q < g.c → pv h 73 q (cl q)) ∧ (mh_i h 0 1 = Int32.ofNat fd.1 ∧ ∀ i, i < fd.1 → mh_i h 1 i &&& 255 = fd.2 i) ∧ (mh_i h 0 7 = kb td.1 ∧ mh_i h 0 8 = td.2.1 ∧ mh_i h 0 9 = td.2.2.1 ∧ mh_i h 53 2 = td.2.2.2) ∧ (mh_i h 53 3 = kb g.m) ∧ (∀ q, q < g.c → mh_i h 55 q = g.al q) ∧ (∃ ca jd : Bool, mh_i h 0 10 = kb ca ∧ mh_i h 0 11 = kb jd ∧ (jd = true → JV g.G g.c cl g.fs g.ot g.m (mh_i h 0 12)) ∧ (ca = false → ∀ q, q < g.c → cl q = g.kn q)) ∧ (mh_i h 67 2 = Int32.ofNat ip.1 ∧ mh_i h 68 = ip.2) ∧ (mh_i h 67 4 = Int32.ofNat rz.p ∧ mh_i h 67 5 = rz.d ∧ mh_i h 67 3 = rz.t ∧ mh_i h 67 9 = rz.o ∧ (∀ x, x < g.G.n rz.p → mh_i h 69 x = rz.V x) ∧ ∀ x, x < g.G.a rz.p → mh_i h 71 x = Int32.ofNat (g.G.rm rz.p x) ∧ ∀ y, y < g.G.rm rz.p x → mh_i h 70 (64 * x + y) = rz.P (64 * x + y)) ∧ (∃ s0 l, LNa h T s0 l) ∧ (CNm h g)
theorem ICl.of {h : mh_H} {fd : Nat × (Nat → Int32)} {td : Bool × Int32 × Int32 × Int32} {g : pgz} {cl : Nat → Option ab} {ip : Nat × (Nat → Int32)} {rz : rnz} {T : List Int32} (q : (∃ Y C E TT UU SC SP nC nE nS pa, CPg h Y C E TT UU SC SP nC nE nS pa g.G g.J g.J2 g.c g.fs g.ot g.pl) ∧ (∀ q, q < g.c → pv h 54 q (g.kn q)) ∧ (∀ q, q < g.c → pv h 73 q (cl q)) ∧ (mh_i h 0 1 = Int32.ofNat fd.1 ∧ ∀ i, i < fd.1 → mh_i h 1 i &&& 255 = fd.2 i) ∧ (mh_i h 0 7 = kb td.1 ∧ mh_i h 0 8 = td.2.1 ∧ mh_i h 0 9 = td.2.2.1 ∧ mh_i h 53 2 = td.2.2.2) ∧ (mh_i h 53 3 = kb g.m) ∧ (∀ q, q < g.c → mh_i h 55 q = g.al q) ∧ (∃ ca jd : Bool, mh_i h 0 10 = kb ca ∧ mh_i h 0 11 = kb jd ∧ (jd = true → JV g.G g.c cl g.fs g.ot g.m (mh_i h 0 12)) ∧ (ca = false → ∀ q, q < g.c → cl q = g.kn q)) ∧ (mh_i h 67 2 = Int32.ofNat ip.1 ∧ mh_i h 68 = ip.2) ∧ (mh_i h 67 4 = Int32.ofNat rz.p ∧ mh_i h 67 5 = rz.d ∧ mh_i h 67 3 = rz.t ∧ mh_i h 67 9 = rz.o ∧ (∀ x, x < g.G.n rz.p → mh_i h 69 x = rz.V x) ∧ ∀ x, x < g.G.a rz.p → mh_i h 71 x = Int32.ofNat (g.G.rm rz.p x) ∧ ∀ y, y < g.G.rm rz.p x → mh_i h 70 (64 * x + y) = rz.P (64 * x + y)) ∧ (∃ s0 l, LNa h T s0 l) ∧ (CNm h g)) : ICl h fd td g cl ip rz T := q
theorem ICl.P {h : mh_H} {fd : Nat × (Nat → Int32)} {td : Bool × Int32 × Int32 × Int32} {g : pgz} {cl : Nat → Option ab} {ip : Nat × (Nat → Int32)} {rz : rnz} {T : List Int32} (q : ICl h fd td g cl ip rz T) : ∃ Y C E TT UU SC SP nC nE nS pa, CPg h Y C E TT UU SC SP nC nE nS pa g.G g.J g.J2 g.c g.fs g.ot g.pl := q.1
theorem ICl.k {h : mh_H} {fd : Nat × (Nat → Int32)} {td : Bool × Int32 × Int32 × Int32} {g : pgz} {cl : Nat → Option ab} {ip : Nat × (Nat → Int32)} {rz : rnz} {T : List Int32} (q : ICl h fd td g cl ip rz T) : ∀ q, q < g.c → pv h 54 q (g.kn q) := q.2.1
theorem ICl.c {h : mh_H} {fd : Nat × (Nat → Int32)} {td : Bool × Int32 × Int32 × Int32} {g : pgz} {cl : Nat → Option ab} {ip : Nat × (Nat → Int32)} {rz : rnz} {T : List Int32} (q : ICl h fd td g cl ip rz T) : ∀ q, q < g.c → pv h 73 q (cl q) := q.2.2.1
theorem ICl.f {h : mh_H} {fd : Nat × (Nat → Int32)} {td : Bool × Int32 × Int32 × Int32} {g : pgz} {cl : Nat → Option ab} {ip : Nat × (Nat → Int32)} {rz : rnz} {T : List Int32} (q : ICl h fd td g cl ip rz T) : mh_i h 0 1 = Int32.ofNat fd.1 ∧ ∀ i, i < fd.1 → mh_i h 1 i &&& 255 = fd.2 i := q.2.2.2.1
theorem ICl.t {h : mh_H} {fd : Nat × (Nat → Int32)} {td : Bool × Int32 × Int32 × Int32} {g : pgz} {cl : Nat → Option ab} {ip : Nat × (Nat → Int32)} {rz : rnz} {T : List Int32} (q : ICl h fd td g cl ip rz T) : mh_i h 0 7 = kb td.1 ∧ mh_i h 0 8 = td.2.1 ∧ mh_i h 0 9 = td.2.2.1 ∧ mh_i h 53 2 = td.2.2.2 := q.2.2.2.2.1
theorem ICl.m {h : mh_H} {fd : Nat × (Nat → Int32)} {td : Bool × Int32 × Int32 × Int32} {g : pgz} {cl : Nat → Option ab} {ip : Nat × (Nat → Int32)} {rz : rnz} {T : List Int32} (q : ICl h fd td g cl ip rz T) : mh_i h 53 3 = kb g.m := q.2.2.2.2.2.1
theorem ICl.a {h : mh_H} {fd : Nat × (Nat → Int32)} {td : Bool × Int32 × Int32 × Int32} {g : pgz} {cl : Nat → Option ab} {ip : Nat × (Nat → Int32)} {rz : rnz} {T : List Int32} (q : ICl h fd td g cl ip rz T) : ∀ q, q < g.c → mh_i h 55 q = g.al q := q.2.2.2.2.2.2.1
theorem ICl.j {h : mh_H} {fd : Nat × (Nat → Int32)} {td : Bool × Int32 × Int32 × Int32} {g : pgz} {cl : Nat → Option ab} {ip : Nat × (Nat → Int32)} {rz : rnz} {T : List Int32} (q : ICl h fd td g cl ip rz T) : ∃ ca jd : Bool, mh_i h 0 10 = kb ca ∧ mh_i h 0 11 = kb jd ∧ (jd = true → JV g.G g.c cl g.fs g.ot g.m (mh_i h 0 12)) ∧ (ca = false → ∀ q, q < g.c → cl q = g.kn q) := q.2.2.2.2.2.2.2.1
theorem ICl.i {h : mh_H} {fd : Nat × (Nat → Int32)} {td : Bool × Int32 × Int32 × Int32} {g : pgz} {cl : Nat → Option ab} {ip : Nat × (Nat → Int32)} {rz : rnz} {T : List Int32} (q : ICl h fd td g cl ip rz T) : mh_i h 67 2 = Int32.ofNat ip.1 ∧ mh_i h 68 = ip.2 := q.2.2.2.2.2.2.2.2.1
theorem ICl.r {h : mh_H} {fd : Nat × (Nat → Int32)} {td : Bool × Int32 × Int32 × Int32} {g : pgz} {cl : Nat → Option ab} {ip : Nat × (Nat → Int32)} {rz : rnz} {T : List Int32} (q : ICl h fd td g cl ip rz T) : mh_i h 67 4 = Int32.ofNat rz.p ∧ mh_i h 67 5 = rz.d ∧ mh_i h 67 3 = rz.t ∧ mh_i h 67 9 = rz.o ∧ (∀ x, x < g.G.n rz.p → mh_i h 69 x = rz.V x) ∧ ∀ x, x < g.G.a rz.p → mh_i h 71 x = Int32.ofNat (g.G.rm rz.p x) ∧ ∀ y, y < g.G.rm rz.p x → mh_i h 70 (64 * x + y) = rz.P (64 * x + y) := q.2.2.2.2.2.2.2.2.2.1
theorem ICl.l {h : mh_H} {fd : Nat × (Nat → Int32)} {td : Bool × Int32 × Int32 × Int32} {g : pgz} {cl : Nat → Option ab} {ip : Nat × (Nat → Int32)} {rz : rnz} {T : List Int32} (q : ICl h fd td g cl ip rz T) : ∃ s0 l, LNa h T s0 l := q.2.2.2.2.2.2.2.2.2.2.1
theorem ICl.n {h : mh_H} {fd : Nat × (Nat → Int32)} {td : Bool × Int32 × Int32 × Int32} {g : pgz} {cl : Nat → Option ab} {ip : Nat × (Nat → Int32)} {rz : rnz} {T : List Int32} (q : ICl h fd td g cl ip rz T) : CNm h g := q.2.2.2.2.2.2.2.2.2.2.2
def IRf (h : mh_H) (fd : Nat × (Nat → Int32)) (td : Bool × Int32 × Int32 × Int32) (g : pgz) (cl : Nat → Option ab) (ip : Nat × (Nat → Int32)) (rz : rnz) (T : List Int32) : Prop := (∃ ap, RPg h g.G g.J g.J2 ap g.c g.kn cl g.fs g.ot g.al g.m g.nm g.am g.pl) ∧ (mh_i h 81 2 = Int32.ofNat fd.1 ∧ ∀ i, i < fd.1 → mh_i h 82 i = fd.2 i) ∧ ((td.1 = false → mh_i h 81 49 = -1) ∧ (td.1 = true → (mh_i h 81 49 = -1) = False ∧ mh_i h 81 47 = td.2.1 ∧ mh_i h 81 48 = td.2.2.1 ∧ (if mh_i h 81 49 = 0 then mh_i h 115 8 else 0) = td.2.2.2)) ∧ (mh_i h 81 60 = Int32.ofNat ip.1 ∧ mh_i h 2639 = ip.2) ∧ (mh_i h 81 64 = Int32.ofNat rz.p ∧ mh_i h 81 65 = rz.d ∧ mh_i h 81 66 = rz.t ∧ mh_i h 81 54 = rz.o ∧ mh_i h 2640 = rz.V ∧ mh_i h 2641 = rz.P) ∧ (mh_i h 81 57 = Int32.ofNat T.length ∧ ∀ i v, T[i]? = some v → mh_i h 2637 i = v)
theorem IRf.of {h : mh_H} {fd : Nat × (Nat → Int32)} {td : Bool × Int32 × Int32 × Int32} {g : pgz} {cl : Nat → Option ab} {ip : Nat × (Nat → Int32)} {rz : rnz} {T : List Int32} (q : (∃ ap, RPg h g.G g.J g.J2 ap g.c g.kn cl g.fs g.ot g.al g.m g.nm g.am g.pl) ∧ (mh_i h 81 2 = Int32.ofNat fd.1 ∧ ∀ i, i < fd.1 → mh_i h 82 i = fd.2 i) ∧ ((td.1 = false → mh_i h 81 49 = -1) ∧ (td.1 = true → (mh_i h 81 49 = -1) = False ∧ mh_i h 81 47 = td.2.1 ∧ mh_i h 81 48 = td.2.2.1 ∧ (if mh_i h 81 49 = 0 then mh_i h 115 8 else 0) = td.2.2.2)) ∧ (mh_i h 81 60 = Int32.ofNat ip.1 ∧ mh_i h 2639 = ip.2) ∧ (mh_i h 81 64 = Int32.ofNat rz.p ∧ mh_i h 81 65 = rz.d ∧ mh_i h 81 66 = rz.t ∧ mh_i h 81 54 = rz.o ∧ mh_i h 2640 = rz.V ∧ mh_i h 2641 = rz.P) ∧ (mh_i h 81 57 = Int32.ofNat T.length ∧ ∀ i v, T[i]? = some v → mh_i h 2637 i = v)) : IRf h fd td g cl ip rz T := q
theorem IRf.P {h : mh_H} {fd : Nat × (Nat → Int32)} {td : Bool × Int32 × Int32 × Int32} {g : pgz} {cl : Nat → Option ab} {ip : Nat × (Nat → Int32)} {rz : rnz} {T : List Int32} (q : IRf h fd td g cl ip rz T) : ∃ ap, RPg h g.G g.J g.J2 ap g.c g.kn cl g.fs g.ot g.al g.m g.nm g.am g.pl := q.1
theorem IRf.f {h : mh_H} {fd : Nat × (Nat → Int32)} {td : Bool × Int32 × Int32 × Int32} {g : pgz} {cl : Nat → Option ab} {ip : Nat × (Nat → Int32)} {rz : rnz} {T : List Int32} (q : IRf h fd td g cl ip rz T) : mh_i h 81 2 = Int32.ofNat fd.1 ∧ ∀ i, i < fd.1 → mh_i h 82 i = fd.2 i := q.2.1
theorem IRf.t {h : mh_H} {fd : Nat × (Nat → Int32)} {td : Bool × Int32 × Int32 × Int32} {g : pgz} {cl : Nat → Option ab} {ip : Nat × (Nat → Int32)} {rz : rnz} {T : List Int32} (q : IRf h fd td g cl ip rz T) : (td.1 = false → mh_i h 81 49 = -1) ∧ (td.1 = true → (mh_i h 81 49 = -1) = False ∧ mh_i h 81 47 = td.2.1 ∧ mh_i h 81 48 = td.2.2.1 ∧ (if mh_i h 81 49 = 0 then mh_i h 115 8 else 0) = td.2.2.2) := q.2.2.1
theorem IRf.i {h : mh_H} {fd : Nat × (Nat → Int32)} {td : Bool × Int32 × Int32 × Int32} {g : pgz} {cl : Nat → Option ab} {ip : Nat × (Nat → Int32)} {rz : rnz} {T : List Int32} (q : IRf h fd td g cl ip rz T) : mh_i h 81 60 = Int32.ofNat ip.1 ∧ mh_i h 2639 = ip.2 := q.2.2.2.1
theorem IRf.r {h : mh_H} {fd : Nat × (Nat → Int32)} {td : Bool × Int32 × Int32 × Int32} {g : pgz} {cl : Nat → Option ab} {ip : Nat × (Nat → Int32)} {rz : rnz} {T : List Int32} (q : IRf h fd td g cl ip rz T) : mh_i h 81 64 = Int32.ofNat rz.p ∧ mh_i h 81 65 = rz.d ∧ mh_i h 81 66 = rz.t ∧ mh_i h 81 54 = rz.o ∧ mh_i h 2640 = rz.V ∧ mh_i h 2641 = rz.P := q.2.2.2.2.1
theorem IRf.l {h : mh_H} {fd : Nat × (Nat → Int32)} {td : Bool × Int32 × Int32 × Int32} {g : pgz} {cl : Nat → Option ab} {ip : Nat × (Nat → Int32)} {rz : rnz} {T : List Int32} (q : IRf h fd td g cl ip rz T) : mh_i h 81 57 = Int32.ofNat T.length ∧ ∀ i v, T[i]? = some v → mh_i h 2637 i = v := q.2.2.2.2.2
def PUW (fd : Nat × (Nat → Int32)) (g : pgz) (cl : Nat → Option ab) (ip : Nat × (Nat → Int32)) (rz : rnz) : Prop := (PUR g) ∧ (CSH g.G g.c cl) ∧ (CLE g.c cl g.kn) ∧ (fd.1 ≤ 16400 ∧ ∀ i, i < fd.1 → ∃ m, m < 256 ∧ fd.2 i = Int32.ofNat m) ∧ (ip.1 ≤ 1000) ∧ (rz.p < g.c ∧ ZPx (g.G.a rz.p) (g.G.rm rz.p) rz.P)
theorem PUW.of {fd : Nat × (Nat → Int32)} {g : pgz} {cl : Nat → Option ab} {ip : Nat × (Nat → Int32)} {rz : rnz} (q : (PUR g) ∧ (CSH g.G g.c cl) ∧ (CLE g.c cl g.kn) ∧ (fd.1 ≤ 16400 ∧ ∀ i, i < fd.1 → ∃ m, m < 256 ∧ fd.2 i = Int32.ofNat m) ∧ (ip.1 ≤ 1000) ∧ (rz.p < g.c ∧ ZPx (g.G.a rz.p) (g.G.rm rz.p) rz.P)) : PUW fd g cl ip rz := q
theorem PUW.P {fd : Nat × (Nat → Int32)} {g : pgz} {cl : Nat → Option ab} {ip : Nat × (Nat → Int32)} {rz : rnz} (q : PUW fd g cl ip rz) : PUR g := q.1
theorem PUW.c {fd : Nat × (Nat → Int32)} {g : pgz} {cl : Nat → Option ab} {ip : Nat × (Nat → Int32)} {rz : rnz} (q : PUW fd g cl ip rz) : CSH g.G g.c cl := q.2.1
theorem PUW.e {fd : Nat × (Nat → Int32)} {g : pgz} {cl : Nat → Option ab} {ip : Nat × (Nat → Int32)} {rz : rnz} (q : PUW fd g cl ip rz) : CLE g.c cl g.kn := q.2.2.1
theorem PUW.f {fd : Nat × (Nat → Int32)} {g : pgz} {cl : Nat → Option ab} {ip : Nat × (Nat → Int32)} {rz : rnz} (q : PUW fd g cl ip rz) : fd.1 ≤ 16400 ∧ ∀ i, i < fd.1 → ∃ m, m < 256 ∧ fd.2 i = Int32.ofNat m := q.2.2.2.1
theorem PUW.i {fd : Nat × (Nat → Int32)} {g : pgz} {cl : Nat → Option ab} {ip : Nat × (Nat → Int32)} {rz : rnz} (q : PUW fd g cl ip rz) : ip.1 ≤ 1000 := q.2.2.2.2.1
theorem PUW.r {fd : Nat × (Nat → Int32)} {g : pgz} {cl : Nat → Option ab} {ip : Nat × (Nat → Int32)} {rz : rnz} (q : PUW fd g cl ip rz) : rz.p < g.c ∧ ZPx (g.G.a rz.p) (g.G.rm rz.p) rz.P := q.2.2.2.2.2
/-- the room that is used -/
def RMz (k F : Nat) (h : mh_H) : Prop := ∃ l, ln h 0 13 = l ∧ cN h + qN h - (mh_n h : Int) - (l : Int) + (F : Int) ≤ 3000 + 60 * (k : Int) ∧ cS h + qS h - (mh_s h : Int) - 2 * (l : Int) + 25 * (F : Int) ≤ 1100000 + 1800 * (k : Int)
def INV (R : Nat → Prop) (k : Nat) (h : mh_H) (fd : Nat × (Nat → Int32)) (td : Bool × Int32 × Int32 × Int32) (g : pgz) (cl : Nat → Option ab) (ip : Nat × (Nat → Int32)) (rz : rnz) (T : List Int32) : Prop := (SDs R h) ∧ (ICl h fd td g cl ip rz T) ∧ (IRf h fd td g cl ip rz T) ∧ (PUW fd g cl ip rz) ∧ (RMz k fd.1 h) ∧ (fd.1 ≤ 20 * k)
theorem INV.of {R : Nat → Prop} {k : Nat} {h : mh_H} {fd : Nat × (Nat → Int32)} {td : Bool × Int32 × Int32 × Int32} {g : pgz} {cl : Nat → Option ab} {ip : Nat × (Nat → Int32)} {rz : rnz} {T : List Int32} (q : (SDs R h) ∧ (ICl h fd td g cl ip rz T) ∧ (IRf h fd td g cl ip rz T) ∧ (PUW fd g cl ip rz) ∧ (RMz k fd.1 h) ∧ (fd.1 ≤ 20 * k)) : INV R k h fd td g cl ip rz T := q
theorem INV.S {R : Nat → Prop} {k : Nat} {h : mh_H} {fd : Nat × (Nat → Int32)} {td : Bool × Int32 × Int32 × Int32} {g : pgz} {cl : Nat → Option ab} {ip : Nat × (Nat → Int32)} {rz : rnz} {T : List Int32} (q : INV R k h fd td g cl ip rz T) : SDs R h := q.1
theorem INV.C {R : Nat → Prop} {k : Nat} {h : mh_H} {fd : Nat × (Nat → Int32)} {td : Bool × Int32 × Int32 × Int32} {g : pgz} {cl : Nat → Option ab} {ip : Nat × (Nat → Int32)} {rz : rnz} {T : List Int32} (q : INV R k h fd td g cl ip rz T) : ICl h fd td g cl ip rz T := q.2.1
theorem INV.R {R : Nat → Prop} {k : Nat} {h : mh_H} {fd : Nat × (Nat → Int32)} {td : Bool × Int32 × Int32 × Int32} {g : pgz} {cl : Nat → Option ab} {ip : Nat × (Nat → Int32)} {rz : rnz} {T : List Int32} (q : INV R k h fd td g cl ip rz T) : IRf h fd td g cl ip rz T := q.2.2.1
theorem INV.w {R : Nat → Prop} {k : Nat} {h : mh_H} {fd : Nat × (Nat → Int32)} {td : Bool × Int32 × Int32 × Int32} {g : pgz} {cl : Nat → Option ab} {ip : Nat × (Nat → Int32)} {rz : rnz} {T : List Int32} (q : INV R k h fd td g cl ip rz T) : PUW fd g cl ip rz := q.2.2.2.1
theorem INV.m {R : Nat → Prop} {k : Nat} {h : mh_H} {fd : Nat × (Nat → Int32)} {td : Bool × Int32 × Int32 × Int32} {g : pgz} {cl : Nat → Option ab} {ip : Nat × (Nat → Int32)} {rz : rnz} {T : List Int32} (q : INV R k h fd td g cl ip rz T) : RMz k fd.1 h := q.2.2.2.2.1
theorem INV.F {R : Nat → Prop} {k : Nat} {h : mh_H} {fd : Nat × (Nat → Int32)} {td : Bool × Int32 × Int32 × Int32} {g : pgz} {cl : Nat → Option ab} {ip : Nat × (Nat → Int32)} {rz : rnz} {T : List Int32} (q : INV R k h fd td g cl ip rz T) : fd.1 ≤ 20 * k := q.2.2.2.2.2
section IVs
variable {R : Nat → Prop} {k : Nat} {h h1 : mh_H} {fd : Nat × (Nat → Int32)} {td : Bool × Int32 × Int32 × Int32} {g : pgz} {cl : Nat → Option ab} {ip : Nat × (Nat → Int32)} {rz : rnz} {T : List Int32}
theorem fz_R (x : sdK R h h1) : fz (fun b _ => ¬ R b) h h1 := by
  obtain ⟨x1, x2, x3, x4⟩ := x
  refine ⟨x1, x3, fun b j hb w => ?_⟩
  obtain ⟨a1, a2, a3⟩ := x4 b (Classical.not_not.mp w)
  exact ⟨by rw [a1], by rw [a2], by rw [a3]⟩
theorem fz_C (x : sdK (fun b => ¬ R b ∧ b < mh_n h) h h1) : fz (fun b _ => R b) h h1 := by
  obtain ⟨x1, x2, x3, x4⟩ := x
  refine ⟨x1, x3, fun b j hb w => ?_⟩
  obtain ⟨a1, a2, a3⟩ := x4 b ⟨w, hb⟩
  exact ⟨by rw [a1], by rw [a2], by rw [a3]⟩
theorem wr_R (D : SDs R h) : WRf (fun b _ => ¬ R b) R h := WRf.of ⟨D.u, D.r, fun b j hb w => absurd hb w⟩
theorem wc_C (D : SDs R h) (hn : 2644 ≤ mh_n h) : WC (fun b _ => R b) (fun b => ¬ R b ∧ b < mh_n h) h := WC.of ⟨fun b hb => ⟨D.l b hb, by omega⟩, fun b j o hb e => ⟨D.c b j o hb.1 e, (D.d b j o e).2⟩, fun b j hb w => absurd w hb.1⟩
/-- the reference's side over a call of the class -/
theorem IRf_x (D : SDs R h) (x : sdK R h h1) (I : IRf h fd td g cl ip rz T) : IRf h1 fd td g cl ip rz T := by
  obtain ⟨ap, P⟩ := I.P
  have hn := RF_n P.b.Y.F
  have ii : ∀ b, 81 ≤ b → b < 2644 → mh_i h1 b = mh_i h b := fun b h1' h2' => (x.2.2.2 b (D.u b h1' h2')).1
  have i81 := ii 81 (by omega) (by omega)
  refine IRf.of ⟨⟨ap, RPg_r (fz_R x) (wr_R D) P⟩, by rw [i81, ii 82 (by omega) (by omega)]; exact I.f, by rw [i81, ii 115 (by omega) (by omega)]; exact I.t, by rw [i81, ii 2639 (by omega) (by omega)]; exact I.i, by rw [i81, ii 2640 (by omega) (by omega), ii 2641 (by omega) (by omega)]; exact I.r, by rw [i81, ii 2637 (by omega) (by omega)]; exact I.l⟩
theorem LNa_x {s0 l : Nat} (x : sdK (fun b => ¬ R b ∧ b < mh_n h) h h1) (D : SDs R h) (hn : 2644 ≤ mh_n h) (L : LNa h T s0 l) : LNa h1 T s0 l := by
  have k0 : ¬ R 0 ∧ 0 < mh_n h := ⟨D.l 0 (by omega), by omega⟩
  have kS : ¬ R s0 ∧ s0 < mh_n h := ⟨D.c 0 13 s0 k0.1 L.r, L.g.2⟩
  obtain ⟨a1, a2, a3⟩ := x.2.2.2 0 k0
  obtain ⟨b1, b2, b3⟩ := x.2.2.2 s0 kS
  obtain ⟨c1, c2⟩ := x.2.2.1 s0 L.g.2
  exact LNa.of ⟨by rw [a3]; exact L.r, ⟨c1.trans L.g.1, Nat.lt_of_lt_of_le L.g.2 x.1⟩, c2.trans L.l, L.b, L.s, L.n, by rw [a1]; exact L.e, by rw [b1]; exact L.t⟩
theorem CNm_x (x : sdK (fun b => ¬ R b ∧ b < mh_n h) h h1) (D : SDs R h) (hn : 2644 ≤ mh_n h) (w : CNm h g) : CNm h1 g := by
  have kz : ∀ b, b < 81 → ¬ R b ∧ b < mh_n h := fun b hb => ⟨D.l b hb, by omega⟩
  obtain ⟨TK, X, n, Bt, np, ap, w1, w2, w3⟩ := w
  have i30 := (x.2.2.2 30 (kz 30 (by omega))).1
  have r2 := (x.2.2.2 2 (kz 2 (by omega))).2.2
  have r0 := (x.2.2.2 0 (kz 0 (by omega))).2.2
  refine ⟨TK, X, n, Bt, np, ap, fun p hp h0 => ?_, by rw [i30]; exact w2, by rw [i30]; exact w3⟩
  obtain ⟨u1, u2, u3, u4⟩ := w1 p hp h0
  have kT : ¬ R TK ∧ TK < mh_n h := ⟨D.c 2 0 TK (kz 2 (by omega)).1 u1, u2.g.2⟩
  have kX : ¬ R X ∧ X < mh_n h := ⟨D.c TK 0 X kT.1 u2.r, u2.x⟩
  obtain ⟨a1, a2, a3⟩ := x.2.2.2 TK kT
  obtain ⟨b1, b2, b3⟩ := x.2.2.2 X kX
  obtain ⟨c1, c2⟩ := x.2.2.1 TK u2.g.2
  obtain ⟨d1, d2⟩ := x.2.2.1 X u2.x
  exact ⟨by rw [r2]; exact u1, ⟨⟨c1.trans u2.g.1, Nat.lt_of_lt_of_le u2.g.2 x.1⟩, by rw [a3]; exact u2.r, d1.trans u2.k, Nat.lt_of_lt_of_le u2.x x.1, d2.trans u2.l, u2.n, by rw [b1]; exact u2.b, u2.2.2.2.2.2.2.2⟩, u3, by rw [r0]; exact u4⟩
/-- the class's side over a call of the reference -/
theorem ICl_x (D : SDs R h) (x : sdK (fun b => ¬ R b ∧ b < mh_n h) h h1) (I : ICl h fd td g cl ip rz T) : ICl h1 fd td g cl ip rz T := by
  obtain ⟨Y, C, E, TT, UU, SC, SP, nC, nE, nS, pa, P⟩ := I.P
  have hn := P.B.N
  have f := fz_C x
  have kk := wc_C D hn
  have ii : ∀ b, b < 81 → mh_i h1 b = mh_i h b := fun b hb => (x.2.2.2 b ⟨D.l b hb, by omega⟩).1
  have i0 := ii 0 (by omega)
  have i53 := ii 53 (by omega)
  have i67 := ii 67 (by omega)
  obtain ⟨s0, l, L⟩ := I.l
  refine ICl.of ⟨⟨Y, C, E, TT, UU, SC, SP, nC, nE, nS, pa, CPg_f f kk P⟩, fun q hq => pv_f f kk hn P.B.S (by unfold isPl; omega) (I.k q hq), fun q hq => pv_f f kk hn P.B.S (by unfold isPl; omega) (I.c q hq), by rw [i0, ii 1 (by omega)]; exact I.f, by rw [i0, i53]; exact I.t, by rw [i53]; exact I.m, by rw [ii 55 (by omega)]; exact I.a, by rw [i0]; exact I.j, by rw [i67, ii 68 (by omega)]; exact I.i, by rw [i67, ii 69 (by omega), ii 70 (by omega), ii 71 (by omega)]; exact I.r, ⟨s0, l, LNa_x x D hn L⟩, CNm_x x D hn I.n⟩
end IVs
