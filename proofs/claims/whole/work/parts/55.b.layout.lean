set_option maxRecDepth 100000
/-! THE LAYOUT, pure: points of a program, or what is wrong first. A program: names alike, heads, places, parameters, statements, how many functions -/
abbrev lyD : Type := (Nat → Nat → Bool) × (Nat → Int32) × (Nat → Nat) × (Nat → cen) × (Nat → tr) × Nat × (Nat → Nat)
def lyD.sp (D : lyD) : Nat → Nat → Bool := D.1
def lyD.H (D : lyD) : Nat → Int32 := D.2.1
def lyD.P (D : lyD) : Nat → Nat := D.2.2.1
def lyD.FP (D : lyD) : Nat → cen := D.2.2.2.1
def lyD.FT (D : lyD) : Nat → tr := D.2.2.2.2.1
def lyD.c (D : lyD) : Nat := D.2.2.2.2.2.1
/-- where the BLOCK of a function stands in the reference's rows -/
def lyD.B (D : lyD) : Nat → Nat := D.2.2.2.2.2.2
/-- its first statement in the class's -/
def lyD.S (D : lyD) (g : Nat) : Nat := (D.H (6 * g + 3)).toNatClampNeg
/-- tokens of slots, sizes of arrays, by the names known -/
def zTk : cen → Nat → Nat
  | [], _ => 0
  | (a, z) :: r, x => if z = 0 ∧ cnZl r = x then a else zTk r x
def aTk : cen → Nat → Nat
  | [], _ => 0
  | (a, z) :: r, x => if ¬ z = 0 ∧ cnAl r = x then a else aTk r x
def aSz : cen → Nat → Nat
  | [], _ => 0
  | (_, z) :: r, x => if ¬ z = 0 ∧ cnAl r = x then z else aSz r x
/-- slots of callers (numbers, arrays), the function, where a return's value goes, the statement around; of callers' slots: tokens of numbers, of arrays, sizes -/
abbrev lcx : Type := Nat × Nat × Nat × Option Nat × Option Nat × (Nat → Nat) × (Nat → Nat) × (Nat → Nat)
def lcx.nb (X : lcx) : Nat := X.1
def lcx.na (X : lcx) : Nat := X.2.1
def lcx.fu (X : lcx) : Nat := X.2.2.1
def lcx.ta (X : lcx) : Option Nat := X.2.2.2.1
def lcx.ow (X : lcx) : Option Nat := X.2.2.2.2.1
def lcx.nS (X : lcx) : Nat → Nat := X.2.2.2.2.2.1
def lcx.aS (X : lcx) : Nat → Nat := X.2.2.2.2.2.2.1
def lcx.rS (X : lcx) : Nat → Nat := X.2.2.2.2.2.2.2
/-- tokens of all slots, sizes of all arrays -/
def lcx.nA (X : lcx) (L : cen) (x : Nat) : Nat := if x < X.nb then X.nS x else zTk L (x - X.nb)
def lcx.aA (X : lcx) (L : cen) (x : Nat) : Nat := if x < X.na then X.aS x else aTk L (x - X.na)
def lcx.rA (X : lcx) (L : cen) (x : Nat) : Nat := if x < X.na then X.rS x else aSz L (x - X.na)
/-- a point: node, what is below it, names known, its call, where its first BLOCK ends, where all of it ends, where the BLOCK around it ends; where its node stands, and that of its BLOCK; which statement -/
abbrev lpt : Type := Nat × tr × cen × lcx × Nat × Nat × Nat × Nat × Nat × Nat
def lpt.N (q : lpt) : Nat := q.1
def lpt.C (q : lpt) : tr := q.2.1
def lpt.L (q : lpt) : cen := q.2.2.1
def lpt.X (q : lpt) : lcx := q.2.2.2.1
def lpt.M (q : lpt) : Nat := q.2.2.2.2.1
def lpt.E (q : lpt) : Nat := q.2.2.2.2.2.1
def lpt.B (q : lpt) : Nat := q.2.2.2.2.2.2.1
def lpt.K (q : lpt) : Nat := q.2.2.2.2.2.2.2.1
def lpt.W (q : lpt) : Nat := q.2.2.2.2.2.2.2.2.1
def lpt.S (q : lpt) : Nat := q.2.2.2.2.2.2.2.2.2
/-- how many statements a row has, those in BLOCKs too -/
def stMd : tr → Nat → Nat
  | .leaf _, _ => 0
  | .branch n cs r, 0 => 1 + (if tK n = 8 ∨ tK n = 9 then stMd cs 1 else 0) + stMd r 0
  | .branch _ _ r, 1 => stMd r 2
  | .branch _ bs r, _ => stMd bs 0 + stMd r 2
def stLq (t : tr) : Nat := stMd t 0
def stS (n : Nat) (cs : tr) : Nat := stLq (.branch n cs (.leaf ()))
/-- in a call; in a BLOCK -/
def lyC (D : lyD) (X : lcx) (L : cen) (p g a : Nat) : lcx := (X.nb + cnZl L, X.na + cnAl L, g, if tK a = 13 then some (X.nb + lkN (loE D.sp L) (tV a)) else none, some p, X.nA L, X.aA L, X.rA L)
def lyB (X : lcx) (p : Nat) : lcx := (X.nb, X.na, X.fu, X.ta, some p, X.nS, X.aS, X.rS)
def wrM (D : lyD) (n : Nat) (cs : tr) (L : cen) (b : Nat) (rl : Bool) (X : lcx) : Nat × Nat := if tK n = 11 ∧ rl = true ∧ X.fu + 1 = D.c then (7, tP n) else wrS D.sp D.H X.fu L b rl n cs
def lyWc (D : lyD) (n : Nat) (t : tr) (L : cen) (X : lcx) : Option Nat → Nat × Nat
  | some g => if ¬ D.H (6 * g + 2) = -1 then (2, D.P (D.H (6 * g + 2)).toNatClampNeg) else if 12 < X.nb + cnZl L + tlc t then (10, tP n) else (0, 0)
  | none => (0, 0)
/-- what is wrong with a statement of its own -/
def lyW (D : lyD) (n : Nat) (cs : tr) (p : Nat) (L : cen) (b : Nat) (rl : Bool) (X : lcx) : Nat × Nat :=
  if p = 249 then (11, tP n)
  else if ¬ (wrM D n cs L b rl X).1 = 0 then wrM D n cs L b rl X
  else if tK n = 7 then (match cs with
    | .branch _ _ (.branch f _ t) => lyWc D n t L X (fmH D.sp D.H X.fu (tV f).toNat)
    | _ => (0, 0))
  else if tK n = 3 then (if X.nb + cnZl L = 12 then (10, tP n) else (0, 0))
  else if tK n = 4 then (if X.na + cnAl L = 6 then (13, tP n) else (0, 0))
  else (0, 0)
abbrev lyq : Type := (Nat × Nat) × Nat
def lyG (q : lyq) (k : Nat → lyq) : lyq := if q.1.1 = 0 then k q.2 else q
def lyUc (D : lyD) (rec : Bool → tr → Nat → cen → Nat → lcx → lyq) (p : Nat) (L : cen) (X : lcx) (a : Nat) : Option Nat → lyq
  | some g => rec true (D.FT g) (p + 1) (D.FP g) (D.FP g).length (lyC D X L p g a)
  | none => ((0, 0), p + 1)
def lyUq (rec : Bool → tr → Nat → cen → Nat → lcx → lyq) (p : Nat) (L : cen) (X : lcx) (q : tr) (m : Nat) : lyq := match q with
  | .branch _ bs2 _ => rec false bs2 m L 0 (lyB X p)
  | .leaf _ => ((0, 0), m)
def lyU (D : lyD) (rec : Bool → tr → Nat → cen → Nat → lcx → lyq) (n : Nat) (cs : tr) (p : Nat) (L : cen) (X : lcx) : lyq :=
  if tK n = 7 then (match cs with
    | .branch a _ (.branch f _ _) => lyUc D rec p L X a (fmH D.sp D.H X.fu (tV f).toNat)
    | _ => ((0, 0), p + 1))
  else if tK n = 8 then (match cs with
    | .branch _ _ (.branch _ bs q) => lyG (rec false bs (p + 1) L 0 (lyB X p)) (lyUq rec p L X q)
    | _ => ((0, 0), p + 1))
  else if tK n = 9 then (match cs with
    | .branch _ _ (.branch _ bs _) => rec false bs (p + 1) L 0 (lyB X p)
    | _ => ((0, 0), p + 1))
  else ((0, 0), p + 1)
/-- a row of statements from p on: what is wrong first, the point behind it -/
def lyQ (D : lyD) : Nat → Bool → tr → Nat → cen → Nat → lcx → lyq
  | _, _, .leaf _, p, _, _, _ => ((0, 0), p)
  | 0, _, .branch _ _ _, p, _, _, _ => ((0, 0), p)
  | f + 1, fb, .branch n cs r, p, L, b, X => lyG (lyW D n cs p L b (fb && decide (ts r = 0)) X, p) fun _ => lyG (lyU D (lyQ D f) n cs p L X) fun e => lyQ D f fb r e (nxE n cs L) (b + ((nxE n cs L).length - L.length)) X
def LYN (D : lyD) (Pt : Nat → lpt) (rec : Bool → tr → Nat → Nat → Nat → Nat → Nat → cen → Nat → lcx → Prop) (n : Nat) (cs : tr) (k s p : Nat) (L : cen) (X : lcx) : Prop :=
  (tK n = 7 ∧ ∃ a ff t g, cs = .branch a (.leaf ()) (.branch ff (.leaf ()) t) ∧ fmH D.sp D.H X.fu (tV ff).toNat = some g ∧ g < X.fu ∧ rec true (D.FT g) (D.B g + 1) (D.B g) (D.S g) (p + 1) (Pt p).E (D.FP g) (D.FP g).length (lyC D X L p g a)) ∨
  (tK n = 8 ∧ ∃ c cc b1 bs1 q, cs = .branch c cc (.branch b1 bs1 q) ∧ p < (Pt p).M ∧ (Pt p).M ≤ (Pt p).E ∧ rec false bs1 (k + 3 + ts cc) (k + 2 + ts cc) (s + 1) (p + 1) (Pt p).M L 0 (lyB X p) ∧ ((q = .leaf () ∧ (Pt p).M = (Pt p).E) ∨ ∃ b2 bs2, q = .branch b2 bs2 (.leaf ()) ∧ rec false bs2 (k + 4 + ts cc + ts bs1) (k + 3 + ts cc + ts bs1) (s + 1 + stLq bs1) (Pt p).M (Pt p).E L 0 (lyB X p))) ∨
  (tK n = 9 ∧ ∃ c cc b1 bs1, cs = .branch c cc (.branch b1 bs1 (.leaf ())) ∧ rec false bs1 (k + 3 + ts cc) (k + 2 + ts cc) (s + 1) (p + 1) (Pt p).E L 0 (lyB X p)) ∨
  (tK n ≠ 7 ∧ tK n ≠ 8 ∧ tK n ≠ 9 ∧ (Pt p).E = p + 1)
/-- a row of statements lies from p to e -/
def LYR (D : lyD) (Pt : Nat → lpt) : Nat → Bool → tr → Nat → Nat → Nat → Nat → Nat → cen → Nat → lcx → Prop
  | _, _, .leaf _, _, _, _, p, e, _, _, _ => p = e
  | 0, _, .branch _ _ _, _, _, _, _, _, _, _, _ => False
  | f + 1, fb, .branch n cs r, k, w, s, p, e, L, b, X => (p < e ∧ e ≤ 249) ∧ ((Pt p).N = n ∧ (Pt p).C = cs ∧ (Pt p).L = L ∧ (Pt p).X = X ∧ (Pt p).B = e ∧ (Pt p).K = k ∧ (Pt p).W = w ∧ (Pt p).S = s) ∧ (p < (Pt p).E ∧ (Pt p).E ≤ e) ∧ lyW D n cs p L b (fb && decide (ts r = 0)) X = (0, 0) ∧ LYN D Pt (LYR D Pt f) n cs k s p L X ∧ LYR D Pt f fb r (k + 1 + ts cs) w (s + stS n cs) (Pt p).E e (nxE n cs L) (b + ((nxE n cs L).length - L.length)) X
section LYs
variable {D : lyD} {Pt Pt' : Nat → lpt} {sp : Nat → Nat → Bool} {H : Nat → Int32} {s : cps}
theorem LYN_c {rec rec' : Bool → tr → Nat → Nat → Nat → Nat → Nat → cen → Nat → lcx → Prop} {n : Nat} {cs : tr} {k0 s0 p e : Nat} {L : cen} {X : lcx} (hp : Pt' p = Pt p) (hE : (Pt p).E ≤ e) (h : ∀ fb t u v z x y L b X, p < x → y ≤ (Pt p).E → rec fb t u v z x y L b X → rec' fb t u v z x y L b X) (w : LYN D Pt rec n cs k0 s0 p L X) : LYN D Pt' rec' n cs k0 s0 p L X := by
  unfold LYN at w ⊢
  rw [hp]
  rcases w with ⟨k, a, ff, t, g, w1, w2, w3, w4⟩ | ⟨k, c, cc, b1, bs1, q, w1, w2, w3, w4, w5⟩ | ⟨k, c, cc, b1, bs1, w1, w2⟩ | w
  · exact Or.inl ⟨k, a, ff, t, g, w1, w2, w3, h _ _ _ _ _ _ _ _ _ _ (by omega) (Nat.le_refl _) w4⟩
  · refine Or.inr (Or.inl ⟨k, c, cc, b1, bs1, q, w1, w2, w3, h _ _ _ _ _ _ _ _ _ _ (by omega) w3 w4, ?_⟩)
    rcases w5 with w5 | ⟨b2, bs2, w5, w6⟩
    · exact Or.inl w5
    · exact Or.inr ⟨b2, bs2, w5, h _ _ _ _ _ _ _ _ _ _ w2 (Nat.le_refl _) w6⟩
  · exact Or.inr (Or.inr (Or.inl ⟨k, c, cc, b1, bs1, w1, h _ _ _ _ _ _ _ _ _ _ (by omega) (Nat.le_refl _) w2⟩))
  · exact Or.inr (Or.inr (Or.inr w))
/-- it speaks of the points of the row alone -/
theorem LYR_c : ∀ f fb t k0 w0 s0 p e L b X, (∀ q, p ≤ q → q < e → Pt' q = Pt q) → LYR D Pt f fb t k0 w0 s0 p e L b X → LYR D Pt' f fb t k0 w0 s0 p e L b X := by
  intro f
  induction f with
  | zero =>
    intro fb t k0 w0 s0 p e L b X h w
    cases t with
    | leaf _ => exact w
    | branch n cs r => exact w
  | succ f ih =>
    intro fb t k0 w0 s0 p e L b X h w
    cases t with
    | leaf _ => exact w
    | branch n cs r =>
      obtain ⟨⟨w1, w1'⟩, w2, ⟨w3, w4⟩, w5, w6, w7⟩ := w
      have hp := h p (Nat.le_refl _) w1
      show (p < e ∧ e ≤ 249) ∧ ((Pt' p).N = n ∧ (Pt' p).C = cs ∧ (Pt' p).L = L ∧ (Pt' p).X = X ∧ (Pt' p).B = e ∧ (Pt' p).K = k0 ∧ (Pt' p).W = w0 ∧ (Pt' p).S = s0) ∧ (p < (Pt' p).E ∧ (Pt' p).E ≤ e) ∧ lyW D n cs p L b (fb && decide (ts r = 0)) X = (0, 0) ∧ LYN D Pt' (LYR D Pt' f) n cs k0 s0 p L X ∧ LYR D Pt' f fb r (k0 + 1 + ts cs) w0 (s0 + stS n cs) (Pt' p).E e (nxE n cs L) (b + ((nxE n cs L).length - L.length)) X
      rw [hp]
      exact ⟨⟨w1, w1'⟩, w2, ⟨w3, w4⟩, w5, LYN_c hp w4 (fun fb t u v y x yy L b X h1 h2 z => ih fb t u v y x yy L b X (fun q q1 q2 => h q (by omega) (by omega)) z) w6, ih _ _ _ _ _ _ _ _ _ _ (fun q q1 q2 => h q (by omega) q2) w7⟩
theorem wrC_g0 {lo : lkt} {nf a f : Nat} {t : tr} (h : (wrC sp H nf lo a f t).1 = 0) : ∃ g, fmH sp H nf (tV f).toNat = some g := by
  cases e : fmH sp H nf (tV f).toNat with
  | some g => exact ⟨g, rfl⟩
  | none =>
    exfalso
    unfold wrC at h
    rw [e] at h
    have key : ¬ (fw (if tK a = 13 then (lkW lo (tV a) false, tP a) else (0, 0)) (if (none : Option Nat) = none then (4, tP f) else (0, 0))).1 = 0 := by
      rw [if_pos rfl]
      unfold fw
      by_cases c : (if tK a = 13 then (lkW lo (tV a) false, tP a) else (0, 0)).1 = 0
      · rw [if_pos c]; show ¬ 4 = 0; decide
      · rw [if_neg c]; exact c
    rw [if_neg key] at h
    exact key h
theorem lyW_0 {n : Nat} {cs : tr} {p : Nat} {L : cen} {b : Nat} {rl : Bool} {X : lcx} (h : (lyW D n cs p L b rl X).1 = 0) : p ≠ 249 ∧ (wrM D n cs L b rl X).1 = 0 := by
  unfold lyW at h
  by_cases c1 : p = 249
  · rw [if_pos c1] at h; exact absurd h (by show ¬ 11 = 0; decide)
  · rw [if_neg c1] at h
    refine ⟨c1, ?_⟩
    by_cases c2 : (wrM D n cs L b rl X).1 = 0
    · exact c2
    · rw [if_pos c2] at h; exact h
/-- what is wrong has a place only with a number -/
theorem lyW_z {n : Nat} {cs : tr} {p : Nat} {L : cen} {b : Nat} {rl : Bool} {X : lcx} (h : (lyW D n cs p L b rl X).1 = 0) : lyW D n cs p L b rl X = (0, 0) := by
  obtain ⟨h1, h2⟩ := lyW_0 h
  unfold lyW at h ⊢
  rw [if_neg h1] at h ⊢
  rw [if_neg (fun z => z h2)] at h ⊢
  by_cases c7 : tK n = 7
  · rw [if_pos c7] at h ⊢
    rcases cs with _ | ⟨a, _, _ | ⟨f, _, t⟩⟩
    · rfl
    · rfl
    · have h' : (lyWc D n t L X (fmH D.sp D.H X.fu (tV f).toNat)).1 = 0 := h
      show lyWc D n t L X (fmH D.sp D.H X.fu (tV f).toNat) = (0, 0)
      generalize fmH D.sp D.H X.fu (tV f).toNat = o at h' ⊢
      cases o with
      | none => rfl
      | some g =>
        have h2' : (if ¬ D.H (6 * g + 2) = -1 then (2, D.P (D.H (6 * g + 2)).toNatClampNeg) else if 12 < X.nb + cnZl L + tlc t then (10, tP n) else (0, 0)).1 = 0 := h'
        show (if ¬ D.H (6 * g + 2) = -1 then (2, D.P (D.H (6 * g + 2)).toNatClampNeg) else if 12 < X.nb + cnZl L + tlc t then (10, tP n) else (0, 0)) = (0, 0)
        by_cases d1 : ¬ D.H (6 * g + 2) = -1
        · rw [if_pos d1] at h2'; exact absurd h2' (by show ¬ 2 = 0; decide)
        · rw [if_neg d1] at h2' ⊢
          by_cases d2 : 12 < X.nb + cnZl L + tlc t
          · rw [if_pos d2] at h2'; exact absurd h2' (by show ¬ 10 = 0; decide)
          · rw [if_neg d2]
  · rw [if_neg c7] at h ⊢
    by_cases c3 : tK n = 3
    · rw [if_pos c3] at h ⊢
      by_cases d1 : X.nb + cnZl L = 12
      · rw [if_pos d1] at h; exact absurd h (by show ¬ 10 = 0; decide)
      · rw [if_neg d1]
    · rw [if_neg c3] at h ⊢
      by_cases c4 : tK n = 4
      · rw [if_pos c4] at h ⊢
        by_cases d1 : X.na + cnAl L = 6
        · rw [if_pos d1] at h; exact absurd h (by show ¬ 13 = 0; decide)
        · rw [if_neg d1]
      · rw [if_neg c4]
def rkF (D : lyD) : Nat → Nat
  | 0 => 0
  | g + 1 => rkF D g + ts (D.FT g) + 1
theorem rkF_le : ∀ g h, g ≤ h → rkF D g ≤ rkF D h := by
  intro g h
  induction h with
  | zero => intro e; rw [show g = 0 from by omega]; exact Nat.le_refl _
  | succ h ih =>
    intro e
    by_cases c : g = h + 1
    · rw [c]; exact Nat.le_refl _
    · show rkF D g ≤ rkF D h + ts (D.FT h) + 1
      have := ih (by omega)
      omega
def glu (P1 P2 : Nat → lpt) (x : Nat) : Nat → lpt := fun q => if q < x then P1 q else P2 q
theorem lyG_0 {q : lyq} {k : Nat → lyq} (h : (lyG q k).1.1 = 0) : q.1.1 = 0 ∧ lyG q k = k q.2 := by
  unfold lyG at h ⊢
  by_cases c : q.1.1 = 0
  · rw [if_pos c] at h ⊢; exact ⟨c, rfl⟩
  · rw [if_neg c] at h; exact absurd h c
theorem stLq_p {n : Nat} {cs r : tr} (h8 : tK n ≠ 8) (h9 : tK n ≠ 9) : stLq (.branch n cs r) = 1 + stLq r := by
  show 1 + (if tK n = 8 ∨ tK n = 9 then stMd cs 1 else 0) + stMd r 0 = 1 + stMd r 0
  rw [if_neg (by omega)]
theorem stLq_8 {n c b1 b2 : Nat} {cc bs1 bs2 r : tr} {u : Unit} (h8 : tK n = 8) : stLq (.branch n (.branch c cc (.branch b1 bs1 (.branch b2 bs2 (.leaf u)))) r) = 1 + stLq bs1 + stLq bs2 + stLq r := by
  show 1 + (if tK n = 8 ∨ tK n = 9 then stMd bs1 0 + (stMd bs2 0 + 0) else 0) + stMd r 0 = 1 + stMd bs1 0 + stMd bs2 0 + stMd r 0
  rw [if_pos (Or.inl h8)]
  omega
theorem stLq_8l {n c b1 : Nat} {cc bs1 r : tr} {u : Unit} (h8 : tK n = 8) : stLq (.branch n (.branch c cc (.branch b1 bs1 (.leaf u))) r) = 1 + stLq bs1 + stLq r := by
  show 1 + (if tK n = 8 ∨ tK n = 9 then stMd bs1 0 + 0 else 0) + stMd r 0 = 1 + stMd bs1 0 + stMd r 0
  rw [if_pos (Or.inl h8)]
  omega
theorem stLq_9 {n c b1 : Nat} {cc bs1 r : tr} {u : Unit} (h9 : tK n = 9) : stLq (.branch n (.branch c cc (.branch b1 bs1 (.leaf u))) r) = 1 + stLq bs1 + stLq r := by
  show 1 + (if tK n = 8 ∨ tK n = 9 then stMd bs1 0 + 0 else 0) + stMd r 0 = 1 + stMd bs1 0 + stMd r 0
  rw [if_pos (Or.inr h9)]
  omega
theorem stLq_S {n : Nat} {cs r : tr} : stLq (.branch n cs r) = stS n cs + stLq r := by
  show 1 + (if tK n = 8 ∨ tK n = 9 then stMd cs 1 else 0) + stMd r 0 = 1 + (if tK n = 8 ∨ tK n = 9 then stMd cs 1 else 0) + 0 + stMd r 0
  omega
/-- where a row of statements ends -/
theorem stR_L {nf : Nat} : ∀ N fb t k k' L b, stR sp s nf N fb t k k' L b → k' = k + stLq t := by
  intro N
  induction N with
  | zero =>
    intro fb t k k' L b w
    cases t with
    | leaf _ => exact w
    | branch n cs r => exact absurd w (fun z => z)
  | succ N ih =>
    intro fb t k k' L b w
    cases t with
    | leaf _ => exact w
    | branch n cs r =>
      obtain ⟨k1, w1, w2⟩ := w
      have e2 := ih _ _ _ _ _ _ w2
      rw [stLq_S]
      have e1 : k1 = k + stS n cs := by
        obtain ⟨-, w1⟩ := w1
        have pl : tK n ≠ 8 → tK n ≠ 9 → k1 = k + 1 → k1 = k + stS n cs := fun a b c => by
          unfold stS
          rw [stLq_p a b]
          exact c
        rcases w1 with ⟨kk, a, t, -, e, -⟩ | ⟨kk, a, q, -, e, -⟩ | ⟨kk, a, t, x, -, e, -⟩ | ⟨kk, a, t, x, -, e, -⟩ | ⟨kk, a, ff, t, x, -, e, -⟩ | ⟨kk, c, cc, b1, bs1, q, k2, c0, c1, ec, -, -, -, -, -, -, r1, r2⟩ | ⟨kk, c, cc, b1, bs1, c0, c1, ec, -, -, -, -, -, r1⟩ | ⟨kk, c0, c1, e, -⟩ | ⟨kk, x, e, -⟩
        · exact pl (by omega) (by omega) e
        · exact pl (by omega) (by omega) e
        · exact pl (by omega) (by omega) e
        · exact pl (by omega) (by omega) e
        · exact pl (by omega) (by omega) e
        · have i1 := ih _ _ _ _ _ _ r1
          subst ec
          unfold stS
          rcases r2 with ⟨eq, ek⟩ | ⟨b2, bs2, eq, r2⟩
          · subst eq
            rw [stLq_8l kk]
            show k1 = k + (1 + stLq bs1 + 0)
            omega
          · have i2 := ih _ _ _ _ _ _ r2
            subst eq
            rw [stLq_8 kk]
            show k1 = k + (1 + stLq bs1 + stLq bs2 + 0)
            omega
        · have i1 := ih _ _ _ _ _ _ r1
          subst ec
          unfold stS
          rw [stLq_9 kk]
          show k1 = k + (1 + stLq bs1 + 0)
          omega
        · exact pl (by omega) (by omega) e
        · exact pl (by omega) (by omega) e
      omega
/-- where nothing is wrong, points lie -/
theorem LY_ex {N : Nat} (hs : D.sp = sp) (hH : D.H = s.2 15) (ST : ∀ g, g < D.c → ∃ k', stR sp s g N true (D.FT g) (D.S g) k' (D.FP g) (D.FP g).length) : ∀ f fb t p L b X N' k k' kn wn, stR sp s X.fu N' fb t k k' L b → X.fu < D.c → ts t + rkF D X.fu ≤ f → p ≤ 249 → (lyQ D f fb t p L b X).1.1 = 0 → p ≤ (lyQ D f fb t p L b X).2 ∧ (lyQ D f fb t p L b X).2 ≤ 249 ∧ ∃ Pt, LYR D Pt f fb t kn wn k p (lyQ D f fb t p L b X).2 L b X := by
  intro f
  induction f with
  | zero =>
    intro fb t p L b X N' k k' kn wn S hX hf hp h
    cases t with
    | leaf _ => exact ⟨Nat.le_refl _, hp, fun _ => (0, .leaf (), [], (0, 0, 0, none, none, id, id, id), 0, 0, 0, 0, 0, 0), rfl⟩
    | branch n cs r => rw [ts_B] at hf; omega
  | succ f ih =>
    intro fb t p L b X N' k k' kn wn S hX hf hp h
    cases t with
    | leaf _ => exact ⟨Nat.le_refl _, hp, fun _ => (0, .leaf (), [], (0, 0, 0, none, none, id, id, id), 0, 0, 0, 0, 0, 0), rfl⟩
    | branch n cs r =>
      rw [ts_B] at hf
      have e0 : lyQ D (f + 1) fb (.branch n cs r) p L b X = lyG (lyW D n cs p L b (fb && decide (ts r = 0)) X, p) fun _ => lyG (lyU D (lyQ D f) n cs p L X) fun e => lyQ D f fb r e (nxE n cs L) (b + ((nxE n cs L).length - L.length)) X := rfl
      rw [e0] at h ⊢
      obtain ⟨h1, e1⟩ := lyG_0 h
      rw [e1] at h ⊢
      obtain ⟨h2, e2⟩ := lyG_0 h
      rw [e2] at h ⊢
      have hw := lyW_z h1
      obtain ⟨p249, wm⟩ := lyW_0 h1
      cases N' with
      | zero => exact absurd S (fun z => z)
      | succ N' =>
      have hk1 := stR_L (N' + 1) _ _ _ _ _ _ S
      obtain ⟨k1, S1, S2⟩ := S
      have hk2 := stR_L _ _ _ _ _ _ _ S2
      have hk : k1 = k + stS n cs := by rw [stLq_S] at hk1; omega
      clear hk1 hk2
      -- below it
      have sub : p < (lyU D (lyQ D f) n cs p L X).2 ∧ (lyU D (lyQ D f) n cs p L X).2 ≤ 249 ∧ ∃ (Pt : Nat → lpt) (m : Nat), ∀ Pt' : Nat → lpt, (∀ q, p < q → q < (lyU D (lyQ D f) n cs p L X).2 → Pt' q = Pt q) → (Pt' p).E = (lyU D (lyQ D f) n cs p L X).2 → (Pt' p).M = m → LYN D Pt' (LYR D Pt' f) n cs kn k p L X := by
        obtain ⟨-, S1⟩ := S1
        have pl : ∀ w : lyq, lyU D (lyQ D f) n cs p L X = ((0, 0), p + 1) → tK n ≠ 7 → tK n ≠ 8 → tK n ≠ 9 → p < (lyU D (lyQ D f) n cs p L X).2 ∧ (lyU D (lyQ D f) n cs p L X).2 ≤ 249 ∧ ∃ (Pt : Nat → lpt) (m : Nat), ∀ Pt' : Nat → lpt, (∀ q, p < q → q < (lyU D (lyQ D f) n cs p L X).2 → Pt' q = Pt q) → (Pt' p).E = (lyU D (lyQ D f) n cs p L X).2 → (Pt' p).M = m → LYN D Pt' (LYR D Pt' f) n cs kn k p L X := fun _ e n7 n8 n9 => by
          rw [e]
          exact ⟨by show p < p + 1; omega, by show p + 1 ≤ 249; omega, fun _ => (0, .leaf (), [], (0, 0, 0, none, none, id, id, id), 0, 0, 0, 0, 0, 0), 0, fun Pt' _ eE _ => Or.inr (Or.inr (Or.inr ⟨n7, n8, n9, eE⟩))⟩
        have simp1 : tK n ≠ 7 → tK n ≠ 8 → tK n ≠ 9 → lyU D (lyQ D f) n cs p L X = ((0, 0), p + 1) := fun n7 n8 n9 => by
          unfold lyU
          rw [if_neg n7, if_neg n8, if_neg n9]
        rcases S1 with ⟨kk, -⟩ | ⟨kk, -⟩ | ⟨kk, -⟩ | ⟨kk, -⟩ | ⟨kk, a, ff, t, x, ec, -⟩ | ⟨kk, c, cc, b1, bs1, q, k2, c0, c1, ec, -, -, -, -, -, -, r1, r2⟩ | ⟨kk, c, cc, b1, bs1, c0, c1, ec, -, -, -, -, -, r1⟩ | ⟨kk, -⟩ | ⟨kk, -⟩
        · exact pl ((0, 0), 0) (simp1 (by omega) (by omega) (by omega)) (by omega) (by omega) (by omega)
        · exact pl ((0, 0), 0) (simp1 (by omega) (by omega) (by omega)) (by omega) (by omega) (by omega)
        · exact pl ((0, 0), 0) (simp1 (by omega) (by omega) (by omega)) (by omega) (by omega) (by omega)
        · exact pl ((0, 0), 0) (simp1 (by omega) (by omega) (by omega)) (by omega) (by omega) (by omega)
        · subst ec
          have wr : wrM D n (.branch a (.leaf ()) (.branch ff (.leaf ()) t)) L b (fb && decide (ts r = 0)) X = wrC D.sp D.H X.fu (loE D.sp L) a ff t := by
            unfold wrM wrS
            rw [if_neg (fun z => by omega), if_neg (by omega), if_neg (by omega), if_neg (by omega), if_pos kk]
          rw [wr] at wm
          obtain ⟨g, hg⟩ := wrC_g0 wm
          have gX : g < X.fu := (fsr_b _ _ hg).1
          have eU : lyU D (lyQ D f) n (.branch a (.leaf ()) (.branch ff (.leaf ()) t)) p L X = lyQ D f true (D.FT g) (p + 1) (D.FP g) (D.FP g).length (lyC D X L p g a) := by
            unfold lyU
            rw [if_pos kk]
            show lyUc D (lyQ D f) p L X a (fmH D.sp D.H X.fu (tV ff).toNat) = _
            rw [hg]
            rfl
          rw [eU] at h2 ⊢
          obtain ⟨kg', Sg⟩ := ST g (by omega)
          have rk := rkF_le (D := D) (g + 1) X.fu gX
          have rk' : rkF D (g + 1) = rkF D g + ts (D.FT g) + 1 := rfl
          obtain ⟨i1, i2, Pg, i3⟩ := ih true (D.FT g) (p + 1) (D.FP g) (D.FP g).length (lyC D X L p g a) N (D.S g) kg' (D.B g + 1) (D.B g) Sg (by show g < D.c; omega) (by show ts (D.FT g) + rkF D g ≤ f; omega) (by omega) h2
          refine ⟨by omega, i2, Pg, 0, fun Pt' e1 e2 e3 => Or.inl ⟨kk, a, ff, t, g, rfl, hg, gX, ?_⟩⟩
          rw [e2]
          exact LYR_c _ _ _ _ _ _ _ _ _ _ _ (fun q q1 q2 => e1 q (by omega) q2) i3
        · subst ec
          rw [ts_B, ts_B] at hf
          have eU : lyU D (lyQ D f) n (.branch c cc (.branch b1 bs1 q)) p L X = lyG (lyQ D f false bs1 (p + 1) L 0 (lyB X p)) (lyUq (lyQ D f) p L X q) := by
            unfold lyU
            rw [if_neg (by omega), if_pos kk]
          rw [eU] at h2 ⊢
          obtain ⟨y1, y2⟩ := lyG_0 h2
          rw [y2] at h2 ⊢
          obtain ⟨i1, i2, P1, i3⟩ := ih false bs1 (p + 1) L 0 (lyB X p) N' (k + 1) k2 (kn + 3 + ts cc) (kn + 2 + ts cc) r1 hX (by show ts bs1 + rkF D X.fu ≤ f; omega) (by omega) y1
          generalize (lyQ D f false bs1 (p + 1) L 0 (lyB X p)).2 = m at h2 i1 i2 i3 ⊢
          rcases r2 with ⟨eq, ek⟩ | ⟨b2, bs2, eq, r2⟩
          · subst eq
            show p < m ∧ m ≤ 249 ∧ _
            refine ⟨by omega, i2, P1, m, fun Pt' e1 e2 e3 => Or.inr (Or.inl ⟨kk, c, cc, b1, bs1, _, rfl, by rw [e3]; omega, by rw [e3, e2]; exact Nat.le_refl _, ?_, Or.inl ⟨rfl, by rw [e3, e2]; rfl⟩⟩)⟩
            rw [e3]
            exact LYR_c _ _ _ _ _ _ _ _ _ _ _ (fun q q1 q2 => e1 q (by omega) q2) i3
          · subst eq
            rw [ts_B] at hf
            have h2' : (lyQ D f false bs2 m L 0 (lyB X p)).1.1 = 0 := h2
            obtain ⟨j1, j2, P2, j3⟩ := ih false bs2 m L 0 (lyB X p) N' k2 k1 (kn + 4 + ts cc + ts bs1) (kn + 3 + ts cc + ts bs1) r2 hX (by show ts bs2 + rkF D X.fu ≤ f; omega) i2 h2'
            show p < (lyQ D f false bs2 m L 0 (lyB X p)).2 ∧ (lyQ D f false bs2 m L 0 (lyB X p)).2 ≤ 249 ∧ _
            refine ⟨by omega, j2, glu P1 P2 m, m, fun Pt' e1 e2 e3 => Or.inr (Or.inl ⟨kk, c, cc, b1, bs1, _, rfl, by rw [e3]; omega, by rw [e3, e2]; exact j1, ?_, Or.inr ⟨b2, bs2, rfl, ?_⟩⟩)⟩
            · rw [e3]
              exact LYR_c _ _ _ _ _ _ _ _ _ _ _ (fun q q1 q2 => by rw [e1 q (by omega) (by show q < (lyQ D f false bs2 m L 0 (lyB X p)).2; omega)]; exact if_pos q2) i3
            · rw [e3, e2, ← stR_L _ _ _ _ _ _ _ r1]
              exact LYR_c _ _ _ _ _ _ _ _ _ _ _ (fun q q1 q2 => by rw [e1 q (by omega) q2]; exact if_neg (by omega)) j3
        · subst ec
          rw [ts_B, ts_B] at hf
          have eU : lyU D (lyQ D f) n (.branch c cc (.branch b1 bs1 (.leaf ()))) p L X = lyQ D f false bs1 (p + 1) L 0 (lyB X p) := by
            unfold lyU
            rw [if_neg (by omega), if_neg (by omega), if_pos kk]
          rw [eU] at h2 ⊢
          obtain ⟨i1, i2, P1, i3⟩ := ih false bs1 (p + 1) L 0 (lyB X p) N' (k + 1) k1 (kn + 3 + ts cc) (kn + 2 + ts cc) r1 hX (by show ts bs1 + rkF D X.fu ≤ f; omega) (by omega) h2
          refine ⟨by omega, i2, P1, 0, fun Pt' e1 e2 e3 => Or.inr (Or.inr (Or.inl ⟨kk, c, cc, b1, bs1, rfl, ?_⟩))⟩
          rw [e2]
          exact LYR_c _ _ _ _ _ _ _ _ _ _ _ (fun q q1 q2 => e1 q (by omega) q2) i3
        · exact pl ((0, 0), 0) (simp1 (by omega) (by omega) (by omega)) (by omega) (by omega) (by omega)
        · exact pl ((0, 0), 0) (simp1 (by omega) (by omega) (by omega)) (by omega) (by omega) (by omega)
      obtain ⟨s1, s2, P1, m, s3⟩ := sub
      clear S1
      generalize (lyU D (lyQ D f) n cs p L X).2 = e at s1 s2 s3 h ⊢
      obtain ⟨i1, i2, P2, i3⟩ := ih fb r e (nxE n cs L) (b + ((nxE n cs L).length - L.length)) X N' k1 k' (kn + 1 + ts cs) wn S2 hX (by omega) s2 h
      generalize (lyQ D f fb r e (nxE n cs L) (b + ((nxE n cs L).length - L.length)) X).2 = e' at i1 i2 i3 ⊢
      refine ⟨by omega, i2, glu (fun q => if q = p then (n, cs, L, X, m, e, e', kn, wn, k) else P1 q) P2 e, ?_⟩
      have at_p : glu (fun q => if q = p then (n, cs, L, X, m, e, e', kn, wn, k) else P1 q) P2 e p = (n, cs, L, X, m, e, e', kn, wn, k) := by
        show (if p < e then (if p = p then (n, cs, L, X, m, e, e', kn, wn, k) else P1 p) else P2 p) = _
        rw [if_pos s1, if_pos rfl]
      have EE : (glu (fun q => if q = p then (n, cs, L, X, m, e, e', kn, wn, k) else P1 q) P2 e p).E = e := by rw [at_p]; rfl
      show (p < e' ∧ e' ≤ 249) ∧ _ ∧ _ ∧ lyW D n cs p L b (fb && decide (ts r = 0)) X = (0, 0) ∧ _ ∧ _
      refine ⟨⟨by omega, i2⟩, by rw [at_p]; exact ⟨rfl, rfl, rfl, rfl, rfl, rfl, rfl, rfl⟩, by rw [EE]; exact ⟨s1, i1⟩, hw, s3 _ (fun q q1 q2 => ?_) EE (by rw [at_p]; rfl), ?_⟩
      · show (if q < e then (if q = p then (n, cs, L, X, m, e, e', kn, wn, k) else P1 q) else P2 q) = _
        rw [if_pos q2, if_neg (by omega)]
      · rw [EE, ← hk]
        exact LYR_c _ _ _ _ _ _ _ _ _ _ _ (fun q q1 q2 => if_neg (by omega)) i3
end LYs
