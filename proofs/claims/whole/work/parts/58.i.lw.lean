set_option maxRecDepth 100000
/-! THE LAYOUT GIVES LW: what the reference's analysis needs -/
def jC (n : Nat) (cs : tr) : Nat := if tK n = 3 then (if ts (tT cs) = 0 then 2 else 1) else if tK n = 4 then 3 else if tK n = 5 then 4 else if tK n = 6 then 5 else if tK n = 7 then 6 else if tK n = 8 ∨ tK n = 9 then 7 else if tK n = 10 then 8 else 9
def jT (n : Nat) (cs : tr) : tr := if tK n = 3 ∨ tK n = 5 ∨ tK n = 6 then tT cs else if tK n = 7 then tT (tT cs) else cs
def jE (sp : Nat → Nat → Bool) (NL : List Nat) (Pt : Nat → lpt) (E0 : nv) (q : Nat) : nv := addC sp NL (bsF sp NL Pt E0 250 (Pt q).X) (Pt q).L
def pJ (sp : Nat → Nat → Bool) (NL : List Nat) (Pt : Nat → lpt) (E0 : nv) : pin := (fun q => jC (Pt q).N (Pt q).C, fun q => jT (Pt q).N (rn sp NL (Pt q).C), fun q => (jE sp NL Pt E0 q).en, fun q => (jE sp NL Pt E0 q).sN, fun q => if tK (Pt q).N = 5 ∨ tK (Pt q).N = 6 then (jE sp NL Pt E0 q).en (nmI sp NL (tV (hd1 (Pt q).C)).toNat) else 0, fun q => if tK (Pt q).N = 4 then (tV (hd1 (tT (Pt q).C))).toNat else 0, fun q => (Pt q).X.ta)
noncomputable def pgG (sp : Nat → Nat → Bool) (NL : List Nat) (Pt : Nat → lpt) (E0 : nv) (e : Nat) : pgm := (fun q => if q < e then skN (Pt q).N else 0, fun q => (Pt q).M, fun q => (Pt q).E, fun q => if q < e then (Pt q).X.nb + cnZl (Pt q).L else 0, fun q => if q < e then (Pt q).X.na + cnAl (Pt q).L else 0, fun q => if tK (Pt q).N = 8 ∨ tK (Pt q).N = 9 then cn3 (rn sp NL (Pt q).C) else if tK (Pt q).N = 10 then 2 + cn3 (rn sp NL (Pt q).C) else 1, fun q => (Pt q).X.rA (Pt q).L, fxJ (pJ sp NL Pt E0))
def pD (sp : Nat → Nat → Bool) (NL : List Nat) (D : lyD) (FK : Nat → Nat) : fd := (D.c, FK, fun g => nmI sp NL (D.H (6 * g)).toNatClampNeg, fun g => ((D.FP g).reverse).map fun x => nmI sp NL x.1, fun g => rn sp NL (D.FT g))
/-- the program is in order -/
def PGH (sp : Nat → Nat → Bool) (NL : List Nat) (D : lyD) : Prop := (∀ a v, nix sp NL a < NL.length → (nix sp NL a = nix sp NL v ↔ sp a v = true)) ∧ (D.sp = sp) ∧ (∀ g, g < D.c → (gbM (D.FT g) 0 ∧ syT (D.FT g) ∧ nmK (fun a => nix sp NL a < NL.length) (D.FT g) ∧ ts (D.FT g) ≤ 26000) ∧ LIV sp NL (D.FP g) ∧ (∀ a z, (a, z) ∈ D.FP g → z = 0) ∧ D.H (6 * g + 1) = Int32.ofNat (D.FP g).length ∧ (D.FP g).length < 50000 ∧ nix sp NL (D.H (6 * g)).toNatClampNeg < NL.length)
theorem PGH.of {sp : Nat → Nat → Bool} {NL : List Nat} {D : lyD} (q : (∀ a v, nix sp NL a < NL.length → (nix sp NL a = nix sp NL v ↔ sp a v = true)) ∧ (D.sp = sp) ∧ (∀ g, g < D.c → (gbM (D.FT g) 0 ∧ syT (D.FT g) ∧ nmK (fun a => nix sp NL a < NL.length) (D.FT g) ∧ ts (D.FT g) ≤ 26000) ∧ LIV sp NL (D.FP g) ∧ (∀ a z, (a, z) ∈ D.FP g → z = 0) ∧ D.H (6 * g + 1) = Int32.ofNat (D.FP g).length ∧ (D.FP g).length < 50000 ∧ nix sp NL (D.H (6 * g)).toNatClampNeg < NL.length)) : PGH sp NL D := q
theorem PGH.q {sp : Nat → Nat → Bool} {NL : List Nat} {D : lyD} (q : PGH sp NL D) : ∀ a v, nix sp NL a < NL.length → (nix sp NL a = nix sp NL v ↔ sp a v = true) := q.1
theorem PGH.s {sp : Nat → Nat → Bool} {NL : List Nat} {D : lyD} (q : PGH sp NL D) : D.sp = sp := q.2.1
theorem PGH.f {sp : Nat → Nat → Bool} {NL : List Nat} {D : lyD} (q : PGH sp NL D) : ∀ g, g < D.c → (gbM (D.FT g) 0 ∧ syT (D.FT g) ∧ nmK (fun a => nix sp NL a < NL.length) (D.FT g) ∧ ts (D.FT g) ≤ 26000) ∧ LIV sp NL (D.FP g) ∧ (∀ a z, (a, z) ∈ D.FP g → z = 0) ∧ D.H (6 * g + 1) = Int32.ofNat (D.FP g).length ∧ (D.FP g).length < 50000 ∧ nix sp NL (D.H (6 * g)).toNatClampNeg < NL.length := q.2.2
/-- what stands before a row of points -/
def RWx (sp : Nat → Nat → Bool) (NL : List Nat) (Pt : Nat → lpt) (E0 : nv) (D : lyD) (L : cen) (X : lcx) (t : tr) (p : Nat) : Prop := (EQx (bsF sp NL Pt E0 250 X) X) ∧ (LIV sp NL L) ∧ (∀ o, X.ow = some o → o < p ∧ o < 249) ∧ (X.fu < D.c) ∧ (X.nb + cnZl L ≤ 12 ∧ X.na + cnAl L ≤ 6) ∧ (gbM t 0 ∧ syT t ∧ nmK (fun a => nix sp NL a < NL.length) t) ∧ (ts t ≤ 26000) ∧ (∀ y, X.ta = some y → y < X.nb)
theorem RWx.of {sp : Nat → Nat → Bool} {NL : List Nat} {Pt : Nat → lpt} {E0 : nv} {D : lyD} {L : cen} {X : lcx} {t : tr} {p : Nat} (q : (EQx (bsF sp NL Pt E0 250 X) X) ∧ (LIV sp NL L) ∧ (∀ o, X.ow = some o → o < p ∧ o < 249) ∧ (X.fu < D.c) ∧ (X.nb + cnZl L ≤ 12 ∧ X.na + cnAl L ≤ 6) ∧ (gbM t 0 ∧ syT t ∧ nmK (fun a => nix sp NL a < NL.length) t) ∧ (ts t ≤ 26000) ∧ (∀ y, X.ta = some y → y < X.nb)) : RWx sp NL Pt E0 D L X t p := q
theorem RWx.Q {sp : Nat → Nat → Bool} {NL : List Nat} {Pt : Nat → lpt} {E0 : nv} {D : lyD} {L : cen} {X : lcx} {t : tr} {p : Nat} (q : RWx sp NL Pt E0 D L X t p) : EQx (bsF sp NL Pt E0 250 X) X := q.1
theorem RWx.L {sp : Nat → Nat → Bool} {NL : List Nat} {Pt : Nat → lpt} {E0 : nv} {D : lyD} {L : cen} {X : lcx} {t : tr} {p : Nat} (q : RWx sp NL Pt E0 D L X t p) : LIV sp NL L := q.2.1
theorem RWx.o {sp : Nat → Nat → Bool} {NL : List Nat} {Pt : Nat → lpt} {E0 : nv} {D : lyD} {L : cen} {X : lcx} {t : tr} {p : Nat} (q : RWx sp NL Pt E0 D L X t p) : ∀ o, X.ow = some o → o < p ∧ o < 249 := q.2.2.1
theorem RWx.f {sp : Nat → Nat → Bool} {NL : List Nat} {Pt : Nat → lpt} {E0 : nv} {D : lyD} {L : cen} {X : lcx} {t : tr} {p : Nat} (q : RWx sp NL Pt E0 D L X t p) : X.fu < D.c := q.2.2.2.1
theorem RWx.b {sp : Nat → Nat → Bool} {NL : List Nat} {Pt : Nat → lpt} {E0 : nv} {D : lyD} {L : cen} {X : lcx} {t : tr} {p : Nat} (q : RWx sp NL Pt E0 D L X t p) : X.nb + cnZl L ≤ 12 ∧ X.na + cnAl L ≤ 6 := q.2.2.2.2.1
theorem RWx.g {sp : Nat → Nat → Bool} {NL : List Nat} {Pt : Nat → lpt} {E0 : nv} {D : lyD} {L : cen} {X : lcx} {t : tr} {p : Nat} (q : RWx sp NL Pt E0 D L X t p) : gbM t 0 ∧ syT t ∧ nmK (fun a => nix sp NL a < NL.length) t := q.2.2.2.2.2.1
theorem RWx.z {sp : Nat → Nat → Bool} {NL : List Nat} {Pt : Nat → lpt} {E0 : nv} {D : lyD} {L : cen} {X : lcx} {t : tr} {p : Nat} (q : RWx sp NL Pt E0 D L X t p) : ts t ≤ 26000 := q.2.2.2.2.2.2.1
theorem RWx.t {sp : Nat → Nat → Bool} {NL : List Nat} {Pt : Nat → lpt} {E0 : nv} {D : lyD} {L : cen} {X : lcx} {t : tr} {p : Nat} (q : RWx sp NL Pt E0 D L X t p) : ∀ y, X.ta = some y → y < X.nb := q.2.2.2.2.2.2.2
section LWs
variable {sp : Nat → Nat → Bool} {NL : List Nat} {D : lyD} {FK : Nat → Nat} {Pt : Nat → lpt} {E0 : nv} {e0 n p : Nat} {cs t r : tr} {L : cen} {X : lcx}
theorem fsr_x {P : Nat → Bool} : ∀ c k, fsr P c = some k → ∀ j, k < j → j < c → P j = false := by
  intro c
  induction c with
  | zero => intro k e; cases e
  | succ c ih =>
    intro k e j h1 h2
    have e' : (if P c = true then some c else fsr P c) = some k := e
    by_cases q : P c = true
    · rw [if_pos q] at e'
      cases e'
      omega
    · rw [if_neg q] at e'
      by_cases cj : j = c
      · rw [cj]; simpa using q
      · exact ih k e' j h1 (by omega)
theorem eS_of {E : nv} {t : tr} (O : LOQ sp NL L X.nb X.na (X.nb + cnZl L) (X.na + cnAl L) (X.rA L) E.sN E.en) (e1 : E.nu = X.nb + cnZl L) (e2 : E.ar = X.na + cnAl L) (e3 : ∀ x, x < X.na + cnAl L → E.rm x = X.rA L x) (G : gSq t) (w : (lwT (loE sp L) t).1 = 0) : eSm E (rn sp NL t) := by
  obtain ⟨g1, g2, g3, g4, g5⟩ := G
  refine ⟨fun A a1 a2 a3 => wS_rn O ⟨a1.trans e1, a2.trans e2, fun x hx => (a3 x (by rw [e2]; exact hx)).trans (e3 x hx)⟩ t false g1 w, by rw [pz_rn]; exact g2, by rw [pn_rn]; exact g3, by rw [th_rn]; exact g5⟩
theorem eR_of {E : nv} (O : LOQ sp NL L X.nb X.na (X.nb + cnZl L) (X.na + cnAl L) (X.rA L) E.sN E.en) (e1 : E.nu = X.nb + cnZl L) (e2 : E.ar = X.na + cnAl L) (e3 : ∀ x, x < X.na + cnAl L → E.rm x = X.rA L x) : ∀ t, gRq t → (lwT (loE sp L) t).1 = 0 → eRo E (rn sp NL t) := by
  intro t
  induction t with
  | leaf u => exact fun _ _ => trivial
  | branch n cs r _ ih => exact fun g w => ⟨eS_of O e1 e2 e3 g.1 w, ih g.2 (lw_0 w).2⟩
theorem eC_of {E : nv} {c : Nat} {cc q : tr} (O : LOQ sp NL L X.nb X.na (X.nb + cnZl L) (X.na + cnAl L) (X.rA L) E.sN E.en) (e1 : E.nu = X.nb + cnZl L) (e2 : E.ar = X.na + cnAl L) (e3 : ∀ x, x < X.na + cnAl L → E.rm x = X.rA L x) (G : gCq (.branch c cc q)) (w : (lwN (loE sp L) c cc).1 = 0) : eCo E (rn sp NL (.branch c cc q)) := by
  obtain ⟨g1, g2, g3⟩ := G
  exact ⟨fun A a1 a2 a3 => (wC_rn O ⟨a1.trans e1, a2.trans e2, fun x hx => (a3 x (by rw [e2]; exact hx)).trans (e3 x hx)⟩ (.branch c cc q)).1 c cc q rfl g1 w, by rw [th_rn]; exact g3⟩
theorem jtc_89 {n : Nat} {u cs : tr} (kk : tK n = 8 ∨ tK n = 9) : jT n u = u ∧ jC n cs = 7 ∧ tK n ≠ 7 := by
  refine ⟨?_, ?_, by omega⟩
  · unfold jT
    rw [if_neg (by omega), if_neg (by omega)]
  · unfold jC
    rw [if_neg (by omega), if_neg (by omega), if_neg (by omega), if_neg (by omega), if_neg (by omega), if_pos kk]
theorem a18 {a b c d : Nat} (h1 : a + b ≤ 12) (h2 : c + d ≤ 6) : a + c + (b + d) ≤ 18 := by omega
theorem ts26 {a b c d N : Nat} (h : 1 + (1 + a + (1 + b + c)) + d ≤ N) : b ≤ N ∧ c ≤ N := by omega
theorem ts27 {a b N : Nat} (h : 1 + a + b ≤ N) : a ≤ N := by omega
theorem mx1 {x : Int} (h : 1 ≤ x) : max 1 x.toNat = x.toNat ∧ ¬ x.toNat = 0 := by omega
theorem mx2 {x : Int} (h : x ≤ 64) : x.toNat ≤ 64 := by omega
/-- a statement with no BLOCK -/
theorem LN_s {G : pgm} {J : pin} {Dd : fd} {Lw : tr → Nat → Nat → nv → Prop} {E : nv} {p : Nat} {n : Nat} {cs : tr} (PK : PIK D n cs L X) (sps : D.sp = sp) (O : LOQ sp NL L X.nb X.na (X.nb + cnZl L) (X.na + cnAl L) (X.rA L) E.sN E.en) (e1 : E.nu = X.nb + cnZl L) (e2 : E.ar = X.na + cnAl L) (e3 : ∀ x, x < X.na + cnAl L → E.rm x = X.rA L x) (e5 : E.ta = X.ta) (e6 : E.T ≤ 18) (b1 : X.nb + cnZl L ≤ 12) (b2 : X.na + cnAl L ≤ 6) (Rt : ∀ y, X.ta = some y → y < X.nb) (E1 : G.E p = p + 1) (Gk : G.kd p = skN n) (Gs : G.sp p = if tK n = 8 ∨ tK n = 9 then cn3 (rn sp NL cs) else if tK n = 10 then 2 + cn3 (rn sp NL cs) else 1) (Jc : J.c p = jC n cs) (Jt : J.t p = jT n (rn sp NL cs)) (Jx : J.x p = if tK n = 5 ∨ tK n = 6 then E.en (nmI sp NL (tV (hd1 cs)).toNat) else 0) (Jz : J.sz p = if tK n = 4 then (tV (hd1 (tT cs))).toNat else 0) (Jk : J.tk p = X.ta) (hs : ¬ (tK n = 7 ∨ tK n = 8 ∨ tK n = 9)) : LN G J Dd Lw (rnN sp NL n) (rn sp NL cs) p E := by
  unfold LN
  rw [rn_K, Gk, Gs, Jc, Jt, Jx, Jz, Jk]
  clear Gk Gs Jc Jt Jx Jz Jk
  rcases PK with ⟨kk, a, t, ec, ka, hlt, ht⟩ | ⟨kk, a, q, ec, ka, kq, h6, q1, q2⟩ | ⟨kk, a, x, cx, ec, ka, ⟨sl, la⟩, gt, wt⟩ | ⟨kk, a, x, cx, u, cu, ec, ka, ⟨sl, z, la, lz⟩, gt, gu, wt⟩ | ⟨kk, a, ff, t, g, ec, kf, ka, la, gt, wt, hg, gX, hl, h12, -⟩ | ⟨kk, c, cc, q, ec, gc, wc⟩ | ⟨kk, c, cc, ec, gc, wc⟩ | ⟨kk, x, cx, ec, gt, wt⟩
  · -- var x
    subst ec
    have sk : skN n = 1 := by unfold skN; rw [if_pos (Or.inl kk)]
    refine Or.inl ⟨kk, rnN sp NL a, (), rn sp NL t, rfl, sk, E1, by omega, by omega, by rw [if_neg (by rw [kk]; decide), if_neg (by rw [kk]; decide)], ?_⟩
    have jt : jT n (rn sp NL (.branch a (.leaf ()) t)) = rn sp NL t := by unfold jT; rw [if_pos (Or.inl kk)]; rfl
    have jc : jC n (.branch a (.leaf ()) t) = if ts t = 0 then 2 else 1 := by unfold jC; rw [if_pos kk]; rfl
    rw [jt, jc]
    rcases ht with ht | ⟨x, cx, et, gt, wt⟩
    · subst ht
      exact Or.inl ⟨⟨(), rfl⟩, if_pos rfl⟩
    · refine Or.inr ⟨if_neg (by rw [et, ts_N]; omega), rfl, eS_of O e1 e2 e3 gt ?_⟩
      rw [← sps]; exact wt
  · -- var a[n]
    subst ec
    have sk : skN n = 1 := by unfold skN; rw [if_pos (Or.inr kk)]
    have jc : jC n (.branch a (.leaf ()) (.branch q (.leaf ()) (.leaf ()))) = 3 := by unfold jC; rw [if_neg (by rw [kk]; decide), if_pos kk]
    refine Or.inr (Or.inl ⟨kk, rnN sp NL a, (), rnN sp NL q, (), .leaf (), rfl, sk, E1, by omega, by omega, by rw [if_neg (by rw [kk]; decide), if_neg (by rw [kk]; decide)], jc, by rw [rn_no (by omega)]; exact q1, by rw [rn_no (by omega)]; exact q2, by rw [rn_no (n := q) (by omega), if_pos kk]; rfl⟩)
  · -- x = SUM
    subst ec
    have sk : skN n = 2 := by unfold skN; rw [if_neg (by rw [kk]; decide), kk]
    have jt : jT n (rn sp NL (.branch a (.leaf ()) (tNd x cx))) = rn sp NL (tNd x cx) := by unfold jT; rw [if_pos (Or.inr (Or.inl kk))]; rfl
    have jc : jC n (.branch a (.leaf ()) (tNd x cx)) = 4 := by unfold jC; rw [if_neg (by rw [kk]; decide), if_neg (by rw [kk]; decide), if_pos kk]
    rw [sps] at la
    obtain ⟨o1, o2, -⟩ := O _ _ _ la
    obtain ⟨o3, o4⟩ := o2 rfl
    refine Or.inr (Or.inr (Or.inl ⟨kk, rnN sp NL a, (), rn sp NL (tNd x cx), rfl, sk, E1, by rw [if_neg (by rw [kk]; decide), if_neg (by rw [kk]; decide)], jc, by rw [rn_V ka]; exact o1, by rw [rn_V ka, o3, e1]; exact o4, ?_, jt, eS_of O e1 e2 e3 gt (by rw [← sps]; exact wt)⟩))
    rw [if_pos (Or.inl kk), rn_V ka]
    rfl
  · -- a[SUM] = SUM
    subst ec
    have sk : skN n = 3 := by unfold skN; rw [if_neg (by rw [kk]; decide), kk]
    have jt : jT n (rn sp NL (.branch a (.leaf ()) (.branch x cx (tNd u cu)))) = rn sp NL (.branch x cx (tNd u cu)) := by unfold jT; rw [if_pos (Or.inr (Or.inr kk))]; rfl
    have jc : jC n (.branch a (.leaf ()) (.branch x cx (tNd u cu))) = 5 := by unfold jC; rw [if_neg (by rw [kk]; decide), if_neg (by rw [kk]; decide), if_neg (by rw [kk]; decide), if_pos kk]
    rw [sps] at la wt
    obtain ⟨o1, -, o2⟩ := O _ _ _ la
    obtain ⟨o3, o4, o5, o6⟩ := o2 lz
    have er : E.rm (E.en (tV (rnN sp NL a))) = z := by rw [rn_V ka, o3, e3 _ o4, o5]
    refine Or.inr (Or.inr (Or.inr (Or.inl ⟨kk, rnN sp NL a, (), rn sp NL (.branch x cx (tNd u cu)), rfl, sk, E1, by rw [if_neg (by rw [kk]; decide), if_neg (by rw [kk]; decide)], jc, by rw [rn_V ka]; exact o1, by rw [rn_V ka, o3, e2]; exact o4, by rw [er]; exact lz, by rw [er]; exact o6, ?_, jt, eS_of O e1 e2 e3 gt wt, ?_⟩)))
    · rw [if_pos (Or.inr kk), rn_V ka]
      rfl
    · rw [tT_rn]
      exact eS_of O e1 e2 e3 gu (lw_0 wt).2
  · exact absurd (Or.inl kk) hs
  · exact absurd (Or.inr kk) hs
  · -- assert
    subst ec
    have sk : skN n = 7 := by unfold skN; rw [if_neg (by rw [kk]; decide), kk]
    have jt : jT n (rn sp NL (tNd c cc)) = rn sp NL (tNd c cc) := by unfold jT; rw [if_neg (by rw [kk]; decide), if_neg (by rw [kk]; decide)]
    have jc : jC n (tNd c cc) = 8 := by unfold jC; rw [if_neg (by rw [kk]; decide), if_neg (by rw [kk]; decide), if_neg (by rw [kk]; decide), if_neg (by rw [kk]; decide), if_neg (by rw [kk]; decide), if_neg (by rw [kk]; decide), if_pos kk]
    rw [sps] at wc
    exact Or.inr (Or.inr (Or.inr (Or.inr (Or.inr (Or.inr (Or.inr (Or.inl ⟨kk, sk, E1, jc, jt, eC_of O e1 e2 e3 gc wc, by rw [if_neg (by rw [kk]; decide), if_pos kk]⟩)))))))
  · -- return
    subst ec
    have sk : skN n = 8 := by unfold skN; rw [if_neg (by rw [kk]; decide), kk]
    have jt : jT n (rn sp NL (tNd x cx)) = rn sp NL (tNd x cx) := by unfold jT; rw [if_neg (by rw [kk]; decide), if_neg (by rw [kk]; decide)]
    have jc : jC n (tNd x cx) = 9 := by unfold jC; rw [if_neg (by rw [kk]; decide), if_neg (by rw [kk]; decide), if_neg (by rw [kk]; decide), if_neg (by rw [kk]; decide), if_neg (by rw [kk]; decide), if_neg (by rw [kk]; decide), if_neg (by rw [kk]; decide)]
    rw [sps] at wt
    refine Or.inr (Or.inr (Or.inr (Or.inr (Or.inr (Or.inr (Or.inr (Or.inr ⟨kk, sk, E1, jc, jt, eS_of O e1 e2 e3 gt wt, e5.symm, fun y hy => ?_, by rw [if_neg (by rw [kk]; decide), if_neg (by rw [kk]; decide)]⟩)))))))
    rw [e5] at hy
    have := Rt y hy
    omega
theorem LW_of (H : PGH sp NL D) (he : e0 ≤ 249) (ow : ∀ q o, q < e0 → (Pt q).X.ow = some o → o < q) : ∀ f fb t k w s p e b L X, LYR D Pt f fb t k w s p e L b X → e ≤ e0 → RWx sp NL Pt E0 D L X t p → LW (pgG sp NL Pt E0 e0) (pJ sp NL Pt E0) (pD sp NL D FK) f (rn sp NL t) p e (addC sp NL (bsF sp NL Pt E0 250 X) L) := by
  intro f
  induction f with
  | zero =>
    intro fb t k w s p e b L X y _ _
    cases t with
    | leaf _ => exact y
    | branch n cs r => exact absurd y (fun z => z)
  | succ f ih =>
    intro fb t k w s p e b L X y hee R
    cases t with
    | leaf _ => exact y
    | branch n cs r =>
      obtain ⟨⟨y1, y1'⟩, ⟨a1, a2, a3, a4, a5, a6, a7, a8⟩, ⟨y3, y4⟩, y5, y6, y7⟩ := y
      obtain ⟨gb, sy, nk⟩ := R.g
      obtain ⟨gq, gb8, gbr⟩ := gb
      obtain ⟨nk1, nk2, nk3⟩ := nk
      have sy0 := sy
      obtain ⟨-, sy2, sy3⟩ := sy
      obtain ⟨b1, b2⟩ := R.b
      have Q := R.Q
      have LI := R.L
      have hX := R.f
      have tz := R.z
      rw [ts_B] at tz
      have sps := H.s
      have p249 : p < 249 := Nat.lt_of_lt_of_le y1 y1'
      have pe : p < e0 := Nat.lt_of_lt_of_le y1 hee
      have Ee : (Pt p).E ≤ e0 := Nat.le_trans y4 hee
      have lS : (∃ c cc q, cs = .branch c cc q) ∨ (tK n ≠ 8 ∧ tK n ≠ 9) := by
        rcases y6 with ⟨kk, -⟩ | ⟨kk, c, cc, b1, bs1, q, ec, -⟩ | ⟨kk, c, cc, b1, bs1, ec, -⟩ | ⟨-, n8, n9, -⟩
        · exact Or.inr ⟨by rw [kk]; decide, by rw [kk]; decide⟩
        · exact Or.inl ⟨c, cc, _, ec⟩
        · exact Or.inl ⟨c, cc, _, ec⟩
        · exact Or.inr ⟨n8, n9⟩
      have PK := PIK_of (r := r) y5 gq sy0 b1 b2 lS
      have yE : tK n ≠ 7 → tK n ≠ 8 → tK n ≠ 9 → (Pt p).E = p + 1 := fun h7 h8 h9 => by
        rcases y6 with ⟨z, -⟩ | ⟨z, -⟩ | ⟨z, -⟩ | ⟨-, -, -, z⟩
        · exact absurd z h7
        · exact absurd z h8
        · exact absurd z h9
        · exact z
      have Y6 := PLift.up y6
      clear lS gq sy0 y6
      -- the names known here
      have O := LOQ_of (L := L) H.q LI Q
      obtain ⟨v1, v2, v3, v4, v5⟩ := ad_v (sp := sp) (NL := NL) (E := bsF sp NL Pt E0 250 X) L
      have e1 : (addC sp NL (bsF sp NL Pt E0 250 X) L).nu = X.nb + cnZl L := by rw [v1, Q.n]
      have e2 : (addC sp NL (bsF sp NL Pt E0 250 X) L).ar = X.na + cnAl L := by rw [v2, Q.a]
      have e3 : ∀ x, x < X.na + cnAl L → (addC sp NL (bsF sp NL Pt E0 250 X) L).rm x = X.rA L x := fun x hx => by
        rw [ad_r L x, Q.a]
        show _ = (if x < X.na then X.rS x else aSz L (x - X.na))
        by_cases c : x < X.na
        · rw [if_pos c, if_pos c]; exact Q.r x c
        · rw [if_neg c, if_neg c, if_pos hx]
      have e4 : (addC sp NL (bsF sp NL Pt E0 250 X) L).fu = X.fu := by rw [v4, Q.f]
      have e5 : (addC sp NL (bsF sp NL Pt E0 250 X) L).ta = X.ta := by rw [v5, Q.t]
      have e6 : (addC sp NL (bsF sp NL Pt E0 250 X) L).T ≤ 18 := by
        rw [v3, Q.T, cnL_len L]
        exact a18 b1 b2
      have jp : jE sp NL Pt E0 p = addC sp NL (bsF sp NL Pt E0 250 X) L := by unfold jE; rw [a4, a3]
      have st9 : bsF sp NL Pt E0 249 X = bsF sp NL Pt E0 250 X := bs_2 (n := e0) ow 249 250 X (fun o ho => ⟨(R.o o ho).2, Nat.lt_trans (R.o o ho).2 (by decide), Nat.lt_trans (R.o o ho).1 pe⟩)
      have bB : bsF sp NL Pt E0 250 (lyB X p) = (if tK n = 7 then (addC sp NL (bsF sp NL Pt E0 250 X) L).go (lyB X p).fu (lyB X p).ta else bsF sp NL Pt E0 250 X) := by
        rw [bs_s (f := 249) (X := lyB X p) (o := p) rfl, a1, a4, a3, st9]
      generalize hE : addC sp NL (bsF sp NL Pt E0 250 X) L = E at O v1 v2 v3 v4 v5 e1 e2 e3 e4 e5 e6 jp bB ⊢
      -- the rows of G and J at p
      have Gk : (pgG sp NL Pt E0 e0).kd p = skN n := by show (if p < e0 then skN (Pt p).N else 0) = _; rw [if_pos pe, a1]
      have Gn : (pgG sp NL Pt E0 e0).n p = X.nb + cnZl L := by show (if p < e0 then (Pt p).X.nb + cnZl (Pt p).L else 0) = _; rw [if_pos pe, a4, a3]
      have Ga : (pgG sp NL Pt E0 e0).a p = X.na + cnAl L := by show (if p < e0 then (Pt p).X.na + cnAl (Pt p).L else 0) = _; rw [if_pos pe, a4, a3]
      have Gr : (pgG sp NL Pt E0 e0).rm p = X.rA L := by show (Pt p).X.rA (Pt p).L = _; rw [a4, a3]
      have Gs : (pgG sp NL Pt E0 e0).sp p = if tK n = 8 ∨ tK n = 9 then cn3 (rn sp NL cs) else if tK n = 10 then 2 + cn3 (rn sp NL cs) else 1 := by show (if tK (Pt p).N = 8 ∨ tK (Pt p).N = 9 then cn3 (rn sp NL (Pt p).C) else if tK (Pt p).N = 10 then 2 + cn3 (rn sp NL (Pt p).C) else 1) = _; rw [a1, a2]
      have GE : (pgG sp NL Pt E0 e0).E p = (Pt p).E := rfl
      have GM : (pgG sp NL Pt E0 e0).M p = (Pt p).M := rfl
      have Jc : (pJ sp NL Pt E0).c p = jC n cs := by show jC (Pt p).N (Pt p).C = _; rw [a1, a2]
      have Jt : (pJ sp NL Pt E0).t p = jT n (rn sp NL cs) := by show jT (Pt p).N (rn sp NL (Pt p).C) = _; rw [a1, a2]
      have Je : (pJ sp NL Pt E0).en p = E.en := by show (jE sp NL Pt E0 p).en = _; rw [jp]
      have Js : (pJ sp NL Pt E0).sN p = E.sN := by show (jE sp NL Pt E0 p).sN = _; rw [jp]
      have Jx : (pJ sp NL Pt E0).x p = if tK n = 5 ∨ tK n = 6 then E.en (nmI sp NL (tV (hd1 cs)).toNat) else 0 := by show (if tK (Pt p).N = 5 ∨ tK (Pt p).N = 6 then (jE sp NL Pt E0 p).en (nmI sp NL (tV (hd1 (Pt p).C)).toNat) else 0) = _; rw [a1, a2, jp]
      have Jz : (pJ sp NL Pt E0).sz p = if tK n = 4 then (tV (hd1 (tT cs))).toNat else 0 := by show (if tK (Pt p).N = 4 then (tV (hd1 (tT (Pt p).C))).toNat else 0) = _; rw [a1, a2]
      have Jk : (pJ sp NL Pt E0).tk p = X.ta := by show (Pt p).X.ta = _; rw [a4]
      have Dc : (pD sp NL D FK).c = D.c := rfl
      have pB : ∀ o, (lyB X p).ow = some o → o < p + 1 ∧ o < 249 := fun o ho => by
        cases ho
        exact ⟨Nat.lt_succ_self _, p249⟩
      have bB' : tK n ≠ 7 → bsF sp NL Pt E0 250 (lyB X p) = bsF sp NL Pt E0 250 X := fun z => by rw [bB, if_neg z]
      have RB : tK n ≠ 7 → ∀ bs p', p + 1 ≤ p' → gbM bs 0 → syT bs → nmK (fun a => nix sp NL a < NL.length) bs → ts bs ≤ 26000 → RWx sp NL Pt E0 D L (lyB X p) bs p' := fun z bs p' hp g1 g2 g3 g4 => RWx.of ⟨by rw [bB' z]; exact EQx.of ⟨Q.n, Q.a, Q.r, Q.f, Q.t, Q.T⟩, LI, fun o ho => ⟨Nat.lt_of_lt_of_le (pB o ho).1 hp, (pB o ho).2⟩, hX, ⟨b1, b2⟩, ⟨g1, g2, g3⟩, g4, R.t⟩
      have nxx : nx (rnN sp NL n) (rn sp NL cs) E = addC sp NL (bsF sp NL Pt E0 250 X) (nxE n cs L) := by
        unfold nx nxE
        rw [rn_K]
        rcases PK with ⟨kk, a, t, ec, ka, -⟩ | ⟨kk, a, q, ec, ka, kq, h6, q1, q2⟩ | ⟨kk, -⟩ | ⟨kk, -⟩ | ⟨kk, -⟩ | ⟨kk, -⟩ | ⟨kk, -⟩ | ⟨kk, -⟩
        · subst ec
          rw [if_pos kk, if_pos kk]
          show E.addN (tV (rnN sp NL a)) = _
          rw [rn_V ka, ad_0, hE]
          rfl
        · subst ec
          rw [if_neg (by rw [kk]; decide), if_pos kk, if_neg (by rw [kk]; decide), if_pos kk]
          show E.addA (tV (rnN sp NL a)) (tV (rnN sp NL q)).toNat = _
          have q3 : max 1 (tV q).toNat = (tV q).toNat := (mx1 q1).1
          rw [rn_V ka, rn_no (n := q) (by rw [kq]; decide)]
          show _ = addC sp NL (bsF sp NL Pt E0 250 X) (((tV a).toNat, max 1 (tV q).toNat) :: L)
          rw [q3, ad_n (mx1 q1).2, hE]
          rfl
        all_goals
          rw [if_neg (by intro z; rw [z] at kk; revert kk; decide), if_neg (by intro z; rw [z] at kk; revert kk; decide), if_neg (by intro z; rw [z] at kk; revert kk; decide), if_neg (by intro z; rw [z] at kk; revert kk; decide)]
          exact hE.symm
      have nxb : (X.nb + cnZl (nxE n cs L) ≤ 12 ∧ X.na + cnAl (nxE n cs L) ≤ 6) ∧ LIV sp NL (nxE n cs L) := by
        rcases PK with ⟨kk, a, t, ec, ka, hlt, -⟩ | ⟨kk, a, q, ec, ka, kq, h6, q1, q2⟩ | ⟨kk, -⟩ | ⟨kk, -⟩ | ⟨kk, -⟩ | ⟨kk, -⟩ | ⟨kk, -⟩ | ⟨kk, -⟩
        · subst ec
          have en : nxE n (.branch a (.leaf ()) t) L = ((tV a).toNat, 0) :: L := by unfold nxE; rw [if_pos kk]
          rw [en, cnZ_0, cnA_0]
          refine ⟨⟨hlt, b2⟩, fun x z q => ?_⟩
          rcases List.mem_cons.mp q with q | q
          · cases q
            exact ⟨nk2.1 ka, Nat.zero_le _⟩
          · exact LI x z q
        · subst ec
          have en : nxE n (.branch a (.leaf ()) (.branch q (.leaf ()) (.leaf ()))) L = ((tV a).toNat, max 1 (tV q).toNat) :: L := by unfold nxE; rw [if_neg (by rw [kk]; decide), if_pos kk]
          have q3 : max 1 (tV q).toNat = (tV q).toNat := (mx1 q1).1
          rw [en, q3, cnZ_n (mx1 q1).2, cnA_n (mx1 q1).2]
          refine ⟨⟨b1, h6⟩, fun x z u => ?_⟩
          rcases List.mem_cons.mp u with u | u
          · cases u
            exact ⟨nk2.1 ka, mx2 q2⟩
          · exact LI x z u
        all_goals
          have en : nxE n cs L = L := by unfold nxE; rw [if_neg (by intro z; rw [z] at kk; revert kk; decide), if_neg (by intro z; rw [z] at kk; revert kk; decide)]
          rw [en]
          exact ⟨⟨b1, b2⟩, LI⟩
      show p < e ∧ e ≤ 249 ∧ (pgG sp NL Pt E0 e0).n p = E.nu ∧ (pgG sp NL Pt E0 e0).a p = E.ar ∧ (pJ sp NL Pt E0).en p = E.en ∧ ((pJ sp NL Pt E0).sN p = E.sN ∧ ∀ x, x < E.ar → E.rm x = (pgG sp NL Pt E0 e0).rm p x) ∧ p < (pgG sp NL Pt E0 e0).E p ∧ (pgG sp NL Pt E0 e0).E p ≤ e ∧ E.fu ≤ (pD sp NL D FK).c ∧ LN (pgG sp NL Pt E0 e0) (pJ sp NL Pt E0) (pD sp NL D FK) (LW (pgG sp NL Pt E0 e0) (pJ sp NL Pt E0) (pD sp NL D FK) f) (rnN sp NL n) (rn sp NL cs) p E ∧ LW (pgG sp NL Pt E0 e0) (pJ sp NL Pt E0) (pD sp NL D FK) f (rn sp NL r) ((pgG sp NL Pt E0 e0).E p) e (nx (rnN sp NL n) (rn sp NL cs) E)
      refine ⟨y1, y1', by rw [Gn, e1], by rw [Ga, e2], Je, ⟨Js, fun x hx => by rw [Gr]; exact e3 x (by rw [← e2]; exact hx)⟩, y3, y4, by rw [e4, Dc]; exact Nat.le_of_lt hX, ?_, ?_⟩
      · by_cases hs : tK n = 7 ∨ tK n = 8 ∨ tK n = 9
        · unfold LN
          rw [rn_K, Gk, GE, GM, Gs, Jc, Jt, Jx, Jz, Jk]
          rcases PK with ⟨kk, a, t, ec, ka, hlt, ht⟩ | ⟨kk, a, q, ec, ka, kq, h6, q1, q2⟩ | ⟨kk, a, x, cx, ec, ka, ⟨sl, la⟩, gt, wt⟩ | ⟨kk, a, x, cx, u, cu, ec, ka, ⟨sl, z, la, lz⟩, gt, gu, wt⟩ | ⟨kk, a, ff, t, g, ec, kf, ka, la, gt, wt, hg, gX, hl, h12, -⟩ | ⟨kk, c, cc, q, ec, gc, wc⟩ | ⟨kk, c, cc, ec, gc, wc⟩ | ⟨kk, x, cx, ec, gt, wt⟩
          · exact absurd hs (by rw [kk]; decide)
          · exact absurd hs (by rw [kk]; decide)
          · exact absurd hs (by rw [kk]; decide)
          · exact absurd hs (by rw [kk]; decide)
          · -- a call
            subst ec
            have sk : skN n = 4 := by unfold skN; rw [if_neg (by rw [kk]; decide), kk]
            have jt : jT n (rn sp NL (.branch a (.leaf ()) (.branch ff (.leaf ()) t))) = rn sp NL t := by unfold jT; rw [if_neg (by rw [kk]; decide), if_pos kk]; rfl
            have jc : jC n (.branch a (.leaf ()) (.branch ff (.leaf ()) t)) = 6 := by unfold jC; rw [if_neg (by rw [kk]; decide), if_neg (by rw [kk]; decide), if_neg (by rw [kk]; decide), if_neg (by rw [kk]; decide), if_pos kk]
            obtain ⟨⟨h1, h2, h3, h4⟩, h5, h6, h7, h8, h9⟩ := H.f g (Nat.lt_trans gX hX)
            have tle : tlc t ≤ 12 := Nat.le_trans (Nat.le_add_left _ _) h12
            have ll : tlc t = (D.FP g).length := by
              rw [h7] at hl
              have := (nn_eq (a := tlc t) (b := (D.FP g).length) (Nat.lt_of_le_of_lt tle (by decide)) (Nat.lt_trans h8 (by decide))) ▸ hl
              exact this
            rw [sps] at la wt hg
            have hz : g < D.c := Nat.lt_trans gX hX
            have nmg : ∀ g', g' < D.c → (nmI sp NL (D.H (6 * g')).toNatClampNeg = tV (rnN sp NL ff) ↔ sp (D.H (6 * g')).toNatClampNeg (tV ff).toNat = true) := fun g' hg' => by
              have k9 := (H.f g' hg').2.2.2.2.2
              rw [rn_V kf, ← H.q _ _ k9]
              unfold nmI
              exact ⟨fun z => Int.ofNat_inj.mp z, fun z => by rw [z]⟩
            rcases Y6.down with ⟨-, a', ff', t', g', ec', hg', -, z⟩ | ⟨z, -⟩ | ⟨z, -⟩ | ⟨z, -⟩
            · cases ec'
              rw [sps, hg] at hg'
              cases hg'
              have bC : bsF sp NL Pt E0 250 (lyC D X L p g a) = E.go g (lyC D X L p g a).ta := by
                rw [bs_s (f := 249) (X := lyC D X L p g a) (o := p) rfl, a1, a4, a3, st9, if_pos kk, hE]
                rfl
              have RC : RWx sp NL Pt E0 D (D.FP g) (lyC D X L p g a) (D.FT g) (p + 1) := by
                have ez := ad_v (sp := sp) (NL := NL) (E := E) (D.FP g)
                have all0 : cnZl (D.FP g) = (D.FP g).length ∧ cnAl (D.FP g) = 0 := by
                  clear ez
                  revert h6
                  generalize D.FP g = F
                  induction F with
                  | nil => exact fun _ => ⟨rfl, rfl⟩
                  | cons x F ihF =>
                    obtain ⟨x1, x2⟩ := x
                    intro w
                    have z0 := w x1 x2 List.mem_cons_self
                    subst z0
                    obtain ⟨i1, i2⟩ := ihF (fun u v q => w u v (List.mem_cons_of_mem _ q))
                    rw [cnZ_0, cnA_0, i1, i2]
                    exact ⟨rfl, rfl⟩
                refine RWx.of ⟨by rw [bC, ← hE]; exact EQ_c Q, h5, fun o ho => by cases ho; exact ⟨Nat.lt_succ_self _, p249⟩, hz, ?_, ⟨h1, h2, h3⟩, h4, fun y hy => ?_⟩
                · show X.nb + cnZl L + cnZl (D.FP g) ≤ 12 ∧ X.na + cnAl L + cnAl (D.FP g) ≤ 6
                  rw [all0.1, all0.2]
                  exact ⟨by rw [← ll]; exact h12, b2⟩
                · have hy' : (if tK a = 13 then some (X.nb + lkN (loE D.sp L) (tV a)) else none) = some y := hy
                  by_cases k13 : tK a = 13
                  · rw [if_pos k13] at hy'
                    obtain ⟨sl, l1⟩ := la k13
                    have es : lkN (loE D.sp L) (tV a) = sl := by unfold lkN; rw [sps, l1]
                    rw [es] at hy'
                    cases hy'
                    obtain ⟨-, o2, -⟩ := O _ _ _ l1
                    exact (o2 rfl).2
                  · rw [if_neg k13] at hy'
                    cases hy'
              have sub := ih _ _ _ _ _ _ _ _ _ _ z Ee RC
              rw [bC, ad_p (D.FP g) h6] at sub
              refine Or.inr (Or.inr (Or.inr (Or.inr (Or.inl ⟨kk, rnN sp NL a, (), rnN sp NL ff, (), rn sp NL t, g, (lyC D X L p g a).ta, rfl, sk, jc, jt, eR_of O e1 e2 e3 t gt wt, by rw [e4]; exact gX, (nmg g hz).mpr (fsr_b _ _ hg).2, fun g' q1 q2 q3 => ?_, ?_, ?_, ?_, ?_, sub⟩))))
              · have := fsr_x _ _ hg g' q1 (by rw [e4] at q2; exact q2)
                have q4 := (nmg g' (Nat.lt_trans (by rw [e4] at q2; exact q2) hX)).mp q3
                rw [q4] at this
                cases this
              · rw [tl_rn, tl_tlc, ll]
                show _ = (((D.FP g).reverse).map fun x => nmI sp NL x.1).length
                rw [List.length_map, List.length_reverse]
              · rw [tl_rn, tl_tlc, e1]; exact h12
              · rw [tl_rn, tl_tlc]; exact Nat.le_trans (Nat.add_le_add e6 tle) (by decide)
              · rw [rn_K]
                by_cases k13 : tK a = 13
                · obtain ⟨sl, l1⟩ := la k13
                  obtain ⟨o1, o2, -⟩ := O _ _ _ l1
                  obtain ⟨o3, o4⟩ := o2 rfl
                  refine Or.inl ⟨k13, by rw [rn_V k13]; exact o1, by rw [rn_V k13, o3, e1]; exact o4, ?_⟩
                  show (if tK a = 13 then some (X.nb + lkN (loE D.sp L) (tV a)) else none) = _
                  have es : lkN (loE D.sp L) (tV a) = sl := by unfold lkN; rw [sps, l1]
                  rw [if_pos k13, es, rn_V k13, o3]
                · refine Or.inr ⟨k13, ?_⟩
                  show (if tK a = 13 then some (X.nb + lkN (loE D.sp L) (tV a)) else none) = _
                  rw [if_neg k13]
            · exact absurd (kk.symm.trans z) (by decide)
            · exact absurd (kk.symm.trans z) (by decide)
            · exact absurd kk z
          · -- if, while
            obtain ⟨jt, jc, n7⟩ := jtc_89 (u := rn sp NL cs) (cs := cs) kk
            rw [sps] at wc
            have eC : eCo E (rn sp NL cs) := by rw [ec]; rw [ec] at gc; exact eC_of O e1 e2 e3 gc wc
            have gbc := gb8 kk
            rcases Y6.down with ⟨z, -⟩ | ⟨k8, c', cc', b1', bs1, q', ec', m1, m2, z3, z4⟩ | ⟨k9, c', cc', b1', bs1, ec', z⟩ | ⟨-, n8, n9, -⟩
            · exact absurd z n7
            · subst ec'
              have sk : skN n = 5 := by unfold skN; rw [if_neg (by rw [k8]; decide), k8]
              have sy2' := sy2
              obtain ⟨-, -, -, syb, syq⟩ := sy2'
              obtain ⟨-, -, -, nkb, nkq⟩ := nk2
              rw [ts_B, ts_B] at tz
              have g2 : gbM bs1 0 ∧ gbM q' 2 := gbc
              have s1 := ih _ _ _ _ _ _ _ _ _ _ z3 (Nat.le_trans m2 Ee) (RB n7 bs1 (p + 1) (Nat.le_refl _) g2.1 syb nkb (ts26 tz).1)
              rw [bB' n7, hE] at s1
              refine Or.inr (Or.inr (Or.inr (Or.inr (Or.inr (Or.inl ⟨k8, rnN sp NL c', rn sp NL cc', rnN sp NL b1', rn sp NL bs1, rn sp NL q', rfl, sk, jc, jt, eC, if_pos kk, m1, m2, s1, ?_⟩)))))
              rcases z4 with ⟨eq, z4⟩ | ⟨b2, bs2, eq, z4⟩
              · subst eq
                exact Or.inl ⟨⟨(), rfl⟩, z4⟩
              · subst eq
                rw [ts_B] at tz
                have s2 := ih _ _ _ _ _ _ _ _ _ _ z4 Ee (RB n7 bs2 (Pt p).M m1 g2.2.1 syq.2.1 nkq.2.1 (ts27 (ts26 tz).2))
                rw [bB' n7, hE] at s2
                exact Or.inr ⟨rnN sp NL b2, rn sp NL bs2, (), rfl, s2⟩
            · subst ec'
              have sk : skN n = 6 := by unfold skN; rw [if_neg (by rw [k9]; decide), k9]
              have sy2' := sy2
              obtain ⟨-, -, -, syb, syq⟩ := sy2'
              obtain ⟨-, -, -, nkb, nkq⟩ := nk2
              rw [ts_B, ts_B] at tz
              have g2 : gbM bs1 0 ∧ gbM (.leaf ()) 2 := gbc
              have s1 := ih _ _ _ _ _ _ _ _ _ _ z Ee (RB n7 bs1 (p + 1) (Nat.le_refl _) g2.1 syb nkb (ts26 tz).1)
              rw [bB' n7, hE] at s1
              exact Or.inr (Or.inr (Or.inr (Or.inr (Or.inr (Or.inr (Or.inl ⟨k9, rnN sp NL c', rn sp NL cc', rnN sp NL b1', rn sp NL bs1, (), rfl, sk, jc, jt, eC, if_pos kk, s1⟩))))))
            · exact kk.elim (fun z => absurd z n8) (fun z => absurd z n9)
          · exact absurd hs (by rw [kk]; decide)
          · exact absurd hs (by rw [kk]; decide)
        · exact LN_s PK sps O e1 e2 e3 e5 e6 b1 b2 R.t (yE (fun z => hs (Or.inl z)) (fun z => hs (Or.inr (Or.inl z))) (fun z => hs (Or.inr (Or.inr z)))) Gk Gs Jc Jt Jx Jz Jk hs
      · rw [nxx, GE]
        refine ih _ _ _ _ _ _ _ _ _ _ y7 hee (RWx.of ⟨Q, nxb.2, fun o ho => ⟨Nat.lt_trans (R.o o ho).1 y3, (R.o o ho).2⟩, hX, nxb.1, ⟨gbr, sy3, nk3⟩, Nat.le_trans (Nat.le_add_left _ _) tz, R.t⟩)
end LWs
