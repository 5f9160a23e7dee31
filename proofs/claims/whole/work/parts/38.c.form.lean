set_option maxRecDepth 100000
/-! the class's form and findOthers over any heap -/
def fmW (b j : Nat) : Prop := (b = 35 ∧ 12 ≤ j ∧ j ≤ 18) ∨ b = 41
abbrev CW (h : mh_H) (nb p0 : Nat) (TT UU : Nat) (en : Int → Nat) (A : ab) (ps : List pa) : Prop := (ptr nb (fun i => mh_i h TT (p0 + i)) (fun i => mh_i h UU (p0 + i)) ps) ∧ (∃ z : Nat → Int32, (∀ x, x < 12 → z x = 0) ∧ mh_i h 41 = sgN nb (fun i => mh_i h TT (p0 + i)) (fun i => mh_i h UU (p0 + i)) z ps.length) ∧ ((mh_j h 35 14).toInt = sI (pqL ps) ps.length) ∧ ((mh_j h 35 15).toInt = sI (pqH ps) ps.length) ∧ ((mh_j h 35 16).toInt = pqX ps) ∧ (∀ j, j = 14 ∨ j = 15 ∨ j = 16 → -1000000000000000 ≤ (mh_j h 35 j).toInt ∧ (mh_j h 35 j).toInt ≤ 1000000000000000) ∧ (mh_i h 35 13 = Int32.ofNat (n64 (fun i => !pqN ps i) ps.length)) ∧ (mh_i h 35 12 = Int32.ofNat (n64 (fun x => sF (mh_i h 41 x)) 12))
theorem CW.u {h : mh_H} {nb p0 : Nat} {TT UU : Nat} {en : Int → Nat} {A : ab} {ps : List pa} (q : CW h nb p0 TT UU en A ps) : ptr nb (fun i => mh_i h TT (p0 + i)) (fun i => mh_i h UU (p0 + i)) ps := q.1
theorem CW.s {h : mh_H} {nb p0 : Nat} {TT UU : Nat} {en : Int → Nat} {A : ab} {ps : List pa} (q : CW h nb p0 TT UU en A ps) : ∃ z : Nat → Int32, (∀ x, x < 12 → z x = 0) ∧ mh_i h 41 = sgN nb (fun i => mh_i h TT (p0 + i)) (fun i => mh_i h UU (p0 + i)) z ps.length := q.2.1
theorem CW.l {h : mh_H} {nb p0 : Nat} {TT UU : Nat} {en : Int → Nat} {A : ab} {ps : List pa} (q : CW h nb p0 TT UU en A ps) : (mh_j h 35 14).toInt = sI (pqL ps) ps.length := q.2.2.1
theorem CW.h {h : mh_H} {nb p0 : Nat} {TT UU : Nat} {en : Int → Nat} {A : ab} {ps : List pa} (q : CW h nb p0 TT UU en A ps) : (mh_j h 35 15).toInt = sI (pqH ps) ps.length := q.2.2.2.1
theorem CW.x {h : mh_H} {nb p0 : Nat} {TT UU : Nat} {en : Int → Nat} {A : ab} {ps : List pa} (q : CW h nb p0 TT UU en A ps) : (mh_j h 35 16).toInt = pqX ps := q.2.2.2.2.1
theorem CW.b {h : mh_H} {nb p0 : Nat} {TT UU : Nat} {en : Int → Nat} {A : ab} {ps : List pa} (q : CW h nb p0 TT UU en A ps) : ∀ j, j = 14 ∨ j = 15 ∨ j = 16 → -1000000000000000 ≤ (mh_j h 35 j).toInt ∧ (mh_j h 35 j).toInt ≤ 1000000000000000 := q.2.2.2.2.2.1
theorem CW.m {h : mh_H} {nb p0 : Nat} {TT UU : Nat} {en : Int → Nat} {A : ab} {ps : List pa} (q : CW h nb p0 TT UU en A ps) : mh_i h 35 13 = Int32.ofNat (n64 (fun i => !pqN ps i) ps.length) := q.2.2.2.2.2.2.1
theorem CW.f {h : mh_H} {nb p0 : Nat} {TT UU : Nat} {en : Int → Nat} {A : ab} {ps : List pa} (q : CW h nb p0 TT UU en A ps) : mh_i h 35 12 = Int32.ofNat (n64 (fun x => sF (mh_i h 41 x)) 12) := q.2.2.2.2.2.2.2
section FMs
variable {d : Nat} {h h1 : mh_H} {P R lP X Y C E TT UU SC SP nC nE nS nb na : Nat} {sN : Int → Prop} {en : Int → Nat} {A : ab} {l : List (Nat × Bool × tr)} {p0 a b : Nat}
theorem RG.fb (G : RG h P R lP X Y C E TT UU SC SP nC nE nS nb na A) : FB h 35 41 Y TT UU SP P R nE nS lP nb := by
  have F := G.F
  have q := G.q
  have nT := q.n TT (by simp)
  have nU := q.n UU (by simp)
  have n7 := q.n SP (by simp)
  exact ⟨G.g, G.f2, G.r0, G.p.r9, G.p.r10, F.f 35 11 41 (by decide +kernel), F.g 41 100 12 (by decide +kernel), F.l 41 100 12 (by decide +kernel), q.gY, q.r3, q.r4, q.r7, q.gT, q.gU, q.g7, q.lT, q.lU, q.l7, G.p.g9, G.p.g10, G.p.l9, G.p.l10, by omega, by omega, by omega, q.bE, q.bS, by have := G.p.b; omega⟩
theorem fG_gS {fr mx : Int32} {sg : Nat → Int32} {fl fh li ol oh : Int64} : fG fmW h (gS h 35 41 fr mx sg fl fh li ol oh) := by
  refine ⟨rfl, rfl, rfl, rfl, rfl, fun b j hw => ⟨?_, ?_⟩⟩
  · unfold fmW at hw
    rw [gS_i, if_neg (by omega), if_neg (by omega), if_neg (by omega)]
  · unfold fmW at hw
    rw [gS_j, if_neg (by omega), if_neg (by omega), if_neg (by omega), if_neg (by omega), if_neg (by omega)]
theorem prt_at {pl ph : Nat → Int64} : ∀ (ps : List pa) (q : Nat), prt pl ph q ps → ∀ i, i < ps.length → (pl (q + i)).toInt = (pq ps i).2.2.1 ∧ (ph (q + i)).toInt = (pq ps i).2.2.2 := by
  intro ps
  induction ps with
  | nil => intro q _ i hi; exact absurd hi (Nat.not_lt_zero _)
  | cons p ps ih =>
    intro q w i hi
    cases i with
    | zero => exact ⟨w.1, w.2.1⟩
    | succ i =>
      have := ih (q + 1) w.2.2 i (by have : i + 1 < ps.length + 1 := hi; omega)
      have e : q + (i + 1) = q + 1 + i := by omega
      rw [e]; exact this
/-- Ranges.form -/
theorem v_113 (G : RG h P R lP X Y C E TT UU SC SP nC nE nS nb na A) (Q' : LQ sN en A l) (hm : l.length ≤ 12000) (ha : a < nS) (hb : b < nS) (hp0 : mh_i h SP a = Int32.ofNat p0) (hp1 : mh_i h SP b = Int32.ofNat (p0 + l.length)) (hE : p0 + l.length ≤ nE) (hP : p0 + l.length ≤ lP) (hr : prt (mh_j h P) (mh_j h R) p0 (l.map (pgE en A))) (hu : ptr nb (fun i => mh_i h TT (p0 + i)) (fun i => mh_i h UU (p0 + i)) (l.map (pgE en A))) : ∃ h', fG fmW h h' ∧ CW h' nb p0 TT UU en A (l.map (pgE en A)) ∧ ∀ Q, mcall (d + 1) 113 [.ref 35, .int (Int32.ofNat a), .int (Int32.ofNat b)] h Q = Q none h' := by
  have LL : (l.map (pgE en A)).length = l.length := List.length_map _
  have nT := G.q.n TT (by simp)
  have nU := G.q.n UU (by simp)
  have hU : ∀ i, i < l.length → mh_i h UU (p0 + i) = -1 ∨ mh_i h UU (p0 + i) = -2 ∨ ∃ s, mh_i h UU (p0 + i) = Int32.ofNat s ∧ nb + s < 12 := fun i hi => by
    rcases (hu i (by rw [LL]; exact hi)).2 with ⟨-, q⟩ | ⟨-, q⟩ | ⟨s, q, -, r⟩
    · exact Or.inl q
    · exact Or.inr (Or.inl q)
    · exact Or.inr (Or.inr ⟨s, q, r⟩)
  have c := fun Q => c_113 (d := d) (Q := Q) (sg := mh_i h 41) (fl := mh_j h 35 14) (fh := mh_j h 35 15) (li := mh_j h 35 16) (ol := mh_j h 35 17) (oh := mh_j h 35 18) (fr := mh_i h 35 12) (mx := mh_i h 35 13) G.fb (a := a) (b := b) (p0 := p0) (m := l.length) ha hb hp0 hp1 hE hP hU
  have at' : ∀ i, i < l.length → (q_lo h TT P R p0 i).toInt = pqL (l.map (pgE en A)) i ∧ (q_hi h TT P R p0 i).toInt = pqH (l.map (pgE en A)) i ∧ (q_li h TT UU P p0 i).toInt = (if pqN (l.map (pgE en A)) i = true then pqL (l.map (pgE en A)) i else 0) ∧ q_mx h UU p0 i = !pqN (l.map (pgE en A)) i := fun i hi => by
    obtain ⟨t1, u1⟩ := hu i (by rw [LL]; exact hi)
    (try dsimp only at u1)
    obtain ⟨r1, r2⟩ := prt_at _ _ hr i (by rw [LL]; exact hi)
    obtain ⟨n, cs', r', x, y, ht, hq, ix, iy, ixy, hv, hw, hn⟩ := LQ_at G.T Q' hi
    have hx := ix
    have hy := iy
    obtain ⟨ix1, ix2⟩ := ix
    obtain ⟨iy1, iy2⟩ := iy
    have t1' : mh_i h TT (p0 + i) = if (pq (l.map (pgE en A)) i).1 = true then 1 else 0 := t1
    rw [hq] at r1 r2 t1'
    dsimp only at r1 r2 t1'
    have un : mh_i h UU (p0 + i) = -1 ↔ pqS (l.map (pgE en A)) i = -1 := by
      rcases u1 with ⟨e1, e2⟩ | ⟨e1, e2⟩ | ⟨s, e2, e1, e3⟩
      · exact ⟨fun _ => e1, fun _ => e2⟩
      · rw [e2, e1]; exact ⟨fun z => absurd z (by decide), fun z => by omega⟩
      · rw [e2, e1, rK_m1 (by omega)]; exact ⟨fun z => absurd z (fun q => q), fun z => by omega⟩
    have k12 : pqS (l.map (pgE en A)) i = -1 → x = y := fun z => by
      unfold pqS at z
      rw [hq] at z
      have := pk_1.mp z
      rw [ev_12 this] at hv
      cases hv; rfl
    unfold q_lo q_hi q_li q_mx pqL pqH pqN
    rw [hq]
    dsimp only
    cases htu : (l[i]).2.1 with
    | true =>
      rw [htu, if_pos rfl] at t1'
      rw [t1']
      refine ⟨?_, ?_, ?_, ?_⟩
      · rw [if_pos rfl, if_pos rfl, i64_n (by omega), r2]
      · rw [if_pos rfl, if_pos rfl, i64_n (by omega), r1]
      · by_cases z : pqS (l.map (pgE en A)) i = -1
        · rw [if_pos (un.mpr z), if_pos rfl, if_pos (decide_eq_true z), if_pos rfl, i64_n (by omega), r1, k12 z]
        · rw [if_neg (fun q => z (un.mp q)), if_neg (by rw [decide_eq_false z]; decide)]; rfl
      · by_cases z : pqS (l.map (pgE en A)) i = -1
        · rw [decide_eq_true (un.mpr z), decide_eq_true z]
        · rw [decide_eq_false (fun q => z (un.mp q)), decide_eq_false z]
    | false =>
      rw [htu, if_neg (by decide)] at t1'
      rw [t1']
      have n01 : ¬ (0 : Int32) = 1 := by decide
      refine ⟨?_, ?_, ?_, ?_⟩
      · rw [if_neg n01, if_neg (by decide), r1]
      · rw [if_neg n01, if_neg (by decide), r2]
      · by_cases z : pqS (l.map (pgE en A)) i = -1
        · rw [if_pos (un.mpr z), if_neg n01, if_pos (decide_eq_true z), if_neg (by decide), r1]
        · rw [if_neg (fun q => z (un.mp q)), if_neg (by rw [decide_eq_false z]; decide)]; rfl
      · by_cases z : pqS (l.map (pgE en A)) i = -1
        · rw [decide_eq_true (un.mpr z), decide_eq_true z]
        · rw [decide_eq_false (fun q => z (un.mp q)), decide_eq_false z]
  have bd : ∀ i, i < l.length → -2147483648 ≤ pqL (l.map (pgE en A)) i ∧ pqL (l.map (pgE en A)) i ≤ 2147483648 ∧ -2147483648 ≤ pqH (l.map (pgE en A)) i ∧ pqH (l.map (pgE en A)) i ≤ 2147483648 := fun i hi => by
    have := (LQ_pq G.T Q' hi).1
    omega
  obtain ⟨A1, A2, A3⟩ := s64_int (f := q_lo h TT P R p0) l.length (by omega) (fun i hi => by rw [(at' i hi).1]; have := bd i hi; omega)
  obtain ⟨B1, B2, B3⟩ := s64_int (f := q_hi h TT P R p0) l.length (by omega) (fun i hi => by rw [(at' i hi).2.1]; have := bd i hi; omega)
  obtain ⟨C1, C2, C3⟩ := s64_int (f := q_li h TT UU P p0) l.length (by omega) (fun i hi => by
    rw [(at' i hi).2.2.1]
    have := bd i hi
    split <;> omega)
  have hm' : ((l.length : Nat) : Int) ≤ 12000 := by omega
  have e1 : (fun i => mh_i (gS h 35 41 (Int32.ofNat (n64 (fun x => sF (sgN nb (fun i => mh_i h TT (p0 + i)) (fun i => mh_i h UU (p0 + i)) (fun j => if j < 12 then 0 else mh_i h 41 j) l.length x)) 12)) (Int32.ofNat (n64 (q_mx h UU p0) l.length)) (sgN nb (fun i => mh_i h TT (p0 + i)) (fun i => mh_i h UU (p0 + i)) (fun j => if j < 12 then 0 else mh_i h 41 j) l.length) (s64 (q_lo h TT P R p0) l.length) (s64 (q_hi h TT P R p0) l.length) (s64 (q_li h TT UU P p0) l.length) (mh_j h 35 17) (mh_j h 35 18)) TT (p0 + i)) = fun i => mh_i h TT (p0 + i) := funext fun i => by rw [gS_i, if_neg (by omega), if_neg (by omega), if_neg (by omega)]
  have e2 : (fun i => mh_i (gS h 35 41 (Int32.ofNat (n64 (fun x => sF (sgN nb (fun i => mh_i h TT (p0 + i)) (fun i => mh_i h UU (p0 + i)) (fun j => if j < 12 then 0 else mh_i h 41 j) l.length x)) 12)) (Int32.ofNat (n64 (q_mx h UU p0) l.length)) (sgN nb (fun i => mh_i h TT (p0 + i)) (fun i => mh_i h UU (p0 + i)) (fun j => if j < 12 then 0 else mh_i h 41 j) l.length) (s64 (q_lo h TT P R p0) l.length) (s64 (q_hi h TT P R p0) l.length) (s64 (q_li h TT UU P p0) l.length) (mh_j h 35 17) (mh_j h 35 18)) UU (p0 + i)) = fun i => mh_i h UU (p0 + i) := funext fun i => by rw [gS_i, if_neg (by omega), if_neg (by omega), if_neg (by omega)]
  refine ⟨gS h 35 41 (Int32.ofNat (n64 (fun x => sF (sgN nb (fun i => mh_i h TT (p0 + i)) (fun i => mh_i h UU (p0 + i)) (fun j => if j < 12 then 0 else mh_i h 41 j) l.length x)) 12)) (Int32.ofNat (n64 (q_mx h UU p0) l.length)) (sgN nb (fun i => mh_i h TT (p0 + i)) (fun i => mh_i h UU (p0 + i)) (fun j => if j < 12 then 0 else mh_i h 41 j) l.length) (s64 (q_lo h TT P R p0) l.length) (s64 (q_hi h TT P R p0) l.length) (s64 (q_li h TT UU P p0) l.length) (mh_j h 35 17) (mh_j h 35 18), fG_gS, ⟨?_, ⟨fun j => if j < 12 then 0 else mh_i h 41 j, fun x hx => if_pos hx, ?_⟩, ?_, ?_, ?_, ?_, ?_, ?_⟩, fun Q => ?_⟩
  · rw [e1, e2]; exact hu
  · funext x
    rw [e1, e2, LL, gS_i, if_neg (by omega), if_neg (by omega), if_pos rfl]
  · rw [gS_j, if_pos ⟨rfl, rfl⟩, A1, LL]
    exact sI_cong _ (fun i hi => (at' i hi).1)
  · rw [gS_j, if_neg (by omega), if_pos ⟨rfl, rfl⟩, B1, LL]
    exact sI_cong _ (fun i hi => (at' i hi).2.1)
  · rw [gS_j, if_neg (by omega), if_neg (by omega), if_pos ⟨rfl, rfl⟩, C1]
    unfold pqX
    rw [LL]
    exact sI_cong _ (fun i hi => (at' i hi).2.2.1)
  · rintro j (rfl | rfl | rfl)
    · rw [gS_j, if_pos ⟨rfl, rfl⟩]; omega
    · rw [gS_j, if_neg (by omega), if_pos ⟨rfl, rfl⟩]; omega
    · rw [gS_j, if_neg (by omega), if_neg (by omega), if_pos ⟨rfl, rfl⟩]; omega
  · rw [gS_i, if_neg (by omega), if_pos ⟨rfl, rfl⟩, LL]
    exact congrArg _ (n64_cong _ (fun i hi => (at' i hi).2.2.2))
  · rw [gS_i, if_pos ⟨rfl, rfl⟩]
    congr 1
  · have := c Q
    rw [gS_id] at this
    exact this
end FMs
