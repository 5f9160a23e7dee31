set_option maxRecDepth 100000
/-! Effect.split: its steps -/
def mine (n : Nat) (h : mh_H) (o : Nat) : Prop := mh_r h 34 2 = some o ∨ mh_r h 34 3 = some o ∨ mh_r h 34 4 = some o ∨ ∃ i, n ≤ i ∧ mh_r h 51 i = some o
def svW (n P R : Nat) (h : mh_H) (b j : Nat) : Prop := (b = 34 ∧ (j = 2 ∨ j = 3 ∨ j = 4 ∨ j = 6)) ∨ (b = 35 ∧ (j = 1 ∨ j = 4 ∨ j = 8 ∨ (12 ≤ j ∧ j ≤ 18))) ∨ (36 ≤ b ∧ b ≤ 38) ∨ b = 41 ∨ b = 52 ∨ b = P ∨ b = R ∨ (b = 51 ∧ n ≤ j) ∨ ∃ o, mine n h o ∧ o ≤ b ∧ b ≤ o + 2
def sS (n P R : Nat) (h h' : mh_H) : Prop := fD (svW n P R h) h h' ∧ ∀ o, mine n h' o → mine n h o ∨ mh_n h ≤ o
abbrev SV (h : mh_H) (P R lP Y C E TT UU SC SP nC nE nS nb na Ho Fa Be n : Nat) : Prop := (CF h) ∧ (CS h) ∧ (CP h P R lP) ∧ (SQ h Y C E TT UU SC SP nC nE nS) ∧ (mh_r h 35 0 = some Y) ∧ (mh_r h 35 1 = some Be) ∧ (mh_i h 35 2 = Int32.ofNat nb) ∧ (mh_i h 35 3 = Int32.ofNat na) ∧ (mh_r h 2 1 = some Y) ∧ (mh_r h 34 2 = some Ho) ∧ (mh_r h 34 3 = some Fa) ∧ (mh_r h 34 4 = some Be) ∧ (mh_i h 34 6 = Int32.ofNat n)
theorem SV.F {h : mh_H} {P R lP Y C E TT UU SC SP nC nE nS nb na Ho Fa Be n : Nat} (q : SV h P R lP Y C E TT UU SC SP nC nE nS nb na Ho Fa Be n) : CF h := q.1
theorem SV.S {h : mh_H} {P R lP Y C E TT UU SC SP nC nE nS nb na Ho Fa Be n : Nat} (q : SV h P R lP Y C E TT UU SC SP nC nE nS nb na Ho Fa Be n) : CS h := q.2.1
theorem SV.p {h : mh_H} {P R lP Y C E TT UU SC SP nC nE nS nb na Ho Fa Be n : Nat} (q : SV h P R lP Y C E TT UU SC SP nC nE nS nb na Ho Fa Be n) : CP h P R lP := q.2.2.1
theorem SV.q {h : mh_H} {P R lP Y C E TT UU SC SP nC nE nS nb na Ho Fa Be n : Nat} (q : SV h P R lP Y C E TT UU SC SP nC nE nS nb na Ho Fa Be n) : SQ h Y C E TT UU SC SP nC nE nS := q.2.2.2.1
theorem SV.r0 {h : mh_H} {P R lP Y C E TT UU SC SP nC nE nS nb na Ho Fa Be n : Nat} (q : SV h P R lP Y C E TT UU SC SP nC nE nS nb na Ho Fa Be n) : mh_r h 35 0 = some Y := q.2.2.2.2.1
theorem SV.r1 {h : mh_H} {P R lP Y C E TT UU SC SP nC nE nS nb na Ho Fa Be n : Nat} (q : SV h P R lP Y C E TT UU SC SP nC nE nS nb na Ho Fa Be n) : mh_r h 35 1 = some Be := q.2.2.2.2.2.1
theorem SV.f2 {h : mh_H} {P R lP Y C E TT UU SC SP nC nE nS nb na Ho Fa Be n : Nat} (q : SV h P R lP Y C E TT UU SC SP nC nE nS nb na Ho Fa Be n) : mh_i h 35 2 = Int32.ofNat nb := q.2.2.2.2.2.2.1
theorem SV.f3 {h : mh_H} {P R lP Y C E TT UU SC SP nC nE nS nb na Ho Fa Be n : Nat} (q : SV h P R lP Y C E TT UU SC SP nC nE nS nb na Ho Fa Be n) : mh_i h 35 3 = Int32.ofNat na := q.2.2.2.2.2.2.2.1
theorem SV.y {h : mh_H} {P R lP Y C E TT UU SC SP nC nE nS nb na Ho Fa Be n : Nat} (q : SV h P R lP Y C E TT UU SC SP nC nE nS nb na Ho Fa Be n) : mh_r h 2 1 = some Y := q.2.2.2.2.2.2.2.2.1
theorem SV.h2 {h : mh_H} {P R lP Y C E TT UU SC SP nC nE nS nb na Ho Fa Be n : Nat} (q : SV h P R lP Y C E TT UU SC SP nC nE nS nb na Ho Fa Be n) : mh_r h 34 2 = some Ho := q.2.2.2.2.2.2.2.2.2.1
theorem SV.h3 {h : mh_H} {P R lP Y C E TT UU SC SP nC nE nS nb na Ho Fa Be n : Nat} (q : SV h P R lP Y C E TT UU SC SP nC nE nS nb na Ho Fa Be n) : mh_r h 34 3 = some Fa := q.2.2.2.2.2.2.2.2.2.2.1
theorem SV.h4 {h : mh_H} {P R lP Y C E TT UU SC SP nC nE nS nb na Ho Fa Be n : Nat} (q : SV h P R lP Y C E TT UU SC SP nC nE nS nb na Ho Fa Be n) : mh_r h 34 4 = some Be := q.2.2.2.2.2.2.2.2.2.2.2.1
theorem SV.a6 {h : mh_H} {P R lP Y C E TT UU SC SP nC nE nS nb na Ho Fa Be n : Nat} (q : SV h P R lP Y C E TT UU SC SP nC nE nS nb na Ho Fa Be n) : mh_i h 34 6 = Int32.ofNat n := q.2.2.2.2.2.2.2.2.2.2.2.2
section SVs
variable {d : Nat} {h h1 h2 : mh_H} {P R lP Y C E TT UU SC SP nC nE nS nb na Ho Fa Be n : Nat} {A : ab}
theorem sS_id : sS n P R h h := ⟨fD_id, fun _ x => Or.inl x⟩
theorem sS_t (x : sS n P R h h1) (y : sS n P R h1 h2) : sS n P R h h2 := by
  have w : fz (fun b j => svW n P R h b j ∨ mh_n h ≤ b) h1 h2 := fz_w y.1.1 (fun b j _ z => by
    unfold svW at z ⊢
    rcases z with z | z | z | z | z | z | z | z | ⟨o, o1, o2⟩
    · exact Or.inl (by simp [z])
    · exact Or.inl (by simp [z])
    · exact Or.inl (by simp [z])
    · exact Or.inl (by simp [z])
    · exact Or.inl (by simp [z])
    · exact Or.inl (by simp [z])
    · exact Or.inl (by simp [z])
    · exact Or.inl (by simp [z])
    · rcases x.2 o o1 with q | q
      · exact Or.inl (Or.inr (Or.inr (Or.inr (Or.inr (Or.inr (Or.inr (Or.inr (Or.inr ⟨o, q, o2⟩))))))))
      · exact Or.inr (by omega))
  refine ⟨⟨fz_n (m := 0) (Nat.zero_le _) x.1.1 w, Int.le_trans y.1.2.1 x.1.2.1, Int.le_trans y.1.2.2 x.1.2.2⟩, fun o ho => ?_⟩
  have := x.1.1.1
  rcases y.2 o ho with q | q
  · exact x.2 o q
  · exact Or.inr (by omega)
theorem SV.ms (V : SV h P R lP Y C E TT UU SC SP nC nE nS nb na Ho Fa Be n) {m o : Nat} (x : mine m h o) : cs h o := by
  rcases x with x | x | x | ⟨i, -, x⟩
  · exact ⟨34, 2, Or.inl ⟨rfl, by omega⟩, x⟩
  · exact ⟨34, 3, Or.inl ⟨rfl, by omega⟩, x⟩
  · exact ⟨34, 4, Or.inl ⟨rfl, by omega⟩, x⟩
  · exact ⟨51, i, Or.inr (Or.inl rfl), x⟩
theorem cs_ap (S : CS h) {o p : Nat} (c1 : cs h o) (c2 : cs h p) (ne : o ≠ p) : o + 2 < p ∨ p + 2 < o := by
  have := so_ne (cs_so S c1).1 (cs_so S c2).1 ne
  omega
theorem SV.ne (V : SV h P R lP Y C E TT UU SC SP nC nE nS nb na Ho Fa Be n) : Ho ≠ Fa ∧ Ho ≠ Be ∧ Fa ≠ Be := by
  have p2 : isPl 34 2 := Or.inl ⟨rfl, by omega⟩
  have p3 : isPl 34 3 := Or.inl ⟨rfl, by omega⟩
  have p4 : isPl 34 4 := Or.inl ⟨rfl, by omega⟩
  refine ⟨fun z => ?_, fun z => ?_, fun z => ?_⟩
  · have := V.S.i 34 2 34 3 Ho p2 p3 V.h2 (by rw [z]; exact V.h3); omega
  · have := V.S.i 34 2 34 4 Ho p2 p4 V.h2 (by rw [z]; exact V.h4); omega
  · have := V.S.i 34 3 34 4 Fa p3 p4 V.h3 (by rw [z]; exact V.h4); omega
/-- with something known before -/
theorem SV.e (V : SV h P R lP Y C E TT UU SC SP nC nE nS nb na Ho Fa Be n) (k : RS h Be (some A)) (T : ab_T A) : ES h P R lP Be Y C E TT UU SC SP nC nE nS nb na Ho A ∧ ES h P R lP Be Y C E TT UU SC SP nC nE nS nb na Fa A := by
  have G : RG h P R lP Be Y C E TT UU SC SP nC nE nS nb na A := ⟨V.F, V.S, V.p, V.q, V.r0, V.r1, ⟨34, 4, Or.inl ⟨rfl, by omega⟩, V.h4⟩, k, T, V.f2, V.f3, V.y⟩
  obtain ⟨n1, n2, n3⟩ := V.ne
  exact ⟨⟨G, ⟨34, 2, Or.inl ⟨rfl, by omega⟩, V.h2⟩, n2⟩, ⟨G, ⟨34, 3, Or.inl ⟨rfl, by omega⟩, V.h3⟩, n3⟩⟩
/-- a State that isn't the split's stays -/
theorem sS_k (V : SV h P R lP Y C E TT UU SC SP nC nE nS nb na Ho Fa Be n) {m o : Nat} {v : Option ab} (x : sS m P R h h1) (c : cs h o) (no : ¬ mine m h o) (k : RS h o v) : RS h1 o v := by
  refine RS_fz x.1.1 (fun y hy j w => ?_) k
  have a := (cs_so V.S c).2
  unfold cAd at a
  have pP := V.p.s o c P (by simp)
  have pR := V.p.s o c R (by simp)
  unfold svW at w
  have key : (∃ o', mine m h o' ∧ o' ≤ o + y ∧ o + y ≤ o' + 2) → False := fun ⟨o', m1, m2, m3⟩ => by
    have := cs_ap V.S c (V.ms m1) (fun z => no (by rw [z]; exact m1))
    omega
  rcases w with w | w | w | w | w | w | w | w | w
  · omega
  · omega
  · omega
  · omega
  · omega
  · omega
  · omega
  · omega
  · exact key w
/-- what changes no reference -/
theorem sS_G (V : SV h P R lP Y C E TT UU SC SP nC nE nS nb na Ho Fa Be n) {m : Nat} (x : fG (st2 Ho Fa P R) h h1) : sS m P R h h1 := by
  have mo : ∀ o, mine m h1 o → mine m h o := fun o w => by unfold mine at w ⊢; rw [fG_r x] at w; exact w
  refine ⟨fD_w (fG_D x (fun Z hZ w => ?_)) (fun b j _ w => ?_), fun o w => Or.inl (mo o w)⟩
  · rw [V.y] at hZ
    cases hZ
    have n := V.q.n Y (by simp)
    have g := V.q.gY
    have k1 := so_k (cs_so V.S ⟨34, 2, Or.inl ⟨rfl, by omega⟩, V.h2⟩).1 g (by omega) (by omega)
    have k2 := so_k (cs_so V.S ⟨34, 3, Or.inl ⟨rfl, by omega⟩, V.h3⟩).1 g (by omega) (by omega)
    have g1 := g.1
    have gP := V.p.g9.1
    have gR := V.p.g10.1
    have bP : ¬ Y = P := fun e => by rw [e] at g1; omega
    have bR : ¬ Y = R := fun e => by rw [e] at g1; omega
    unfold st2 stW rgW fmW sW at w
    omega
  · have mH : mine m h Ho := Or.inl V.h2
    have mF : mine m h Fa := Or.inr (Or.inl V.h3)
    have one : ∀ H, mine m h H → stW H P R b j → svW m P R h b j := fun H mH w => by
      unfold svW
      rcases w with w | w | w
      · rcases w with ⟨e, e'⟩ | e | e | e | e | e
        · exact Or.inr (Or.inl ⟨e, by omega⟩)
        · exact Or.inr (Or.inr (Or.inl (by omega)))
        · exact Or.inr (Or.inr (Or.inl (by omega)))
        · exact Or.inr (Or.inr (Or.inl (by omega)))
        · exact Or.inr (Or.inr (Or.inr (Or.inr (Or.inr (Or.inl e)))))
        · exact Or.inr (Or.inr (Or.inr (Or.inr (Or.inr (Or.inr (Or.inl e))))))
      · rcases w with ⟨e, e'⟩ | e
        · exact Or.inr (Or.inl ⟨e, by omega⟩)
        · exact Or.inr (Or.inr (Or.inr (Or.inl e)))
      · rcases w with e | e | e | e
        · exact Or.inr (Or.inr (Or.inr (Or.inr (Or.inr (Or.inr (Or.inr (Or.inr ⟨H, mH, by omega, by omega⟩)))))))
        · exact Or.inr (Or.inr (Or.inr (Or.inr (Or.inr (Or.inr (Or.inr (Or.inr ⟨H, mH, by omega, by omega⟩)))))))
        · exact Or.inr (Or.inr (Or.inr (Or.inr (Or.inr (Or.inr (Or.inr (Or.inr ⟨H, mH, by omega, by omega⟩)))))))
        · exact Or.inr (Or.inr (Or.inr (Or.inr (Or.inl e))))
    exact w.elim (one Ho mH) (one Fa mF)
end SVs
