set_option maxRecDepth 100000
/-! Effect.split, over a COND: what it is said over -/
abbrev CC (h h0 : mh_H) (lP Y C E TT UU SC SP nC nE nS nb na St KA WA nK ce : Nat) (sN : Int → Prop) (en : Int → Nat) (KK WW : Nat → Int32) : Prop := (mg h St 9) ∧ (mh_i h St 13 = Int32.ofNat ce) ∧ (mh_r h Y 9 = some KA) ∧ (mg h KA 100) ∧ (mh_l h KA = nK) ∧ (mh_r h Y 10 = some WA) ∧ (mg h WA 100) ∧ (mh_l h WA = nK) ∧ (∀ x, x = KA ∨ x = WA → (9 ≤ x ∧ x ≤ 19) ∨ 2644 ≤ x) ∧ (ce ≤ nK) ∧ (nK < 1000000) ∧ (mh_i h KA = KK) ∧ (mh_i h WA = WW) ∧ (2644 ≤ mh_n h) ∧ (∀ A t tu sum c0 p0, SU h0 C E TT UU SC SP nC nE nS lP nb na sN en A t tu sum c0 p0 → SU h C E TT UU SC SP nC nE nS lP nb na sN en A t tu sum c0 p0)
theorem CC.g {h h0 : mh_H} {lP Y C E TT UU SC SP nC nE nS nb na St KA WA nK ce : Nat} {sN : Int → Prop} {en : Int → Nat} {KK WW : Nat → Int32} (q : CC h h0 lP Y C E TT UU SC SP nC nE nS nb na St KA WA nK ce sN en KK WW) : mg h St 9 := q.1
theorem CC.s {h h0 : mh_H} {lP Y C E TT UU SC SP nC nE nS nb na St KA WA nK ce : Nat} {sN : Int → Prop} {en : Int → Nat} {KK WW : Nat → Int32} (q : CC h h0 lP Y C E TT UU SC SP nC nE nS nb na St KA WA nK ce sN en KK WW) : mh_i h St 13 = Int32.ofNat ce := q.2.1
theorem CC.r9 {h h0 : mh_H} {lP Y C E TT UU SC SP nC nE nS nb na St KA WA nK ce : Nat} {sN : Int → Prop} {en : Int → Nat} {KK WW : Nat → Int32} (q : CC h h0 lP Y C E TT UU SC SP nC nE nS nb na St KA WA nK ce sN en KK WW) : mh_r h Y 9 = some KA := q.2.2.1
theorem CC.gK {h h0 : mh_H} {lP Y C E TT UU SC SP nC nE nS nb na St KA WA nK ce : Nat} {sN : Int → Prop} {en : Int → Nat} {KK WW : Nat → Int32} (q : CC h h0 lP Y C E TT UU SC SP nC nE nS nb na St KA WA nK ce sN en KK WW) : mg h KA 100 := q.2.2.2.1
theorem CC.lK {h h0 : mh_H} {lP Y C E TT UU SC SP nC nE nS nb na St KA WA nK ce : Nat} {sN : Int → Prop} {en : Int → Nat} {KK WW : Nat → Int32} (q : CC h h0 lP Y C E TT UU SC SP nC nE nS nb na St KA WA nK ce sN en KK WW) : mh_l h KA = nK := q.2.2.2.2.1
theorem CC.r10 {h h0 : mh_H} {lP Y C E TT UU SC SP nC nE nS nb na St KA WA nK ce : Nat} {sN : Int → Prop} {en : Int → Nat} {KK WW : Nat → Int32} (q : CC h h0 lP Y C E TT UU SC SP nC nE nS nb na St KA WA nK ce sN en KK WW) : mh_r h Y 10 = some WA := q.2.2.2.2.2.1
theorem CC.gW {h h0 : mh_H} {lP Y C E TT UU SC SP nC nE nS nb na St KA WA nK ce : Nat} {sN : Int → Prop} {en : Int → Nat} {KK WW : Nat → Int32} (q : CC h h0 lP Y C E TT UU SC SP nC nE nS nb na St KA WA nK ce sN en KK WW) : mg h WA 100 := q.2.2.2.2.2.2.1
theorem CC.lW {h h0 : mh_H} {lP Y C E TT UU SC SP nC nE nS nb na St KA WA nK ce : Nat} {sN : Int → Prop} {en : Int → Nat} {KK WW : Nat → Int32} (q : CC h h0 lP Y C E TT UU SC SP nC nE nS nb na St KA WA nK ce sN en KK WW) : mh_l h WA = nK := q.2.2.2.2.2.2.2.1
theorem CC.n {h h0 : mh_H} {lP Y C E TT UU SC SP nC nE nS nb na St KA WA nK ce : Nat} {sN : Int → Prop} {en : Int → Nat} {KK WW : Nat → Int32} (q : CC h h0 lP Y C E TT UU SC SP nC nE nS nb na St KA WA nK ce sN en KK WW) : ∀ x, x = KA ∨ x = WA → (9 ≤ x ∧ x ≤ 19) ∨ 2644 ≤ x := q.2.2.2.2.2.2.2.2.1
theorem CC.c {h h0 : mh_H} {lP Y C E TT UU SC SP nC nE nS nb na St KA WA nK ce : Nat} {sN : Int → Prop} {en : Int → Nat} {KK WW : Nat → Int32} (q : CC h h0 lP Y C E TT UU SC SP nC nE nS nb na St KA WA nK ce sN en KK WW) : ce ≤ nK := q.2.2.2.2.2.2.2.2.2.1
theorem CC.b {h h0 : mh_H} {lP Y C E TT UU SC SP nC nE nS nb na St KA WA nK ce : Nat} {sN : Int → Prop} {en : Int → Nat} {KK WW : Nat → Int32} (q : CC h h0 lP Y C E TT UU SC SP nC nE nS nb na St KA WA nK ce sN en KK WW) : nK < 1000000 := q.2.2.2.2.2.2.2.2.2.2.1
theorem CC.k {h h0 : mh_H} {lP Y C E TT UU SC SP nC nE nS nb na St KA WA nK ce : Nat} {sN : Int → Prop} {en : Int → Nat} {KK WW : Nat → Int32} (q : CC h h0 lP Y C E TT UU SC SP nC nE nS nb na St KA WA nK ce sN en KK WW) : mh_i h KA = KK := q.2.2.2.2.2.2.2.2.2.2.2.1
theorem CC.w {h h0 : mh_H} {lP Y C E TT UU SC SP nC nE nS nb na St KA WA nK ce : Nat} {sN : Int → Prop} {en : Int → Nat} {KK WW : Nat → Int32} (q : CC h h0 lP Y C E TT UU SC SP nC nE nS nb na St KA WA nK ce sN en KK WW) : mh_i h WA = WW := q.2.2.2.2.2.2.2.2.2.2.2.2.1
theorem CC.N {h h0 : mh_H} {lP Y C E TT UU SC SP nC nE nS nb na St KA WA nK ce : Nat} {sN : Int → Prop} {en : Int → Nat} {KK WW : Nat → Int32} (q : CC h h0 lP Y C E TT UU SC SP nC nE nS nb na St KA WA nK ce sN en KK WW) : 2644 ≤ mh_n h := q.2.2.2.2.2.2.2.2.2.2.2.2.2.1
theorem CC.u {h h0 : mh_H} {lP Y C E TT UU SC SP nC nE nS nb na St KA WA nK ce : Nat} {sN : Int → Prop} {en : Int → Nat} {KK WW : Nat → Int32} (q : CC h h0 lP Y C E TT UU SC SP nC nE nS nb na St KA WA nK ce sN en KK WW) : ∀ A t tu sum c0 p0, SU h0 C E TT UU SC SP nC nE nS lP nb na sN en A t tu sum c0 p0 → SU h C E TT UU SC SP nC nE nS lP nb na sN en A t tu sum c0 p0 := q.2.2.2.2.2.2.2.2.2.2.2.2.2.2
def rl (h0 : mh_H) (lP C E TT UU SC SP nC nE nS nb na : Nat) (sN : Int → Prop) (en : Int → Nat) (A0 : ab) (WW : Nat → Int32) (cs : tr) (k : Nat) : Prop := ∃ sum c0 c1 p0, WW k = Int32.ofNat sum ∧ ∀ A', A'.n = A0.n → A'.a = A0.a → A'.rm = A0.rm → SU h0 C E TT UU SC SP nC nE nS lP nb na sN en A' cs false sum c0 p0 ∧ SU h0 C E TT UU SC SP nC nE nS lP nb na sN en A' (tT cs) true (sum + 1) c1 (p0 + pn cs false)
section CCs
variable {d : Nat} {h h0 h1 : mh_H} {P R lP Y C E TT UU SC SP nC nE nS nb na Ho Fa Be n m St KA WA nK ce : Nat} {sN : Int → Prop} {en : Int → Nat} {KK WW : Nat → Int32} {A0 : ab}
theorem CC_s (V : SV h P R lP Y C E TT UU SC SP nC nE nS nb na Ho Fa Be n) (x : sS m P R h h1) (c : CC h h0 lP Y C E TT UU SC SP nC nE nS nb na St KA WA nK ce sN en KK WW) : CC h1 h0 lP Y C E TT UU SC SP nC nE nS nb na St KA WA nK ce sN en KK WW := by
  have z := x.1.1
  have k34 := (V.F.g 34 1 9 (by decide +kernel)).1
  have k35 := (V.F.g 35 5 19 (by decide +kernel)).1
  have k38 := (V.F.g 38 100 124 (by decide +kernel)).1
  have k41 := (V.F.g 41 100 12 (by decide +kernel)).1
  have k51 := (V.F.g 51 104 122 (by decide +kernel)).1
  have gs := c.g.1
  have nS : ¬ (St = 34 ∨ St = 35 ∨ St = 38 ∨ St = 41 ∨ St = 51) := fun q => by
    rcases q with e | e | e | e | e <;> rw [e] at gs <;> omega
  have nY := V.q.n Y (by simp)
  have nK := c.n KA (by simp)
  have nW := c.n WA (by simp)
  have ry := fun j => (sS_i V x V.q.gY (by omega) (by omega) (by omega) j).2
  exact ⟨fz_mg z c.g, by rw [(sS_i V x c.g (by omega) (by omega) nS 13).1]; exact c.s, by rw [ry]; exact c.r9, fz_mg z c.gK, by rw [fz_l z c.gK]; exact c.lK, by rw [ry]; exact c.r10, fz_mg z c.gW, by rw [fz_l z c.gW]; exact c.lW, c.n, c.c, c.b, by rw [← c.k]; exact funext fun j => (sS_i V x c.gK (by omega) (by omega) (by omega) j).1, by rw [← c.w]; exact funext fun j => (sS_i V x c.gW (by omega) (by omega) (by omega) j).1, Nat.le_trans c.N z.1, fun A t tu sum c0 p0 U => SU_s V x (c.u A t tu sum c0 p0 U)⟩
theorem sS_51 (V : SV h P R lP Y C E TT UU SC SP nC nE nS nb na Ho Fa Be n) (x : sS m P R h h1) {i : Nat} (hi : i < m) : mh_r h1 51 i = mh_r h 51 i := by
  have g := V.F.g 51 104 122 (by decide +kernel)
  have g1 := g.1
  have kP := V.p.g9.1
  have kR := V.p.g10.1
  refine (x.1.1.2.2 51 i g.2 (fun w => ?_)).2.2
  rcases w with w | w | w | w | w | w | w | w | ⟨o, o1, o2, o3⟩
  · omega
  · omega
  · omega
  · omega
  · omega
  · rw [← w] at kP; omega
  · rw [← w] at kR; omega
  · omega
  · have := so_k (cs_so V.S (V.ms o1)).1 g (by omega) (by omega)
    omega
theorem sS_up (V : SV h P R lP Y C E TT UU SC SP nC nE nS nb na Ho Fa Be n) (x : sS (m + 1) P R h h1) : sS m P R h h1 := by
  have up : ∀ o, mine (m + 1) h o → mine m h o := fun o w => by
    rcases w with w | w | w | ⟨i, i1, w⟩
    · exact Or.inl w
    · exact Or.inr (Or.inl w)
    · exact Or.inr (Or.inr (Or.inl w))
    · exact Or.inr (Or.inr (Or.inr ⟨i, by omega, w⟩))
  refine ⟨fD_w x.1 (fun b j _ w => ?_), fun o w => ?_⟩
  · rcases w with w | w | w | w | w | w | w | w | ⟨o, o1, o2⟩
    · exact Or.inl w
    · exact Or.inr (Or.inl w)
    · exact Or.inr (Or.inr (Or.inl w))
    · exact Or.inr (Or.inr (Or.inr (Or.inl w)))
    · exact Or.inr (Or.inr (Or.inr (Or.inr (Or.inl w))))
    · exact Or.inr (Or.inr (Or.inr (Or.inr (Or.inr (Or.inl w)))))
    · exact Or.inr (Or.inr (Or.inr (Or.inr (Or.inr (Or.inr (Or.inl w))))))
    · exact Or.inr (Or.inr (Or.inr (Or.inr (Or.inr (Or.inr (Or.inr (Or.inl ⟨w.1, by omega⟩)))))))
    · exact Or.inr (Or.inr (Or.inr (Or.inr (Or.inr (Or.inr (Or.inr (Or.inr ⟨o, up o o1, o2⟩)))))))
  · have tr' : mine (m + 1) h1 o → mine m h o ∨ mh_n h ≤ o := fun q => (x.2 o q).elim (fun z => Or.inl (up o z)) Or.inr
    rcases w with w | w | w | ⟨i, i1, w⟩
    · exact tr' (Or.inl w)
    · exact tr' (Or.inr (Or.inl w))
    · exact tr' (Or.inr (Or.inr (Or.inl w)))
    · by_cases q : i = m
      · rw [q, sS_51 V x (by omega)] at w
        exact Or.inl (Or.inr (Or.inr (Or.inr ⟨m, Nat.le_refl _, w⟩)))
      · exact tr' (Or.inr (Or.inr (Or.inr ⟨i, by omega, w⟩)))
theorem as_no (V : SV h P R lP Y C E TT UU SC SP nC nE nS nb na Ho Fa Be n) {i o : Nat} (e : mh_r h 51 i = some o) (hi : i < m) : ¬ mine m h o := fun w => by
  have p51 : isPl 51 i := Or.inr (Or.inl rfl)
  rcases w with w | w | w | ⟨i', i1, w⟩
  · have := V.S.i 34 2 51 i o (Or.inl ⟨rfl, by omega⟩) p51 w e; omega
  · have := V.S.i 34 3 51 i o (Or.inl ⟨rfl, by omega⟩) p51 w e; omega
  · have := V.S.i 34 4 51 i o (Or.inl ⟨rfl, by omega⟩) p51 w e; omega
  · have := V.S.i 51 i' 51 i o (Or.inr (Or.inl rfl)) p51 w e; omega
end CCs
