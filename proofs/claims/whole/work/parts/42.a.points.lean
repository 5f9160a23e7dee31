set_option maxRecDepth 100000
/-! the steps of a program's points -/
/-- by what it is: 1 var x = SUM, 2 var x, 3 var a[n], 4 x = SUM, 5 a[SUM] = SUM, 6 a call, 7 if or while, 8 assert, 9 return -/
noncomputable def fxp (c : Nat) (en : Int → Nat) (t : tr) (x sz : Nat) (tk : Option Nat) (A : ab) : fx3 :=
  if c = 1 then (a_set en A A A.n true t, none, (ev en A t none).2)
  else if c = 2 then (a_zero A, none, 0)
  else if c = 3 then (some (a_arr sz A), none, 0)
  else if c = 4 then (a_set en A A x false t, none, (ev en A t none).2)
  else if c = 5 then ((a_put en A x t (tT t)).1, none, (a_put en A x t (tT t)).2)
  else if c = 6 then ((a_call en A t (some A)).1, none, (a_call en A t (some A)).2)
  else if c = 7 then spl en t false false (some A) none
  else if c = 8 then ((spl en t false false (some A) none).1, none, spA 7 (spl en t false false (some A) none))
  else (a_ret en A tk t, none, (ev en A t none).2)
/-- the class's number of its kind -/
def kdp (c : Nat) (k : Nat) : Prop := (c = 1 ∧ k = 1) ∨ (c = 2 ∧ k = 1) ∨ (c = 3 ∧ k = 1) ∨ (c = 4 ∧ k = 2) ∨ (c = 5 ∧ k = 3) ∨ (c = 6 ∧ k = 4) ∨ (c = 7 ∧ (k = 5 ∨ k = 6)) ∨ (c = 8 ∧ k = 7) ∨ (c = 9 ∧ k = 8)
/-- a SUM by whatever is known at a point -/
def suA (h : mh_H) (C E TT UU SC SP nC nE nS pa nb na : Nat) (sN : Int → Prop) (en : Int → Nat) (n a : Nat) (rm : Nat → Nat) (t : tr) (sum : Nat) : Prop := ∃ c0 p0, ∀ A : ab, A.n = n → A.a = a → (∀ x, x < a → A.rm x = rm x) → SU h C E TT UU SC SP nC nE nS pa nb na sN en A t false sum c0 p0
/-- the SUMs of a row -/
def suR (h : mh_H) (C E TT UU SC SP nC nE nS pa nb na : Nat) (sN : Int → Prop) (en : Int → Nat) (n a : Nat) (rm : Nat → Nat) : tr → Nat → Prop
  | .leaf _, _ => True
  | .branch m cs r, sum => suA h C E TT UU SC SP nC nE nS pa nb na sN en n a rm (.branch m cs r) sum ∧ suR h C E TT UU SC SP nC nE nS pa nb na sN en n a rm r (sum + 1)
/-- what stands in the class's heap of a point: what it is -/
def PTC (h : mh_H) (Y C E TT UU SC SP nC nE nS pa : Nat) (p St nb na nm n a : Nat) (rm : Nat → Nat) (sN : Int → Prop) (en : Int → Nat) (c : Nat) (t : tr) (x sz : Nat) (tk : Option Nat) : Prop :=
  (c = 1 → n < 12 ∧ nb + nm = n ∧ mh_i h St 9 = 0 ∧ (∃ su sum, mh_i h St 11 = Int32.ofNat su ∧ 0 < su ∧ su < 1000 ∧ mh_i h St 10 = Int32.ofNat sum ∧ suA h C E TT UU SC SP nC nE nS pa nb na sN en n a rm t sum)) ∧
  (c = 2 → n < 12 ∧ mh_i h St 9 = 0 ∧ mh_i h St 11 = 0) ∧
  (c = 3 → a < 6 ∧ mh_i h St 9 = Int32.ofNat sz ∧ 0 < sz ∧ sz < 1000) ∧
  (c = 4 → x < n ∧ ∃ sl sum, nb + sl = x ∧ mh_i h St 8 = Int32.ofNat sl ∧ mh_i h St 10 = Int32.ofNat sum ∧ suA h C E TT UU SC SP nC nE nS pa nb na sN en n a rm t sum) ∧
  (c = 5 → x < a ∧ ∃ sl sum z, na + sl = x ∧ mh_i h St 8 = Int32.ofNat sl ∧ mh_i h St 9 = Int32.ofNat z ∧ rm x = z ∧ 1 ≤ z ∧ z ≤ 64 ∧ mh_i h St 10 = Int32.ofNat sum ∧ suA h C E TT UU SC SP nC nE nS pa nb na sN en n a rm t sum ∧ suA h C E TT UU SC SP nC nE nS pa nb na sN en n a rm (tT t) (sum + 1)) ∧
  (c = 6 → nb + nm = n ∧ ∃ su sum, mh_i h St 11 = Int32.ofNat su ∧ tl t = su ∧ n + su ≤ 12 ∧ sum < 900000 ∧ mh_i h St 10 = Int32.ofNat sum ∧ suR h C E TT UU SC SP nC nE nS pa nb na sN en n a rm t sum) ∧
  (c = 7 ∨ c = 8 → cn3 t ≤ 366 ∧ ∃ k0 ce KA WA nK KK WW, mh_i h St 12 = Int32.ofNat k0 ∧ CC h h pa Y C E TT UU SC SP nC nE nS nb na St KA WA nK ce sN en KK WW ∧ ∀ A : ab, A.n = n → A.a = a → (∀ x, x < a → A.rm x = rm x) → wC sN en A t false ∧ ∀ lP, pa ≤ lP → cq KK (rl h lP C E TT UU SC SP nC nE nS nb na sN en A WW) t false false k0 ce) ∧
  (c = 9 → (∀ y, tk = some y → y < n) ∧ tkF h p tk ∧ ∃ sum, mh_i h St 10 = Int32.ofNat sum ∧ suA h C E TT UU SC SP nC nE nS pa nb na sN en n a rm t sum)
section PTs
variable {d : Nat} {h : mh_H} {Y C E TT UU SC SP nC nE nS pa p St nb na nm n a : Nat} {rm : Nat → Nat} {sN : Int → Prop} {en : Int → Nat} {c : Nat} {t : tr} {x sz : Nat} {tk : Option Nat} {Fr kd : Nat} {A : ab}
theorem suR_r (hn : A.n = n) (ha : A.a = a) (hr : ∀ x, x < a → A.rm x = rm x) : ∀ t sum, suR h C E TT UU SC SP nC nE nS pa nb na sN en n a rm t sum → rSU h C E TT UU SC SP nC nE nS pa nb na sN en A t sum := by
  intro t
  induction t with
  | leaf _ => exact fun _ _ => trivial
  | branch m cs r _ ih =>
    intro sum u
    obtain ⟨⟨c0, p0, q⟩, u2⟩ := u
    exact ⟨⟨c0, p0, q A hn ha hr⟩, ih (sum + 1) u2⟩
/-- what Effect does at a point -/
theorem ef_p (q : CQ h Y C E TT UU SC SP nC nE nS nb na p pa St Fr kd A) (k : kdp c kd) (s3 : mh_i h St 3 = Int32.ofNat nm) (W : PTC h Y C E TT UU SC SP nC nE nS pa p St nb na nm n a rm sN en c t x sz tk) (hn : A.n = n) (ha : A.a = a) (hr : ∀ x, x < a → A.rm x = rm x) : ∃ h', sE h h' ∧ BS h' Y C E TT UU SC SP nC nE nS ∧ pv h' 34 2 (fxp c en t x sz tk A).1 ∧ (kd = 5 ∨ kd = 6 → pv h' 34 3 (fxp c en t x sz tk A).2.1) ∧ mh_i h' 34 8 = (fxp c en t x sz tk A).2.2 ∧ ∀ Q, mcall (d + 5) (if kd = 5 ∨ kd = 6 ∨ kd = 7 then 17 else 13) [.ref 34, .int (Int32.ofNat p), .ref Fr] h Q = Q none h' := by
  obtain ⟨W1, W2, W3, W4, W5, W6, W7, W9⟩ := W
  have mk : ∀ (O : Option ab) (al : Int32), (∃ h', CR h h' Y C E TT UU SC SP nC nE nS O al ∧ ∀ Q, mcall (d + 5) 13 [.ref 34, .int (Int32.ofNat p), .ref Fr] h Q = Q none h') → ¬ (kd = 5 ∨ kd = 6 ∨ kd = 7) → ∀ F : fx3, F.1 = O → F.2.2 = al → ∃ h', sE h h' ∧ BS h' Y C E TT UU SC SP nC nE nS ∧ pv h' 34 2 F.1 ∧ (kd = 5 ∨ kd = 6 → pv h' 34 3 F.2.1) ∧ mh_i h' 34 8 = F.2.2 ∧ ∀ Q, mcall (d + 5) (if kd = 5 ∨ kd = 6 ∨ kd = 7 then 17 else 13) [.ref 34, .int (Int32.ofNat p), .ref Fr] h Q = Q none h' := fun O al ⟨h', ⟨Ho, c1, c2, c3, c4, c5⟩, run⟩ nk F f1 f2 => ⟨h', c1, c2, ⟨Ho, c3, by rw [f1]; exact c4⟩, fun z => absurd (z.elim Or.inl (fun y => Or.inr (Or.inl y))) nk, by rw [f2]; exact c5, fun Q => by rw [if_neg nk]; exact run Q⟩
  rcases k with ⟨e, ek⟩ | ⟨e, ek⟩ | ⟨e, ek⟩ | ⟨e, ek⟩ | ⟨e, ek⟩ | ⟨e, ek⟩ | ⟨e, ek⟩ | ⟨e, ek⟩ | ⟨e, ek⟩ <;> subst e
  · subst ek
    obtain ⟨u1, u2, u3, su, sum, u4, u5, u6, u7, c0, p0, u8⟩ := W1 rfl
    exact mk _ _ (v_13v (d := d) q s3 (u2.trans hn.symm) (by rw [hn]; exact u1) u3 u4 u5 u6 u7 (u8 A hn ha hr)) (by decide) _ rfl rfl
  · subst ek
    obtain ⟨u1, u2, u3⟩ := W2 rfl
    exact mk _ _ (v_13z (d := d) q (by rw [hn]; exact u1) u2 u3) (by decide) _ rfl rfl
  · subst ek
    obtain ⟨u1, u2, u3, u4⟩ := W3 rfl
    exact mk _ _ (v_13a (d := d) q (by rw [ha]; exact u1) u2 u3 u4) (by decide) _ rfl rfl
  · subst ek
    obtain ⟨u1, sl, sum, u2, u3, u4, c0, p0, u5⟩ := W4 rfl
    have key := v_13s (d := d) q u3 (by rw [u2, hn]; exact u1) u4 (u5 A hn ha hr)
    rw [u2] at key
    exact mk _ _ key (by decide) _ rfl rfl
  · subst ek
    obtain ⟨u1, sl, sum, z, u2, u3, u4, u5, u6, u7, u8, ⟨c0, p0, u9⟩, ⟨c1, p1, u10⟩⟩ := W5 rfl
    have key := v_13p (d := d) q u3 (by rw [u2, ha]; exact u1) u4 (by rw [u2, hr x u1]; exact u5) u6 u7 u8 (u9 A hn ha hr) (u10 A hn ha hr)
    rw [u2] at key
    exact mk _ _ key (by decide) _ rfl rfl
  · subst ek
    obtain ⟨u1, su, sum, u2, u3, u4, u5, u6, u7⟩ := W6 rfl
    exact mk _ _ (v_13c (d := d) q s3 (u1.trans hn.symm) u6 u2 u3 (by rw [hn]; exact u4) u5 (suR_r hn ha hr t sum u7)) (by decide) _ rfl rfl
  · have hk : kd < 1000 := by rcases ek with z | z <;> (rw [z]; decide)
    have h7 : ¬ kd = 7 := by rcases ek with z | z <;> (rw [z]; decide)
    obtain ⟨u1, k0, ce, KA, WA, nK, KK, WW, u2, u3, u4⟩ := W7 (Or.inl rfl)
    obtain ⟨v1, v2⟩ := u4 A hn ha hr
    obtain ⟨h', Ho, Fa, o1, o2, o3, o4, o5, o6, o7, o8⟩ := v_17 (d := d) (kd := kd) (on := some A) (A0 := A) q.B q.hp q.b1 q.b2 q.s5 q.hb q.rS q.s0 hk u2 u3 v2 v1 u1 q.c q.n q.k (fun B hB => by cases hB; exact ⟨q.T, rfl, rfl, rfl⟩)
    refine ⟨h', o1, o2, ⟨Ho, o3, o5⟩, fun _ => ⟨Fa, o4, o6⟩, ?_, fun Q => by rw [if_pos (ek.elim Or.inl (fun z => Or.inr (Or.inl z)))]; exact o8 Q⟩
    rw [o7]
    unfold spA
    rw [if_neg (fun z => h7 z.1)]
    rfl
  · subst ek
    obtain ⟨u1, k0, ce, KA, WA, nK, KK, WW, u2, u3, u4⟩ := W7 (Or.inr rfl)
    obtain ⟨v1, v2⟩ := u4 A hn ha hr
    obtain ⟨h', Ho, Fa, o1, o2, o3, o4, o5, o6, o7, o8⟩ := v_17 (d := d) (kd := 7) (on := some A) (A0 := A) q.B q.hp q.b1 q.b2 q.s5 q.hb q.rS q.s0 (by decide) u2 u3 v2 v1 u1 q.c q.n q.k (fun B hB => by cases hB; exact ⟨q.T, rfl, rfl, rfl⟩)
    exact ⟨h', o1, o2, ⟨Ho, o3, o5⟩, fun z => absurd z (by decide), o7, fun Q => by rw [if_pos (by decide)]; exact o8 Q⟩
  · subst ek
    obtain ⟨u1, u2, sum, u3, c0, p0, u4⟩ := W9 rfl
    exact mk _ _ (v_13r (d := d) q u2 (fun y hy => by rw [hn]; exact u1 y hy) u3 (u4 A hn ha hr)) (by decide) _ rfl rfl
end PTs
