set_option maxRecDepth 100000
/-! the reference with a program that was laid out and analysed -/
section RSs
variable {h : mh_H} {sp : Nat → Nat → Bool} {NL : List Nat} {D : lyD} {Pt : Nat → lpt} {FK : Nat → Nat} {E0 : nv} {K : Nat → Int32} {m cR f e : Nat} {w0 : wd} {nm am : Nat → Nat → List Int32}
theorem skN_t {n : Nat} (hk : 3 ≤ tK n ∧ tK n ≤ 11) : skN n = if tK n < 5 then 1 else tK n - 3 := by
  unfold skN
  by_cases c : tK n = 3 ∨ tK n = 4
  · rw [if_pos c, if_pos (by omega)]
  · rw [if_neg c, if_neg (by omega)]
theorem RPg_s (B : RBz h) (Z : RZ h) (T : FT h (pD sp NL D FK)) (RP : RPZ h (fun a => nix sp NL a) Pt e) (RA : RAZ h (pgG sp NL Pt E0 e) (pD sp NL D FK) f e w0) (h49 : mh_i h 81 49 = (if 4000 < wW (DB (pgG sp NL Pt E0 e) f 0 e (some A00) w0).2.1 then 3 else 0)) (X : FX (mh_i h 93) (mh_i h 95) (mh_i h 97) (pD sp NL D FK)) (RH : RHp h sp NL K m Pt E0 D cR e) (LL : LW (pgG sp NL Pt E0 e) (pJ sp NL Pt E0) (pD sp NL D FK) f ((pD sp NL D FK).t ((pD sp NL D FK).c - 1)) 0 e (E00 (pD sp NL D FK))) (SU : SUC (pgG sp NL Pt E0 e) (fstP Pt e) (othP Pt e) f 0 e e) (dc : 1 ≤ D.c ∧ D.c ≤ 100000) (nmf : ∀ q, q < e → (∀ x, x < (Pt q).X.nb + cnZl (Pt q).L → nix sp NL ((Pt q).X.nA (Pt q).L x) < 8300 ∧ NMl h (nix sp NL ((Pt q).X.nA (Pt q).L x)) (nm q x) ∧ (nm q x).length ≤ 30) ∧ ∀ x, x < (Pt q).X.na + cnAl (Pt q).L → nix sp NL ((Pt q).X.aA (Pt q).L x) < 8300 ∧ NMl h (nix sp NL ((Pt q).X.aA (Pt q).L x)) (am q x) ∧ (am q x).length ≤ 30) : RPg h (pgG sp NL Pt E0 e) (pJ sp NL Pt E0) (pJ2 sp NL Pt E0) (fun p => apR sp NL (Pt p).L) (e + 1) (KF e (DB (pgG sp NL Pt E0 e) f 0 e (some A00) w0)) (KF e (DB (pgG sp NL Pt E0 e) f 0 e (some A00) w0)) (fstP Pt e) (othP Pt e) (AF e (DB (pgG sp NL Pt E0 e) f 0 e (some A00) w0)) (decide (4000 < wW (DB (pgG sp NL Pt E0 e) f 0 e (some A00) w0).2.1)) nm am (fun q => if q < e then Int32.ofNat (tP (Pt q).N) else 0) := by
  have he := RP.e
  have ke : (pgG sp NL Pt E0 e).kd e = 0 := if_neg (Nat.lt_irrefl e)
  have ne : (pgG sp NL Pt E0 e).n e = 0 := if_neg (Nat.lt_irrefl e)
  have ae : (pgG sp NL Pt E0 e).a e = 0 := if_neg (Nat.lt_irrefl e)
  have kq : ∀ q, q < e → (pgG sp NL Pt E0 e).kd q = skN (Pt q).N := fun q hq => if_pos hq
  have nq : ∀ q, q < e → (pgG sp NL Pt E0 e).n q = (Pt q).X.nb + cnZl (Pt q).L := fun q hq => if_pos hq
  have aq : ∀ q, q < e → (pgG sp NL Pt E0 e).a q = (Pt q).X.na + cnAl (Pt q).L := fun q hq => if_pos hq
  have po := fun q hq => (RP.p q (Nat.zero_le q) hq).1
  obtain ⟨z1, z2, z3, z4, z5, z6⟩ := RP.z
  refine RPg.of ⟨B, ⟨RP.c, ⟨by omega, by omega⟩, fun q hq => ?_, fun q hq => ?_⟩, fun p hp => ?_, fun p hp => MT_of RH (by omega), fun q hq => (RA.k q (by omega)).1, fun q hq => (RA.k q (by omega)).2.1, fun q hq => (RA.k q (by omega)).2.2, ⟨RA.n, RA.m, ?_⟩, fun p hp => ?_, fun p hp => ?_, Or.inr ⟨pD sp NL D FK, f, Z, T, X, RA.f, dc, LL, SU, fun hm => ?_⟩⟩
  · by_cases c : q < e
    · obtain ⟨-, -, u3, -, -, -, -, -, u9⟩ := po q c
      rw [nq q c]
      exact ⟨u3, u9.1⟩
    · have : q = e := by omega
      subst this
      rw [ne]
      exact ⟨z4, by decide⟩
  · by_cases c : q < e
    · obtain ⟨-, -, -, u4, -, -, -, -, u9⟩ := po q c
      rw [aq q c]
      exact ⟨u4, u9.2.1⟩
    · have : q = e := by omega
      subst this
      rw [ae]
      exact ⟨z5, by decide⟩
  · have hp' : p < e := by omega
    have w := RP_of RH hp'
    rw [nq p hp', aq p hp']
    exact w
  · rw [h49]
    by_cases c : 4000 < wW (DB (pgG sp NL Pt E0 e) f 0 e (some A00) w0).2.1
    · rw [if_pos c, decide_eq_true c]
      decide
    · rw [if_neg c, decide_eq_false c]
      decide
  · by_cases c : p < e
    · right
      obtain ⟨r, zw, tr1, t2, t3, t4, t5, -⟩ := RH.N p c
      obtain ⟨⟨y1, y2, -⟩, -⟩ := tr1
      have k3 := PIK_k (RH.P p c).k
      have ce := RH.e.2
      refine ⟨(Pt p).K, tK (Pt p).N, (po p c).1, by omega, y1, k3, by rw [kq p c]; exact skN_t k3, ?_⟩
      show _ = (if p < e then Int32.ofNat (tP (Pt p).N) else 0)
      rw [if_pos c]
      exact y2
    · left
      have : p = e := by omega
      subst this
      exact ⟨z1, ke, if_neg (Nat.lt_irrefl _)⟩
  · by_cases c : p < e
    · obtain ⟨-, -, -, -, -, -, u7, u8, -⟩ := po p c
      obtain ⟨v1, v2⟩ := nmf p c
      rw [nq p c, aq p c]
      exact ⟨fun x hx => ⟨_, (v1 x hx).1, u7 x hx, (v1 x hx).2.1, (v1 x hx).2.2⟩, fun x hx => ⟨_, (v2 x hx).1, u8 x hx, (v2 x hx).2.1, (v2 x hx).2.2⟩⟩
    · have : p = e := by omega
      subst this
      rw [ne, ae]
      exact ⟨fun x hx => absurd hx (Nat.not_lt_zero _), fun x hx => absurd hx (Nat.not_lt_zero _)⟩
  · have w4 : wW (DB (pgG sp NL Pt E0 e) f 0 e (some A00) w0).2.1 ≤ 4000 := by
      have := of_decide_eq_false hm
      omega
    refine ⟨⟨_, w4, RA.w⟩, fun q hq => ?_⟩
    have hq' : q ≤ e := hq
    by_cases c : q < e
    · obtain ⟨c1, c2, c3⟩ := RA.c w4 q c
      exact ⟨c1, fun _ => ⟨c2, c3⟩⟩
    · have : q = e := by omega
      subst this
      obtain ⟨e1, e2⟩ := RA.e
      exact ⟨⟨fun _ => ⟨by rw [e1, ne]; rfl, by rw [e2, ae]; rfl⟩, fun z => by omega⟩, fun z => absurd z (by show ¬ q < q; exact Nat.lt_irrefl q)⟩
end RSs
