set_option maxRecDepth 100000
/-! end, pure: what is so of a program that was laid out -/
theorem ts_tT (t : tr) : ts (tT t) ≤ ts t := by
  cases t with
  | leaf _ => exact Nat.le_refl _
  | branch n cs r =>
    show ts r ≤ 1 + ts cs + ts r
    omega
theorem ts_tF (t : tr) : ts (tF t) ≤ ts t := by
  cases t with
  | leaf _ => exact Nat.le_refl _
  | branch n cs r =>
    show 1 + ts cs + 0 ≤ 1 + ts cs + ts r
    omega
theorem th_tF (t : tr) : th (tF t) ≤ th t := by
  cases t with
  | leaf _ => exact Nat.le_refl _
  | branch n cs r =>
    show max (1 + th cs) 0 ≤ max (1 + th cs) (th r)
    omega
theorem ts_jT2 (n : Nat) (cs : tr) : ts (jT2 n cs) ≤ ts cs := by
  unfold jT2 jT
  by_cases c1 : tK n = 8 ∨ tK n = 9
  · rw [if_pos c1]
    exact ts_tF cs
  · rw [if_neg c1]
    by_cases c2 : tK n = 3 ∨ tK n = 5 ∨ tK n = 6
    · rw [if_pos c2]
      exact ts_tT cs
    · rw [if_neg c2]
      by_cases c3 : tK n = 7
      · rw [if_pos c3]
        exact Nat.le_trans (ts_tT _) (ts_tT cs)
      · rw [if_neg c3]
        exact Nat.le_refl _
theorem jC_19 (n : Nat) (cs : tr) : 1 ≤ jC n cs ∧ jC n cs ≤ 9 := by
  unfold jC
  (repeat' split) <;> omega
section PEs
variable {sp : Nat → Nat → Bool} {NL : List Nat} {Pt : Nat → lpt} {E0 : nv} {D : lyD} {q e f : Nat} {G : pgm} {FK : Nat → Nat}
theorem th_J2 (w : PTp sp NL Pt E0 D q) : th (jT2 (Pt q).N (rn sp NL (Pt q).C)) ≤ 300 := by
  have j8 : ¬ (tK (Pt q).N = 8 ∨ tK (Pt q).N = 9) → jT2 (Pt q).N (rn sp NL (Pt q).C) = jT (Pt q).N (rn sp NL (Pt q).C) := fun c => if_neg c
  have j3 : ∀ cs, (tK (Pt q).N = 3 ∨ tK (Pt q).N = 5 ∨ tK (Pt q).N = 6) → jT (Pt q).N cs = tT cs := fun cs c => if_pos c
  have j7 : ∀ cs, ¬ (tK (Pt q).N = 3 ∨ tK (Pt q).N = 5 ∨ tK (Pt q).N = 6) → tK (Pt q).N = 7 → jT (Pt q).N cs = tT (tT cs) := fun cs c c2 => by
    unfold jT
    rw [if_neg c, if_pos c2]
  have j0 : ∀ cs, ¬ (tK (Pt q).N = 3 ∨ tK (Pt q).N = 5 ∨ tK (Pt q).N = 6) → ¬ tK (Pt q).N = 7 → jT (Pt q).N cs = cs := fun cs c c2 => by
    unfold jT
    rw [if_neg c, if_neg c2]
  rcases w.k with ⟨k, a, t, e, -, -, g⟩ | ⟨k, a, q', e, -⟩ | ⟨k, a, x, cx, e, -, -, g, -⟩ | ⟨k, a, x, cx, y, cy, e, -, -, g, -⟩ | ⟨k, a, ff, t, g', e, -, -, -, g, -⟩ | ⟨k, c, cc, q', e, g, -⟩ | ⟨k, c, cc, e, g, -⟩ | ⟨k, x, cx, e, g, -⟩
  · rw [j8 (by omega), j3 _ (by omega), e]
    show th (rn sp NL t) ≤ 300
    rw [th_rn]
    rcases g with g | ⟨x, cx, -, g, -⟩
    · rw [g]
      exact Nat.zero_le _
    · exact g.2.2.2.2
  · rw [j8 (by omega), j0 _ (by omega) (by omega), th_rn, e]
    show max (1 + 0) (max (1 + 0) 0) ≤ 300
    omega
  · rw [j8 (by omega), j3 _ (by omega), e]
    show th (rn sp NL (tNd x cx)) ≤ 300
    rw [th_rn]
    exact g.2.2.2.2
  · rw [j8 (by omega), j3 _ (by omega), e]
    show th (rn sp NL (.branch x cx (tNd y cy))) ≤ 300
    rw [th_rn]
    exact g.2.2.2.2
  · rw [j8 (by omega), j7 _ (by omega) k, e]
    show th (rn sp NL t) ≤ 300
    rw [th_rn]
    cases t with
    | leaf _ => exact Nat.zero_le _
    | branch n cs r => exact g.1.2.2.2.2
  · have j : jT2 (Pt q).N (rn sp NL (Pt q).C) = tF (rn sp NL (Pt q).C) := if_pos k
    rw [j]
    refine Nat.le_trans (th_tF _) ?_
    rw [th_rn]
    exact g.2.2
  · rw [j8 (by omega), j0 _ (by omega) (by omega), th_rn]
    exact g.2.2
  · rw [j8 (by omega), j0 _ (by omega) (by omega), th_rn]
    exact g.2.2.2.2
/-- what was told before says nothing -/
theorem KF_u {s : Option ab} {w w' : wd} {n a : Nat} {r : Nat → Nat} (wb : WB G f 0 e n a r) (hw : wW w = wW w') : (∀ q, q ≤ e → KF e (DB G f 0 e s w) q = KF e (DB G f 0 e s w') q ∧ AF e (DB G f 0 e s w) q = AF e (DB G f 0 e s w') q) ∧ wW (DB G f 0 e s w).2.1 = wW (DB G f 0 e s w').2.1 := by
  obtain ⟨a1, -, a3, a4⟩ := DB_i G f 0 e n a r s w w' wb hw
  refine ⟨fun q hq => ?_, a3⟩
  unfold KF AF
  rw [← a3]
  by_cases c : 4000 < wW (DB G f 0 e s w).2.1
  · simp only [if_pos c, and_self]
  · by_cases d : q = e
    · simp only [if_neg c, if_pos d, a1, and_self]
    · simp only [if_neg c, if_neg d]
      exact a4 (by omega) q (Nat.zero_le _) (by omega)
theorem CSH_e {w0 : wd} {r : Nat → Nat} (wb : WB G f 0 e 0 0 r) (ge : G.n e = 0 ∧ G.a e = 0) : CSH G (e + 1) (KF e (DB G f 0 e (some A00) w0)) := by
  intro q hq
  have s0 : shp 0 0 r (some A00) := fun A eA => by
    cases eA
    exact ⟨A00_T, rfl, rfl, fun x hx => absurd hx (Nat.not_lt_zero _)⟩
  unfold KF
  by_cases c : 4000 < wW (DB G f 0 e (some A00) w0).2.1
  · rw [if_pos c]
    intro A eA
    cases eA
  · rw [if_neg c]
    by_cases d : q = e
    · rw [if_pos d, d, ge.1, ge.2]
      intro A eA
      obtain ⟨t1, t2, t3, -⟩ := keep_shp (DB_shp G f 0 e 0 0 r (some A00) w0 wb s0) A eA
      exact ⟨t1, t2, t3, fun x hx => absurd hx (Nat.not_lt_zero _)⟩
    · rw [if_neg d]
      exact DB_ts G f 0 e 0 0 r (some A00) w0 wb s0 (by omega) q (Nat.zero_le _) (by omega)
theorem kn_range (rs : ∀ a, sp a a = true) {K : Nat → Int32} {m : Nat} : ∀ t, tvT K m t → knT sp (List.range m) t := by
  intro t
  induction t with
  | leaf _ => exact fun _ => trivial
  | branch n cs r ih1 ih2 =>
    intro w
    refine ⟨fun k => ?_, ih1 w.2.1, ih2 w.2.2⟩
    obtain ⟨⟨x, x1, x2, -⟩, -⟩ := w.1.1 k
    rw [x2, Int.toNat_natCast]
    by_cases c : nix sp (List.range m) x < (List.range m).length
    · exact c
    · have := nix_no _ c x (List.mem_range.mpr x1)
      rw [rs] at this
      cases this
/-- the world of a program that was laid out -/
noncomputable def gYe (sp : Nat → Nat → Bool) (NL : List Nat) (Pt : Nat → lpt) (E0 : nv) (e f : Nat) (w0 : wd) (nm am : Nat → Nat → List Int32) : pgz := (pgG sp NL Pt E0 e, pJ sp NL Pt E0, pJ2 sp NL Pt E0, e + 1, fstP Pt e, othP Pt e, fun q => if q < e then Int32.ofNat (tP (Pt q).N) else 0, KF e (DB (pgG sp NL Pt E0 e) f 0 e (some A00) w0), AF e (DB (pgG sp NL Pt E0 e) f 0 e (some A00) w0), decide (4000 < wW (DB (pgG sp NL Pt E0 e) f 0 e (some A00) w0).2.1), nm, am)
/-- the world where there is none -/
noncomputable def gNo (sp : Nat → Nat → Bool) (NL : List Nat) (Pt : Nat → lpt) (E0 : nv) : pgz := (pgG sp NL Pt E0 0, pJ sp NL Pt E0, pJ2 sp NL Pt E0, 1, fun _ => 0, fun _ => 0, fun _ => 0, fun _ => some A00, fun _ => 0, false, fun _ _ => [], fun _ _ => [])
theorem pg_e : (pgG sp NL Pt E0 e).n e = 0 ∧ (pgG sp NL Pt E0 e).a e = 0 := ⟨show (if e < e then (Pt e).X.nb + cnZl (Pt e).L else 0) = 0 from if_neg (Nat.lt_irrefl e), show (if e < e then (Pt e).X.na + cnAl (Pt e).L else 0) = 0 from if_neg (Nat.lt_irrefl e)⟩
theorem PUR_y {Φ : Nat → Prop} {h : mh_H} {Y C E TT UU SC SP nC nE nS pa k w s : Nat} {w0 : wd} {nm am : Nat → Nat → List Int32} (H : PGH sp NL D) (hc : 0 < D.c) (ly : LYR D Pt f true (D.FT (D.c - 1)) k w s 0 e [] 0 (lyX0 D)) (he : e ≤ 249) (tc : ∀ q, q < e → ts (Pt q).C ≤ 26000) (I : ICm Y C E TT UU SC SP nC nE nS pa (pgG sp NL Pt (E00 (pD sp NL D FK)) e) (pJ2 sp NL Pt (E00 (pD sp NL D FK))) (e + 1) h) (O : ∀ q, q < e → OMx Φ (Pt q).L (Pt q).X) : PUR (gYe sp NL Pt (E00 (pD sp NL D FK)) e f w0 nm am) := by
  have PT := PT_top (FK := FK) H hc ly he
  have LL := LW_top (FK := FK) H hc ly he
  have SU := SUC_top PT (ow_top ly) ly
  have wb : WB (pgG sp NL Pt (E00 (pD sp NL D FK)) e) f 0 e 0 0 (fun _ => 0) := LW_WB rfl f _ 0 e _ LL
  have ge : (pgG sp NL Pt (E00 (pD sp NL D FK)) e).n e = 0 ∧ (pgG sp NL Pt (E00 (pD sp NL D FK)) e).a e = 0 := pg_e
  refine PUR.of ⟨rfl, DMS_of (cnt := e + 1) rfl LL SU ge, SHN_of H PT (ow_top ly) ly I O, ge, ?_, fun p hp => ?_, fun q hq => ?_, ⟨Nat.le_add_left 1 e, ?_⟩, CSH_e wb ge⟩
  · show (pgG sp NL Pt (E00 (pD sp NL D FK)) e).n 0 = 0 ∧ (pgG sp NL Pt (E00 (pD sp NL D FK)) e).a 0 = 0
    by_cases c : 0 < e
    · exact WB_1 wb c
    · have e0 : e = 0 := by omega
      subst e0
      exact ge
  · have hp' : p + 1 < e + 1 := hp
    refine ⟨th_J2 (PT p (by omega)), ?_, jC_19 _ _⟩
    refine Nat.le_trans (ts_jT2 (Pt p).N (rn sp NL (Pt p).C)) ?_
    rw [ts_rn]
    exact tc p (by omega)
  · have hq' : q < e + 1 - 1 := hq
    exact sp_350 PT q (by omega)
  · show e + 1 ≤ 250
    omega
theorem PUR_n : PUR (gNo sp NL Pt E0) := by
  have ge : (pgG sp NL Pt E0 0).n 0 = 0 ∧ (pgG sp NL Pt E0 0).a 0 = 0 := pg_e
  have ze : ∀ p, ¬ p + 1 < (gNo sp NL Pt E0).c := fun p hp => by
    have hp' : p + 1 < 1 := hp
    omega
  have z1 : ∀ p, p < (gNo sp NL Pt E0).c → p = 0 := fun p hp => by
    have hp' : p < 1 := hp
    omega
  refine PUR.of ⟨rfl, fun p A hp => absurd hp (ze p), SHN.of ⟨fun p hp => absurd hp (ze p), fun p hp => absurd hp (ze p), fun p hp => absurd hp (ze p), fun p hp x hx => ?_, fun p hp => absurd hp (ze p), fun p hp => absurd hp (ze p)⟩, ge, ge, fun p hp => absurd hp (ze p), fun q hq => ?_, ⟨Nat.le_refl 1, by show 1 ≤ 250; omega⟩, fun q hq => ?_⟩
  · rw [z1 p hp] at hx
    have hx' : x < (pgG sp NL Pt E0 0).a 0 := hx
    rw [ge.2] at hx'
    exact absurd hx' (Nat.not_lt_zero _)
  · have hq' : q < 1 - 1 := hq
    omega
  · rw [z1 q hq]
    intro A eA
    have eA' : some A00 = some A := eA
    cases eA'
    exact ⟨A00_T, ge.1.symm, ge.2.symm, fun x hx => by
      have hx' : x < (pgG sp NL Pt E0 0).a 0 := hx
      rw [ge.2] at hx'
      exact absurd hx' (Nat.not_lt_zero _)⟩
end PEs
