set_option maxRecDepth 100000
/-! the class's side: its cells, its Knowns (States), its room -/
abbrev CF (h : mh_H) : Prop := (∀ t ∈ cfK, mg h t.1 t.2.1 ∧ mh_l h t.1 = t.2.2) ∧ (∀ t ∈ cfR, mh_r h t.1 t.2.1 = some t.2.2)
theorem CF.k {h : mh_H} (q : CF h) : ∀ t ∈ cfK, mg h t.1 t.2.1 ∧ mh_l h t.1 = t.2.2 := q.1
theorem CF.r {h : mh_H} (q : CF h) : ∀ t ∈ cfR, mh_r h t.1 t.2.1 = some t.2.2 := q.2
theorem CF.g {h : mh_H} (H : CF h) (a k l : Nat) (w : (a, k, l) ∈ cfK) : mg h a k := (H.k _ w).1
theorem CF.l {h : mh_H} (H : CF h) (a k l : Nat) (w : (a, k, l) ∈ cfK) : mh_l h a = l := (H.k _ w).2
theorem CF.f {h : mh_H} (H : CF h) (a j t : Nat) (w : (a, j, t) ∈ cfR) : mh_r h a j = some t := H.r _ w
/-- where States are held -/
def isPl (b j : Nat) : Prop := (b = 34 ∧ (j = 2 ∨ j = 3 ∨ j = 4)) ∨ b = 51 ∨ (b = 53 ∧ j = 6) ∨ b = 54 ∨ b = 61 ∨ b = 62 ∨ b = 63 ∨ b = 64 ∨ b = 73
def cAd (o : Nat) : Prop := o = 42 ∨ o = 45 ∨ o = 48 ∨ o = 56 ∨ o = 75 ∨ o = 78 ∨ 2644 ≤ o
/-- a State that the class holds -/
def cs (h : mh_H) (o : Nat) : Prop := ∃ b j, isPl b j ∧ mh_r h b j = some o
abbrev CS (h : mh_H) : Prop := (∀ b j o, isPl b j → mh_r h b j = some o → so h o ∧ cAd o) ∧ (∀ b j b' j' o, isPl b j → isPl b' j' → mh_r h b j = some o → mh_r h b' j' = some o → b = b' ∧ j = j')
theorem CS.o {h : mh_H} (q : CS h) : ∀ b j o, isPl b j → mh_r h b j = some o → so h o ∧ cAd o := q.1
theorem CS.i {h : mh_H} (q : CS h) : ∀ b j b' j' o, isPl b j → isPl b' j' → mh_r h b j = some o → mh_r h b' j' = some o → b = b' ∧ j = j' := q.2
/-- the rows of parts' ranges -/
abbrev CP (h : mh_H) (P R lP : Nat) : Prop := (mh_r h 35 9 = some P) ∧ (mh_r h 35 10 = some R) ∧ (mg h P 101) ∧ (mg h R 101) ∧ (mh_l h P = lP) ∧ (mh_l h R = lP) ∧ (¬ P = R) ∧ (∀ x, x = P ∨ x = R → (39 ≤ x ∧ x ≤ 40) ∨ 2644 ≤ x) ∧ (∀ o, cs h o → ∀ x, x = P ∨ x = R → x < o ∨ o + 2 < x) ∧ (lP ≤ 60000)
theorem CP.r9 {h : mh_H} {P R lP : Nat} (q : CP h P R lP) : mh_r h 35 9 = some P := q.1
theorem CP.r10 {h : mh_H} {P R lP : Nat} (q : CP h P R lP) : mh_r h 35 10 = some R := q.2.1
theorem CP.g9 {h : mh_H} {P R lP : Nat} (q : CP h P R lP) : mg h P 101 := q.2.2.1
theorem CP.g10 {h : mh_H} {P R lP : Nat} (q : CP h P R lP) : mg h R 101 := q.2.2.2.1
theorem CP.l9 {h : mh_H} {P R lP : Nat} (q : CP h P R lP) : mh_l h P = lP := q.2.2.2.2.1
theorem CP.l10 {h : mh_H} {P R lP : Nat} (q : CP h P R lP) : mh_l h R = lP := q.2.2.2.2.2.1
theorem CP.d {h : mh_H} {P R lP : Nat} (q : CP h P R lP) : ¬ P = R := q.2.2.2.2.2.2.1
theorem CP.n {h : mh_H} {P R lP : Nat} (q : CP h P R lP) : ∀ x, x = P ∨ x = R → (39 ≤ x ∧ x ≤ 40) ∨ 2644 ≤ x := q.2.2.2.2.2.2.2.1
theorem CP.s {h : mh_H} {P R lP : Nat} (q : CP h P R lP) : ∀ o, cs h o → ∀ x, x = P ∨ x = R → x < o ∨ o + 2 < x := q.2.2.2.2.2.2.2.2.1
theorem CP.b {h : mh_H} {P R lP : Nat} (q : CP h P R lP) : lP ≤ 60000 := q.2.2.2.2.2.2.2.2.2
/-! the class's room -/
def cT (h : mh_H) : Nat := cnS h 51 122 + cnS h 61 250 + cnS h 62 250 + cnS h 63 250 + cnS h 64 250 + cnS h 54 250 + cnS h 73 250
def cY (h : mh_H) : Nat := match mh_r h 2 1 with
  | some Y => (mh_i h Y 5).toNatClampNeg
  | none => 0
def cG (h : mh_H) : Nat := if ln h 35 9 < cY h then 1 else 0
def cN (h : mh_H) : Int := (mh_n h : Int) - 3 * (cT h : Int) + 2 * (cG h : Int)
def cS (h : mh_H) : Int := (mh_s h : Int) - 330 * (cT h : Int) + 2 * ((cG h * cY h : Nat) : Int)
def fD (W : Nat → Nat → Prop) (h h' : mh_H) : Prop := fz W h h' ∧ cN h' ≤ cN h ∧ cS h' ≤ cS h
section FC
variable {W V : Nat → Nat → Prop} {h h1 h2 : mh_H}
theorem fD_id : fD W h h := ⟨fz_id, Int.le_refl _, Int.le_refl _⟩
theorem fD_t (x : fD W h h1) (y : fD W h1 h2) : fD W h h2 := ⟨fz_t x.1 y.1, Int.le_trans y.2.1 x.2.1, Int.le_trans y.2.2 x.2.2⟩
theorem fD_w (x : fD W h h1) (w : ∀ b j, b < mh_n h → W b j → V b j) : fD V h h1 := ⟨fz_w x.1 w, x.2⟩
theorem c_same (en : mh_n h1 = mh_n h) (es : mh_s h1 = mh_s h) (er : mh_r h1 = mh_r h) (el : mh_l h1 = mh_l h) (ey : ∀ Y, mh_r h 2 1 = some Y → mh_i h1 Y 5 = mh_i h Y 5) : cN h1 = cN h ∧ cS h1 = cS h := by
  have ec : ∀ a n, cnS h1 a n = cnS h a n := fun a n => by unfold cnS; rw [er]
  have e9 : ln h1 35 9 = ln h 35 9 := by unfold ln; rw [er, el]
  have ey' : cY h1 = cY h := by
    unfold cY
    rw [er]
    cases hq : mh_r h 2 1 with
    | none => rfl
    | some Y => dsimp only; rw [ey Y hq]
  have eg : cG h1 = cG h := by unfold cG; rw [e9, ey']
  have et : cT h1 = cT h := by unfold cT; rw [ec, ec, ec, ec, ec, ec, ec]
  unfold cN cS
  rw [en, es, et, eg, ey']
  exact ⟨rfl, rfl⟩
theorem fD_fq {U : Nat → Prop} (x : fq U h h1) (ny : ∀ Y, mh_r h 2 1 = some Y → ¬ U Y) : fD (fun b _ => U b) h h1 := by
  obtain ⟨a, b⟩ := c_same x.2.2.2.1 x.2.2.2.2.1 x.2.2.1 x.2.1 (fun Y hY => (x.2.2.2.2.2 Y (ny Y hY)).1 5)
  exact ⟨fz_fq x, Int.le_of_eq a, Int.le_of_eq b⟩
theorem fD_si {a k : Nat} {v : Int32} (w : W a k) (ny : ∀ Y, mh_r h 2 1 = some Y → ¬ (a = Y ∧ k = 5)) : fD W h (mh_si h a k v) := by
  obtain ⟨p, q⟩ := c_same (h := h) (h1 := mh_si h a k v) hn_si hs_si hr_si hl_si (fun Y hY => by rw [hi_si, if_neg (fun z => ny Y hY ⟨z.1.symm, z.2.symm⟩)])
  exact ⟨fz_si w, Int.le_of_eq p, Int.le_of_eq q⟩
theorem fD_sj {a k : Nat} {v : Int64} (w : W a k) : fD W h (mh_sj h a k v) := by
  obtain ⟨p, q⟩ := c_same (h := h) (h1 := mh_sj h a k v) hn_sj hs_sj hr_sj hl_sj (fun Y hY => by rw [hi_sj])
  exact ⟨fz_sj w, Int.le_of_eq p, Int.le_of_eq q⟩
end FC
/-! frames with no new cell and no reference changed -/
def fG (W : Nat → Nat → Prop) (h h' : mh_H) : Prop := mh_k h' = mh_k h ∧ mh_l h' = mh_l h ∧ mh_r h' = mh_r h ∧ mh_n h' = mh_n h ∧ mh_s h' = mh_s h ∧ ∀ b j, ¬ W b j → mh_i h' b j = mh_i h b j ∧ mh_j h' b j = mh_j h b j
section FGs
variable {W V : Nat → Nat → Prop} {h h1 h2 : mh_H} {P R lP : Nat}
theorem fG_id : fG W h h := ⟨rfl, rfl, rfl, rfl, rfl, fun _ _ _ => ⟨rfl, rfl⟩⟩
theorem fG_t (x : fG W h h1) (y : fG W h1 h2) : fG W h h2 := by
  obtain ⟨x1, x2, x3, x4, x5, x6⟩ := x
  obtain ⟨y1, y2, y3, y4, y5, y6⟩ := y
  exact ⟨y1.trans x1, y2.trans x2, y3.trans x3, y4.trans x4, y5.trans x5, fun b j hb => ⟨(y6 b j hb).1.trans (x6 b j hb).1, (y6 b j hb).2.trans (x6 b j hb).2⟩⟩
theorem fG_w (x : fG W h h1) (w : ∀ b j, W b j → V b j) : fG V h h1 := ⟨x.1, x.2.1, x.2.2.1, x.2.2.2.1, x.2.2.2.2.1, fun b j hb => x.2.2.2.2.2 b j (fun z => hb (w b j z))⟩
theorem fG_fq {U : Nat → Prop} (x : fq U h h1) : fG (fun b _ => U b) h h1 := ⟨x.1, x.2.1, x.2.2.1, x.2.2.2.1, x.2.2.2.2.1, fun b j hb => ⟨(x.2.2.2.2.2 b hb).1 j, (x.2.2.2.2.2 b hb).2 j⟩⟩
theorem fG_si {a k : Nat} {v : Int32} (w : W a k) : fG W h (mh_si h a k v) := ⟨rfl, rfl, rfl, rfl, rfl, fun b j hb => ⟨by rw [hi_si, if_neg (fun z => hb (by rw [z.1, z.2]; exact w))], rfl⟩⟩
theorem fG_sj {a k : Nat} {v : Int64} (w : W a k) : fG W h (mh_sj h a k v) := ⟨rfl, rfl, rfl, rfl, rfl, fun b j hb => ⟨rfl, by rw [hj_sj, if_neg (fun z => hb (by rw [z.1, z.2]; exact w))]⟩⟩
theorem fG_z (x : fG W h h1) : fz W h h1 := ⟨Nat.le_of_eq x.2.2.2.1.symm, fun b _ => ⟨by rw [x.1], by rw [x.2.1]⟩, fun b j _ hw => ⟨(x.2.2.2.2.2 b j hw).1, (x.2.2.2.2.2 b j hw).2, by rw [x.2.2.1]⟩⟩
theorem fG_D (x : fG W h h1) (ny : ∀ Y, mh_r h 2 1 = some Y → ¬ W Y 5) : fD W h h1 := by
  obtain ⟨a, b⟩ := c_same x.2.2.2.1 x.2.2.2.2.1 x.2.2.1 x.2.1 (fun Y hY => (x.2.2.2.2.2 Y 5 (ny Y hY)).1)
  exact ⟨fG_z x, Int.le_of_eq a, Int.le_of_eq b⟩
theorem fG_mg {o c : Nat} (x : fG W h h1) (g : mg h o c) : mg h1 o c := fz_mg (fG_z x) g
theorem fG_i {b j : Nat} (x : fG W h h1) (w : ¬ W b j) : mh_i h1 b j = mh_i h b j := (x.2.2.2.2.2 b j w).1
theorem fG_j {b j : Nat} (x : fG W h h1) (w : ¬ W b j) : mh_j h1 b j = mh_j h b j := (x.2.2.2.2.2 b j w).2
theorem fG_r (x : fG W h h1) : mh_r h1 = mh_r h := x.2.2.1
theorem fG_l (x : fG W h h1) : mh_l h1 = mh_l h := x.2.1
theorem so_fG {o : Nat} (x : fG W h h1) (s : so h o) : so h1 o := by
  obtain ⟨a, b, c, d, e, f, g⟩ := s
  exact ⟨fG_mg x a, by rw [fG_r x]; exact b, fG_mg x c, by rw [fG_l x]; exact d, by rw [fG_r x]; exact e, fG_mg x f, by rw [fG_l x]; exact g⟩
theorem CF_fG (x : fG W h h1) (H : CF h) : CF h1 := ⟨fun t ht => ⟨fG_mg x (H.k t ht).1, by rw [fG_l x]; exact (H.k t ht).2⟩, fun t ht => by rw [fG_r x]; exact H.r t ht⟩
theorem cs_fG {o : Nat} (x : fG W h h1) : cs h1 o ↔ cs h o := by unfold cs; rw [fG_r x]
theorem CS_fG (x : fG W h h1) (H : CS h) : CS h1 := ⟨fun b j o p e => by
  rw [fG_r x] at e
  exact ⟨so_fG x (H.o b j o p e).1, (H.o b j o p e).2⟩, fun b j b' j' o p p' e e' => by
  rw [fG_r x] at e e'
  exact H.i b j b' j' o p p' e e'⟩
theorem CP_fG (x : fG W h h1) (H : CP h P R lP) : CP h1 P R lP := ⟨by rw [fG_r x]; exact H.r9, by rw [fG_r x]; exact H.r10, fG_mg x H.g9, fG_mg x H.g10, by rw [fG_l x]; exact H.l9, by rw [fG_l x]; exact H.l10, H.d, H.n, fun o c => H.s o ((cs_fG x).mp c), H.b⟩
end FGs
theorem rS_id {h : mh_H} {o L G D P R : Nat} (h1 : ¬ G = L) (h2 : ¬ P = L) (h3 : ¬ P = G) (h4 : ¬ R = L) (h5 : ¬ R = G) (h6 : ¬ R = P) : rS h o L G D P R (mh_i h o 4) (mh_i h o 8) (mh_j h L) (mh_j h G) (mh_i h D) (mh_j h P) (mh_j h R) = h := by
  have e1 : (fun b k => if b = o ∧ k = 4 then mh_i h o 4 else if b = o ∧ k = 8 then mh_i h o 8 else if b = D then mh_i h D k else mh_i h b k) = mh_i h := by
    funext b k
    by_cases c : b = o ∧ k = 4
    · rw [if_pos c, c.1, c.2]
    · rw [if_neg c]
      by_cases c2 : b = o ∧ k = 8
      · rw [if_pos c2, c2.1, c2.2]
      · rw [if_neg c2]
        split
        · next z => rw [z]
        · rfl
  have e2 : (fun b k => if b = L then mh_j h L k else if b = G then mh_j h G k else if b = P then mh_j h P k else if b = R then mh_j h R k else mh_j h b k) = mh_j h := by
    funext b k
    repeat' split
    all_goals first | rfl | (next z => rw [z]) | skip
  unfold rS
  rw [e1, e2]; rfl
