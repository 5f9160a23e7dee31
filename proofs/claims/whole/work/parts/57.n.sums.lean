set_option maxRecDepth 100000
/-! SUMs of the grammar: shapes, heights, how many parts -/
def gxT : tr → Bool → Prop
  | .leaf _, false => False
  | .leaf _, true => True
  | .branch n cs _, false =>
    if tK n = 12 then iI (tV n)
    else if tK n = 13 then True
    else if tK n = 14 then (match cs with
      | .leaf _ => False
      | .branch m cs' r' => tK m = 13 ∧ ts cs' = 0 ∧ gxT r' false)
    else if tK n = 15 then gxT cs false
    else if tK n = 16 then (match cs with
      | .leaf _ => True
      | .branch l c1 (.branch g _ _) => ts c1 = 0 ∧ (tK l = 12 ∧ tK g = 12) ∧ iI (tV l) ∧ iI (tV g)
      | .branch _ _ (.leaf _) => False)
    else (tK n = 17 ∨ tK n = 20) ∧ (match cs with
      | .leaf _ => False
      | .branch m cs' r' => gxT (.branch m cs' r') false ∧ gxT r' true)
  | .branch n cs r, true => (tK n = 18 ∨ tK n = 19 ∨ tK n = 21 ∨ tK n = 22 ∨ tK n = 23) ∧ gxT cs false ∧ gxT r true
def PRj (Q : tr → Nat → Prop) (r : pqr) : Prop := ∀ t, r.2 = some t → Q t r.1
/-- what is so of SUM 0, TERM 1, FACTOR 2, more TERMs 3, more FACTORs 4 -/
def xqj (s d i : Nat) (t : tr) (j : Nat) : Prop :=
  (s < 3 → gxT t false ∧ pz t false ∧ th t + 2 * s ≤ 5 * (61 - d) + 1 ∧ sh t false + s ≤ 2 * (60 - d) + 3 ∧ 2 * pn t false ≤ j - i + 1 ∧ i < j ∧ d ≤ 60 ∧ ∃ n cs, t = tNd n cs) ∧
  (s = 3 → gxT t true ∧ pz t true ∧ th t ≤ 5 * (61 - d) ∧ sh t true ≤ 2 * (60 - d) + 2 ∧ 2 * pn t true ≤ j - i ∧ i ≤ j) ∧
  (s = 4 → gxT t true ∧ th t + 2 ≤ 5 * (61 - d) ∧ sh t true ≤ 2 * (60 - d) + 1 ∧ i ≤ j)
section GXs
variable {K : Nat → Int32} {P : Nat → Nat} {V : Nat → Int} {i j : Nat} {Q R : tr → Nat → Prop} {r : pqr}
theorem pj_no : PRj Q (i, none) := fun t e => by cases e
theorem pj_so {t : tr} (w : Q t i) : PRj Q (i, some t) := fun u e => by cases e; exact w
theorem pj_if {c : Prop} [Decidable c] {a b : pqr} (h1 : c → PRj Q a) (h2 : ¬ c → PRj Q b) : PRj Q (if c then a else b) := by
  by_cases q : c
  · rw [if_pos q]; exact h1 q
  · rw [if_neg q]; exact h2 q
theorem pj_tak {k : Int32} (h : K j = k → PRj Q r) : PRj Q (tak K k j r) := pj_if h (fun _ => pj_no)
theorem pj_bnd {g : tr → Nat → pqr} (h : PRj R r) (h2 : ∀ t j, R t j → PRj Q (g t j)) : PRj Q (bnd r g) := by
  rcases r with ⟨j, _ | t⟩
  · exact pj_no
  · exact h2 t j (h t rfl)
theorem xq_0 {s d i j : Nat} {t : tr} (hs : s < 3) (w : gxT t false ∧ pz t false ∧ th t + 2 * s ≤ 5 * (61 - d) + 1 ∧ sh t false + s ≤ 2 * (60 - d) + 3 ∧ 2 * pn t false ≤ j - i + 1 ∧ i < j ∧ d ≤ 60 ∧ ∃ n cs, t = tNd n cs) : xqj s d i t j := ⟨fun _ => w, fun z => by omega, fun z => by omega⟩
theorem xq_3 {d i j : Nat} {t : tr} (w : gxT t true ∧ pz t true ∧ th t ≤ 5 * (61 - d) ∧ sh t true ≤ 2 * (60 - d) + 2 ∧ 2 * pn t true ≤ j - i ∧ i ≤ j) : xqj 3 d i t j := ⟨fun z => absurd z (by decide), fun _ => w, fun z => absurd z (by decide)⟩
theorem xq_4 {d i j : Nat} {t : tr} (w : gxT t true ∧ th t + 2 ≤ 5 * (61 - d) ∧ sh t true ≤ 2 * (60 - d) + 1 ∧ i ≤ j) : xqj 4 d i t j := ⟨fun z => absurd z (by decide), fun z => absurd z (by decide), fun _ => w⟩
theorem th_N {n : Nat} {cs : tr} : th (tNd n cs) = 1 + th cs := by
  show max (1 + th cs) 0 = _
  omega
theorem tE_k {k p : Nat} {v : Int} (hk : k < 64) : tK (tE k p v) = k := tE_K hk
/-- one code, one part -/
theorem xq_l {s d i j k p : Nat} {v : Int} {cs : tr} (hs : s < 3) (hd : d ≤ 60) (hij : i < j) (hk : k = 12 ∨ k = 13 ∨ k = 16) (g : gxT (tNd (tE k p v) cs) false) (ht : th cs ≤ 1) : xqj s d i (tNd (tE k p v) cs) j := by
  have kk : tK (tE k p v) = k := tE_k (by omega)
  refine xq_0 hs ⟨g, ?_, ?_, ?_, ?_, hij, hd, _, _, rfl⟩
  · unfold tNd
    rcases cs with _ | ⟨_, _, _⟩
    · rw [pz, kk, if_neg (by omega), if_neg (by omega)]
      trivial
    · rw [pz, kk, if_neg (by omega), if_neg (by omega)]
      trivial
  · rw [th_N]; omega
  · have : sh (tNd (tE k p v) cs) false = 1 := by
      unfold tNd
      rcases cs with _ | ⟨_, _, _⟩
      · rw [sh, kk]
        rcases hk with e | e | e
        · rw [if_pos e]
        · rw [if_neg (by omega), if_pos e]
        · rw [if_neg (by omega), if_neg (by omega), if_neg (by omega), if_neg (by omega), if_pos e]
      · rw [sh, kk]
        rcases hk with e | e | e
        · rw [if_pos e]
        · rw [if_neg (by omega), if_pos e]
        · rw [if_neg (by omega), if_neg (by omega), if_neg (by omega), if_neg (by omega), if_pos e]
    omega
  · have : pn (tNd (tE k p v) cs) false = 1 := by
      unfold tNd
      rcases cs with _ | ⟨_, _, _⟩
      · rw [pn, kk, if_neg (by omega), if_neg (by omega)]
      · rw [pn, kk, if_neg (by omega), if_neg (by omega)]
    omega
theorem gx_r {x : Nat} {cx r r' : tr} : gxT (.branch x cx r) false ↔ gxT (.branch x cx r') false := by
  rcases cx with _ | ⟨_, _, _⟩
  · exact Iff.rfl
  · exact Iff.rfl
theorem pz_r {x : Nat} {cx r r' : tr} : pz (.branch x cx r) false ↔ pz (.branch x cx r') false := by
  rcases cx with _ | ⟨_, _, _⟩
  · exact Iff.rfl
  · exact Iff.rfl
theorem sh_r {x : Nat} {cx r r' : tr} : sh (.branch x cx r) false = sh (.branch x cx r') false := by
  rcases cx with _ | ⟨_, _, _⟩
  · rfl
  · rfl
theorem pn_r {x : Nat} {cx r r' : tr} : pn (.branch x cx r) false = pn (.branch x cx r') false := by
  rcases cx with _ | ⟨_, _, _⟩
  · rfl
  · rfl
theorem lim_q (hV : ∀ i, K i = 3 → 0 ≤ V i ∧ V i ≤ 2147483647) (hP : ∀ i, P i < 65536) {i : Nat} : PRj (fun t j => i < j ∧ ∃ p v, t = tL (tE 12 p v) ∧ iI (tV (tE 12 p v))) (pLim K P V i) := by
  unfold pLim
  refine pj_if (fun _ => pj_tak fun k3 => pj_so ⟨by omega, _, _, rfl, ?_⟩) (fun _ => pj_tak fun k3 => pj_so ⟨by omega, _, _, rfl, ?_⟩)
  · rw [tE_V (by decide) (hP i)]
    have := hV _ k3
    unfold iI
    omega
  · rw [tE_V (by decide) (hP i)]
    have := hV _ k3
    unfold iI
    omega
/-- a sum or a product -/
theorem gx_17 {k p x : Nat} {v : Int} {cx r : tr} (hk : k = 17 ∨ k = 20) (a : gxT (tNd x cx) false) (b : gxT r true) : gxT (tNd (tE k p v) (.branch x cx r)) false := by
  have kk : tK (tE k p v) = k := tE_k (by omega)
  unfold tNd
  rw [gxT, kk, if_neg (by omega), if_neg (by omega), if_neg (by omega), if_neg (by omega), if_neg (by omega)]
  exact ⟨hk, (gx_r (r' := .leaf ())).mpr a, b⟩
theorem sh_17j {k p x : Nat} {v : Int} {cx r : tr} (hk : k = 17 ∨ k = 20) : sh (tNd (tE k p v) (.branch x cx r)) false = max (sh (tNd x cx) false) (1 + sh r true) := by
  have kk : tK (tE k p v) = k := tE_k (by omega)
  unfold tNd
  rw [sh, kk, if_neg (by omega), if_neg (by omega), if_neg (by omega), if_neg (by omega), if_neg (by omega)]
  show max (sh (.branch x cx r) false) (1 + sh r true) = _
  rw [sh_r (r' := .leaf ())]
theorem pgX_q (hV : ∀ i, K i = 3 → 0 ≤ V i ∧ V i ≤ 2147483647) (hP : ∀ i, P i < 65536) : ∀ f s d i, s < 5 → (0 < s → d ≤ 60) → PRj (xqj s d i) (pgX K P V f s d i) := by
  intro f
  induction f with
  | zero => exact fun s d i _ _ => pj_no
  | succ f ih =>
    intro s d i hs hd
    have i0 := fun d i => ih 0 d i (by decide) (fun z => absurd z (by decide))
    have hs' : s = 0 ∨ s = 1 ∨ s = 2 ∨ s = 3 ∨ s = 4 := by omega
    rcases hs' with e | e | e | e | e <;> subst e
    · rw [pgX_0]
      refine pj_if (fun _ => pj_no) (fun c => pj_bnd (ih 1 d i (by decide) (fun _ => by omega)) fun t j w => ?_)
      obtain ⟨w1, w2, w3, w4, w5, w6, w7, x, cx, e⟩ := w.1 (by decide)
      refine pj_if (fun _ => pj_bnd (ih 3 d j (by decide) (fun _ => by omega)) fun r k v => pj_so ?_) (fun _ => pj_so (xq_0 (by decide) ⟨w1, w2, by omega, by omega, w5, w6, w7, x, cx, e⟩))
      obtain ⟨v1, v2, v3, v4, v5, v6⟩ := v.2.1 rfl
      subst e
      have kk : tK (tE 17 (tR (tNd x cx)) 0) = 17 := tE_k (by decide)
      refine xq_0 (by decide) ⟨gx_17 (Or.inl rfl) w1 v1, ?_, ?_, ?_, ?_, by omega, w7, _, _, rfl⟩
      · show pz (.branch (tE 17 (tR (tNd x cx)) 0) (.branch x cx r) (.leaf ())) false
        rw [pz, kk, if_neg (by decide), if_pos rfl]
        exact ⟨(pz_r (r' := .leaf ())).mpr w2, v2⟩
      · rw [th_N]
        rw [th_N] at w3
        show 1 + max (1 + th cx) (th r) + 2 * 0 ≤ _
        omega
      · rw [show tA (tNd x cx) r = .branch x cx r from rfl, sh_17j (Or.inl rfl)]
        omega
      · have : pn (tNd (tE 17 (tR (tNd x cx)) 0) (tA (tNd x cx) r)) false = pn (tNd x cx) false + pn r true := by
          show pn (.branch (tE 17 (tR (tNd x cx)) 0) (.branch x cx r) (.leaf ())) false = _
          rw [pn, kk, if_neg (by decide), if_pos rfl]
          show pn (.branch x cx r) false + pn r true = _
          rw [pn_r (r' := .leaf ())]
          rfl
        omega
    · have hd' := hd (by decide)
      rw [pgX_1]
      refine pj_bnd (ih 2 d i (by decide) (fun _ => hd')) fun t j w => ?_
      obtain ⟨w1, w2, w3, w4, w5, w6, w7, x, cx, e⟩ := w.1 (by decide)
      refine pj_if (fun _ => pj_bnd (ih 4 d j (by decide) (fun _ => hd')) fun r k v => pj_so ?_) (fun _ => pj_so (xq_0 (by decide) ⟨w1, w2, by omega, by omega, w5, w6, w7, x, cx, e⟩))
      obtain ⟨v1, v3, v4, v6⟩ := v.2.2 rfl
      subst e
      have kk : tK (tE 20 (tR (tNd x cx)) 0) = 20 := tE_k (by decide)
      refine xq_0 (by decide) ⟨gx_17 (Or.inr rfl) w1 v1, ?_, ?_, ?_, ?_, by omega, w7, _, _, rfl⟩
      · show pz (.branch (tE 20 (tR (tNd x cx)) 0) (.branch x cx r) (.leaf ())) false
        rw [pz, kk, if_neg (by decide), if_neg (by decide)]
        trivial
      · rw [th_N]
        rw [th_N] at w3
        show 1 + max (1 + th cx) (th r) + 2 * 1 ≤ _
        omega
      · rw [show tA (tNd x cx) r = .branch x cx r from rfl, sh_17j (Or.inr rfl)]
        omega
      · have : pn (tNd (tE 20 (tR (tNd x cx)) 0) (tA (tNd x cx) r)) false = 1 := by
          show pn (.branch (tE 20 (tR (tNd x cx)) 0) (.branch x cx r) (.leaf ())) false = _
          rw [pn, kk, if_neg (by decide), if_neg (by decide)]
        omega
    · have hd' := hd (by decide)
      rw [pgX_2]
      refine pj_if (fun k3 => pj_so ?_) (fun _ => pj_if (fun k2 => pj_if (fun _ => pj_bnd (i0 (d + 1) (i + 2)) fun t j w => pj_tak fun _ => pj_so ?_) (fun _ => pj_so ?_)) (fun _ => pj_if (fun _ => pj_if (fun _ => pj_no) (fun c => pj_bnd (ih 2 (d + 1) (i + 1) (by decide) (fun _ => by omega)) fun t j w => pj_so ?_)) (fun _ => pj_if (fun _ => pj_if (fun _ => pj_bnd (lim_q hV hP) fun a j w => pj_tak fun _ => pj_bnd (lim_q hV hP) fun b k w2 => pj_tak fun _ => pj_so ?_) (fun _ => pj_so ?_)) (fun _ => pj_if (fun _ => pj_bnd (i0 (d + 1) (i + 1)) fun t j w => pj_tak fun _ => pj_so ?_) (fun _ => pj_no)))))
      · refine xq_l (by decide) hd' (by omega) (Or.inl rfl) ?_ (by decide)
        have := hV i k3
        unfold tNd
        rw [gxT, tE_k (by decide), if_pos rfl, tE_V (by decide) (hP i)]
        unfold iI
        omega
      · obtain ⟨w1, w2, w3, w4, w5, w6, w7, x, cx, e⟩ := w.1 (by decide)
        have kk : tK (tE 14 (P i) 0) = 14 := tE_k (by decide)
        refine xq_0 (by decide) ⟨?_, ?_, ?_, ?_, ?_, by omega, hd', _, _, rfl⟩
        · unfold tNd
          rw [gxT, kk, if_neg (by decide), if_neg (by decide), if_pos rfl]
          exact ⟨tE_k (by decide), rfl, w1⟩
        · unfold tNd
          rw [pz, kk, if_neg (by decide), if_neg (by decide)]
          trivial
        · rw [th_N]
          show 1 + max (1 + 0) (th t) + 2 * 2 ≤ _
          omega
        · have : sh (tNd (tE 14 (P i) 0) (.branch (tE 13 (P i) i) (.leaf ()) t)) false = sh t false := by
            unfold tNd
            rw [sh, kk, if_neg (by decide), if_neg (by decide), if_pos rfl]
          omega
        · have : pn (tNd (tE 14 (P i) 0) (.branch (tE 13 (P i) i) (.leaf ()) t)) false = 1 := by
            unfold tNd
            rw [pn, kk, if_neg (by decide), if_neg (by decide)]
          omega
      · refine xq_l (by decide) hd' (by omega) (Or.inr (Or.inl rfl)) ?_ (by decide)
        unfold tNd
        rw [gxT, tE_k (by decide), if_neg (by decide), if_pos rfl]
        trivial
      · obtain ⟨w1, w2, w3, w4, w5, w6, w7, x, cx, e⟩ := w.1 (by decide)
        have kk : tK (tE 15 (P i) 0) = 15 := tE_k (by decide)
        refine xq_0 (by decide) ⟨?_, ?_, ?_, ?_, ?_, by omega, hd', _, _, rfl⟩
        · unfold tNd
          rcases t with _ | ⟨_, _, _⟩
          · rw [gxT, kk, if_neg (by decide), if_neg (by decide), if_neg (by decide), if_pos rfl]
            exact w1
          · rw [gxT, kk, if_neg (by decide), if_neg (by decide), if_neg (by decide), if_pos rfl]
            exact w1
        · unfold tNd
          rcases t with _ | ⟨_, _, _⟩
          · rw [pz, kk, if_pos rfl]
            exact w2
          · rw [pz, kk, if_pos rfl]
            exact w2
        · rw [th_N]; omega
        · have : sh (tNd (tE 15 (P i) 0) t) false = sh t false := by
            unfold tNd
            rcases t with _ | ⟨_, _, _⟩
            · cases e
            · rw [sh, kk, if_neg (by decide), if_neg (by decide), if_neg (by decide), if_pos rfl]
          omega
        · have : pn (tNd (tE 15 (P i) 0) t) false = pn t false := by
            unfold tNd
            rcases t with _ | ⟨_, _, _⟩
            · cases e
            · rw [pn, kk, if_pos rfl]
          omega
      · obtain ⟨u1, p1, v1, e1, y1⟩ := w
        obtain ⟨u2, p2, v2, e2, y2⟩ := w2
        subst e1
        subst e2
        refine xq_l (by decide) hd' (by omega) (Or.inr (Or.inr rfl)) ?_ (by show max (1 + 0) (max (1 + 0) 0) ≤ 1; decide)
        show gxT (.branch _ (.branch _ (.leaf ()) (.branch _ (.leaf ()) (.leaf ()))) (.leaf ())) false
        rw [gxT, tE_k (by decide), if_neg (by decide), if_neg (by decide), if_neg (by decide), if_neg (by decide), if_pos rfl]
        exact ⟨rfl, ⟨tE_k (by decide), tE_k (by decide)⟩, y1, y2⟩
      · refine xq_l (by decide) hd' (by omega) (Or.inr (Or.inr rfl)) ?_ (by decide)
        unfold tNd
        rw [gxT, tE_k (by decide), if_neg (by decide), if_neg (by decide), if_neg (by decide), if_neg (by decide), if_pos rfl]
        trivial
      · obtain ⟨w1, w2, w3, w4, w5, w6, w7, x, cx, e⟩ := w.1 (by decide)
        exact xq_0 (by decide) ⟨w1, w2, by omega, by omega, by omega, by omega, hd', x, cx, e⟩
    · have hd' := hd (by decide)
      rw [pgX_3]
      refine pj_if (fun _ => pj_bnd (ih 1 d (i + 1) (by decide) (fun _ => hd')) fun t j w => pj_bnd (ih 3 d j (by decide) (fun _ => hd')) fun r k v => pj_so ?_) (fun _ => pj_so (xq_3 ⟨trivial, trivial, by show 0 ≤ _; omega, by show 0 ≤ _; omega, by show 2 * 0 ≤ _; omega, Nat.le_refl _⟩))
      obtain ⟨w1, w2, w3, w4, w5, w6, w7, -⟩ := w.1 (by decide)
      obtain ⟨v1, v2, v3, v4, v5, v6⟩ := v.2.1 rfl
      have kk : tK (tE (if K i = 43 then 18 else 19) (P i) 0) = 18 ∨ tK (tE (if K i = 43 then 18 else 19) (P i) 0) = 19 := by
        split
        · exact Or.inl (tE_k (by decide))
        · exact Or.inr (tE_k (by decide))
      refine xq_3 ⟨⟨by rcases kk with e | e <;> rw [e] <;> decide, w1, v1⟩, ⟨kk, w2, v2⟩, ?_, ?_, ?_, by omega⟩
      · show max (1 + th t) (th r) ≤ _
        omega
      · show max (sh t false) (sh r true) ≤ _
        omega
      · show 2 * (pn t false + pn r true) ≤ _
        omega
    · have hd' := hd (by decide)
      rw [pgX_4]
      refine pj_if (fun _ => pj_bnd (ih 2 d (i + 1) (by decide) (fun _ => hd')) fun t j w => pj_bnd (ih 4 d j (by decide) (fun _ => hd')) fun r k v => pj_so ?_) (fun _ => pj_so (xq_4 ⟨trivial, by show 0 + 2 ≤ _; omega, by show 0 ≤ _; omega, Nat.le_refl _⟩))
      obtain ⟨w1, w2, w3, w4, w5, w6, w7, -⟩ := w.1 (by decide)
      obtain ⟨v1, v3, v4, v6⟩ := v.2.2 rfl
      have kk : tK (tE (if K i = 42 then 21 else if K i = 47 then 22 else 23) (P i) 0) = 21 ∨ tK (tE (if K i = 42 then 21 else if K i = 47 then 22 else 23) (P i) 0) = 22 ∨ tK (tE (if K i = 42 then 21 else if K i = 47 then 22 else 23) (P i) 0) = 23 := by
        split
        · exact Or.inl (tE_k (by decide))
        · split
          · exact Or.inr (Or.inl (tE_k (by decide)))
          · exact Or.inr (Or.inr (tE_k (by decide)))
      refine xq_4 ⟨⟨by rcases kk with e | e | e <;> rw [e] <;> decide, w1, v1⟩, ?_, ?_, by omega⟩
      · show max (1 + th t) (th r) + 2 ≤ _
        omega
      · show max (sh t false) (sh r true) ≤ _
        omega
end GXs
