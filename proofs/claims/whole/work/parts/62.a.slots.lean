set_option maxRecDepth 100000
/-! tokens of slots and sizes of arrays, all along a layout -/
def OMx (Φ : Nat → Prop) (L : cen) (X : lcx) : Prop := (∀ a z, (a, z) ∈ L → Φ a ∧ z ≤ 64) ∧ (∀ x, x < X.nb → Φ (X.nS x)) ∧ ∀ x, x < X.na → Φ (X.aS x) ∧ X.rS x ≤ 64
section OMs
variable {Φ : Nat → Prop} {sp : Nat → Nat → Bool} {NL : List Nat} {D : lyD} {Pt : Nat → lpt} {E0 : nv} {e0 : Nat} {X : lcx} {L : cen}
theorem zTk_m : ∀ (L : cen) x, x < cnZl L → ∃ z, (zTk L x, z) ∈ L := by
  intro L
  induction L with
  | nil => exact fun x hx => absurd hx (Nat.not_lt_zero _)
  | cons y r ih =>
    obtain ⟨a, z⟩ := y
    intro x hx
    by_cases c : z = 0 ∧ cnZl r = x
    · exact ⟨z, by rw [show zTk ((a, z) :: r) x = a from if_pos c]; exact List.mem_cons_self⟩
    · have e : zTk ((a, z) :: r) x = zTk r x := if_neg c
      have hx' : x < cnZl r + (if z = 0 then 1 else 0) := hx
      have lt : x < cnZl r := by
        by_cases z0 : z = 0
        · rw [if_pos z0] at hx'
          have : ¬ cnZl r = x := fun q => c ⟨z0, q⟩
          omega
        · rw [if_neg z0] at hx'
          omega
      obtain ⟨w, q⟩ := ih x lt
      exact ⟨w, by rw [e]; exact List.mem_cons_of_mem _ q⟩
theorem aTk_m : ∀ (L : cen) x, x < cnAl L → (aTk L x, aSz L x) ∈ L := by
  intro L
  induction L with
  | nil => exact fun x hx => absurd hx (Nat.not_lt_zero _)
  | cons y r ih =>
    obtain ⟨a, z⟩ := y
    intro x hx
    by_cases c : ¬ z = 0 ∧ cnAl r = x
    · rw [show aTk ((a, z) :: r) x = a from if_pos c, show aSz ((a, z) :: r) x = z from if_pos c]
      exact List.mem_cons_self
    · have e1 : aTk ((a, z) :: r) x = aTk r x := if_neg c
      have e2 : aSz ((a, z) :: r) x = aSz r x := if_neg c
      have hx' : x < cnAl r + (if z = 0 then 0 else 1) := hx
      have lt : x < cnAl r := by
        by_cases z0 : z = 0
        · rw [if_pos z0] at hx'
          omega
        · rw [if_neg z0] at hx'
          have : ¬ cnAl r = x := fun q => c ⟨z0, q⟩
          omega
      rw [e1, e2]
      exact List.mem_cons_of_mem _ (ih x lt)
theorem OM_n (O : OMx Φ L X) {x : Nat} (hx : x < X.nb + cnZl L) : Φ (X.nA L x) := by
  unfold lcx.nA
  split
  · next c => exact O.2.1 x c
  · next c =>
    obtain ⟨z, q⟩ := zTk_m L (x - X.nb) (by omega)
    exact (O.1 _ _ q).1
theorem OM_a (O : OMx Φ L X) {x : Nat} (hx : x < X.na + cnAl L) : Φ (X.aA L x) ∧ X.rA L x ≤ 64 := by
  unfold lcx.aA lcx.rA
  by_cases c : x < X.na
  · rw [if_pos c, if_pos c]
    exact O.2.2 x c
  · rw [if_neg c, if_neg c]
    exact O.1 _ _ (aTk_m L (x - X.na) (by omega))
theorem OM_B (O : OMx Φ L X) {p : Nat} : OMx Φ L (lyB X p) := O
theorem OM_C (O : OMx Φ L X) {g p a : Nat} (w : ∀ a z, (a, z) ∈ D.FP g → Φ a ∧ z ≤ 64) : OMx Φ (D.FP g) (lyC D X L p g a) := ⟨w, fun x hx => OM_n O hx, fun x hx => OM_a O hx⟩
theorem OM_at (H : ∀ g, g < D.c → nmK Φ (D.FT g) ∧ ∀ a z, (a, z) ∈ D.FP g → Φ a ∧ z ≤ 64) (PT : ∀ q, q < e0 → PTp sp NL Pt E0 D q) : ∀ f fb t k w s p e b L X, LYR D Pt f fb t k w s p e L b X → e ≤ e0 → nmK Φ t → OMx Φ L X → ∀ q, p ≤ q → q < e → OMx Φ (Pt q).L (Pt q).X := by
  intro f
  induction f with
  | zero =>
    intro fb t k w s p e b L X y _ _ _ q h1 h2
    cases t with
    | leaf _ => exact absurd (show p = e from y) (by omega)
    | branch n cs r => exact absurd y (fun z => z)
  | succ f ih =>
    intro fb t k w s p e b L X y hee nk O q h1 h2
    cases t with
    | leaf _ => exact absurd (show p = e from y) (by omega)
    | branch n cs r =>
      obtain ⟨⟨y1, y1'⟩, ⟨a1, a2, a3, a4, a5, a6, a7, a8⟩, ⟨y3, y4⟩, y5, y6, y7⟩ := y
      obtain ⟨nk1, nk2, nk3⟩ := nk
      have P := PT p (by omega)
      have PK := P.k
      have hX := P.f
      rw [a1, a2, a3, a4] at PK
      rw [a4] at hX
      by_cases c0 : q = p
      · subst c0
        rw [a3, a4]
        exact O
      · by_cases c1 : (Pt p).E ≤ q
        · have nx : OMx Φ (nxE n cs L) X := by
            rcases PK with ⟨kk, a, t, ec, ka, hlt, -⟩ | ⟨kk, a, q, ec, ka, kq, h6, q1, q2⟩ | ⟨kk, -⟩ | ⟨kk, -⟩ | ⟨kk, -⟩ | ⟨kk, -⟩ | ⟨kk, -⟩ | ⟨kk, -⟩
            · subst ec
              have en : nxE n (.branch a (.leaf ()) t) L = ((tV a).toNat, 0) :: L := by unfold nxE; rw [if_pos kk]
              rw [en]
              refine ⟨fun x z q => ?_, O.2⟩
              rcases List.mem_cons.mp q with q | q
              · cases q
                exact ⟨nk2.1 ka, Nat.zero_le _⟩
              · exact O.1 x z q
            · subst ec
              have en : nxE n (.branch a (.leaf ()) (.branch q (.leaf ()) (.leaf ()))) L = ((tV a).toNat, max 1 (tV q).toNat) :: L := by unfold nxE; rw [if_neg (by omega), if_pos kk]
              rw [en]
              refine ⟨fun x z u => ?_, O.2⟩
              rcases List.mem_cons.mp u with u | u
              · cases u
                exact ⟨nk2.1 ka, by omega⟩
              · exact O.1 x z u
            all_goals
              have en : nxE n cs L = L := by unfold nxE; rw [if_neg (by omega), if_neg (by omega)]
              rw [en]
              exact O
          exact ih _ _ _ _ _ _ _ _ _ _ y7 hee nk3 nx q c1 h2
        · have lt : q < (Pt p).E := by omega
          rcases y6 with ⟨kk, a', ff', t', g', ec', hg', gX', z⟩ | ⟨k8, c', cc', b1', bs1, q', ec', m1, m2, z3, z4⟩ | ⟨k9, c', cc', b1', bs1, ec', z⟩ | ⟨-, -, -, z⟩
          · obtain ⟨w1, w2⟩ := H g' (by omega)
            exact ih _ _ _ _ _ _ _ _ _ _ z (by omega) w1 (OM_C O w2) q (by omega) lt
          · subst ec'
            obtain ⟨-, -, -, nkb, nkq⟩ := nk2
            by_cases c2 : q < (Pt p).M
            · exact ih _ _ _ _ _ _ _ _ _ _ z3 (by omega) nkb (OM_B O) q (by omega) c2
            · rcases z4 with ⟨eq, z4⟩ | ⟨b2', bs2, eq, z4⟩
              · omega
              · subst eq
                exact ih _ _ _ _ _ _ _ _ _ _ z4 (by omega) nkq.2.1 (OM_B O) q (by omega) lt
          · subst ec'
            obtain ⟨-, -, -, nkb, nkq⟩ := nk2
            exact ih _ _ _ _ _ _ _ _ _ _ z (by omega) nkb (OM_B O) q (by omega) lt
          · omega
theorem OM_top (H : ∀ g, g < D.c → nmK Φ (D.FT g) ∧ ∀ a z, (a, z) ∈ D.FP g → Φ a ∧ z ≤ 64) (PT : ∀ q, q < e0 → PTp sp NL Pt E0 D q) (hc : 0 < D.c) {f k w s : Nat} (ly : LYR D Pt f true (D.FT (D.c - 1)) k w s 0 e0 [] 0 (lyX0 D)) : ∀ q, q < e0 → OMx Φ (Pt q).L (Pt q).X := fun q hq => OM_at H PT f true _ k w s 0 e0 0 [] (lyX0 D) ly (Nat.le_refl _) (H (D.c - 1) (by omega)).1 ⟨fun a z q => absurd q (by simp), fun x hx => absurd hx (Nat.not_lt_zero _), fun x hx => absurd hx (Nat.not_lt_zero _)⟩ q (Nat.zero_le _) hq
end OMs
