set_option maxRecDepth 100000
/-! the shape of statements: SUMs, CONDs in bounds -/
def gSq (t : tr) : Prop := gxT t false ∧ pz t false ∧ pn t false ≤ 6000 ∧ sh t false ≤ 124 ∧ th t ≤ 300
def gRq : tr → Prop
  | .leaf _ => True
  | .branch n cs r => gSq (.branch n cs r) ∧ gRq r
def gCq (t : tr) : Prop := gcT t false ∧ cn3 t ≤ 348 ∧ th t ≤ 300
/-- what a statement holds -/
def gbQ (n : Nat) (cs : tr) : Prop :=
  (3 ≤ tK n ∧ tK n ≤ 11) ∧
  (tK n = 3 → ∃ a t, cs = .branch a (.leaf ()) t ∧ (t = .leaf () ∨ gSq t)) ∧
  (tK n = 4 → ∃ a q, cs = .branch a (.leaf ()) (.branch q (.leaf ()) (.leaf ()))) ∧
  (tK n = 5 → ∃ a t, cs = .branch a (.leaf ()) t ∧ gSq t) ∧
  (tK n = 6 → ∃ a t, cs = .branch a (.leaf ()) t ∧ gSq t ∧ gSq (tT t)) ∧
  (tK n = 7 → ∃ a f t, cs = .branch a (.leaf ()) (.branch f (.leaf ()) t) ∧ gRq t) ∧
  (tK n = 8 ∨ tK n = 9 ∨ tK n = 10 → gCq cs) ∧
  (tK n = 11 → gSq cs)
/-- a row of statements 0, a COND and BLOCKs 1, BLOCKs 2 -/
def gbM : tr → Nat → Prop
  | .leaf _, _ => True
  | .branch n cs r, 0 => gbQ n cs ∧ (tK n = 8 ∨ tK n = 9 → gbM cs 1) ∧ gbM r 0
  | .branch _ _ r, 1 => gbM r 2
  | .branch _ bs r, _ => gbM bs 0 ∧ gbM r 2
def bqj (s d i : Nat) (t : tr) (j : Nat) : Prop := i ≤ j ∧ (j ≤ 11990 →
  (s = 0 → gbM t 0 ∧ th t ≤ 5 * (60 - d) + 3) ∧
  (s = 1 → gbM t 0 ∧ th t ≤ 5 * (60 - d) + 3 ∧ ∃ n cs, t = tNd n cs) ∧
  (s = 2 → d ≤ 60 ∧ th t ≤ 5 * (60 - d) + 4 ∧ ∃ n bs, t = tNd n bs ∧ tK n = 2 ∧ gbM bs 0))
section GBs
variable {K : Nat → Int32} {P : Nat → Nat} {V : Nat → Int} {N i j d : Nat}
theorem bq_1 {n : Nat} {cs : tr} (h : i ≤ j) (w : j ≤ 11990 → gbQ n cs ∧ (tK n = 8 ∨ tK n = 9 → gbM cs 1) ∧ th cs ≤ 5 * (60 - d) + 2) : bqj 1 d i (tNd n cs) j := by
  refine ⟨h, fun hj => ⟨fun z => absurd z (by decide), fun _ => ?_, fun z => absurd z (by decide)⟩⟩
  obtain ⟨w1, w2, w3⟩ := w hj
  exact ⟨⟨w1, w2, trivial⟩, by rw [th_N]; omega, _, _, rfl⟩
theorem gS_of {t : tr} (w : xqj 0 (d + 1) i t j) (hd : 1 ≤ d) (hj : j ≤ 11990) : gSq t ∧ th t ≤ 5 * (60 - d) + 1 ∧ i < j ∧ ∃ n cs, t = tNd n cs := by
  obtain ⟨w1, w2, w3, w4, w5, w6, w7, w8⟩ := w.1 (by decide)
  exact ⟨⟨w1, w2, by omega, by omega, by omega⟩, by omega, w6, w8⟩
theorem gSq_r {x : Nat} {cx r r' : tr} (w : gSq (.branch x cx r)) (h : th (.branch x cx r') ≤ 300) : gSq (.branch x cx r') := by
  obtain ⟨w1, w2, w3, w4, w5⟩ := w
  exact ⟨gx_r.mp w1, pz_r.mp w2, by rw [pn_r (r' := r)]; exact w3, by rw [sh_r (r' := r)]; exact w4, h⟩
theorem gQ_1 {n k : Nat} {cs : tr} (hk : tK n = k) (hb : 3 ≤ k ∧ k ≤ 11) (h : (k = 3 → ∃ a t, cs = .branch a (.leaf ()) t ∧ (t = .leaf () ∨ gSq t)) ∧
  (k = 4 → ∃ a q, cs = .branch a (.leaf ()) (.branch q (.leaf ()) (.leaf ()))) ∧
  (k = 5 → ∃ a t, cs = .branch a (.leaf ()) t ∧ gSq t) ∧
  (k = 6 → ∃ a t, cs = .branch a (.leaf ()) t ∧ gSq t ∧ gSq (tT t)) ∧
  (k = 7 → ∃ a f t, cs = .branch a (.leaf ()) (.branch f (.leaf ()) t) ∧ gRq t) ∧
  (k = 8 ∨ k = 9 ∨ k = 10 → gCq cs) ∧
  (k = 11 → gSq cs)) : gbQ n cs := by
  unfold gbQ
  rw [hk]
  exact ⟨hb, h⟩
theorem gc_r {x : Nat} {cx r r' : tr} (h : gcT (.branch x cx r) false) : gcT (.branch x cx r') false := ⟨h.1, fun z => by cases z⟩
/-- SUMs of a call -/
theorem pgA_q (hV : ∀ i, K i = 3 → 0 ≤ V i ∧ V i ≤ 2147483647) (hP : ∀ i, P i < 65536) (hd : 1 ≤ d) : ∀ f i, PRj (fun t j => i ≤ j ∧ (j ≤ 11990 → gRq t ∧ th t ≤ 5 * (60 - d) + 1)) (pgA K P V N f (d + 1) i) := by
  intro f
  induction f with
  | zero => exact fun i => pj_no
  | succ f ih =>
    intro i
    refine pj_if (fun _ => pj_bnd (pgX_q hV hP N 0 (d + 1) (i + 1) (by decide) (fun z => absurd z (by decide))) fun t j w => pj_bnd (ih j) fun r k v => pj_so ?_) (fun _ => pj_tak fun _ => pj_so ⟨by omega, fun _ => ⟨trivial, Nat.zero_le _⟩⟩)
    obtain ⟨-, -, -, -, -, lt, -, -⟩ := w.1 (by decide)
    have v0 := v.1
    refine ⟨by omega, fun hk => ?_⟩
    obtain ⟨s1, s2, s3, x, cx, e⟩ := gS_of w hd (by omega)
    obtain ⟨v1, v2⟩ := v.2 hk
    subst e
    rw [th_N] at s2
    have ht : th (.branch x cx r) ≤ 5 * (60 - d) + 1 := by rw [th_B]; omega
    exact ⟨⟨gSq_r s1 (by omega), v1⟩, ht⟩
theorem pgS_q (hV : ∀ i, K i = 3 → 0 ≤ V i ∧ V i ≤ 2147483647) (hP : ∀ i, P i < 65536) (hd : 1 ≤ d) (i : Nat) : PRj (fun t j => i ≤ j ∧ (j ≤ 11990 → gRq t ∧ th t ≤ 5 * (60 - d) + 1)) (pgS K P V N (d + 1) i) := by
  unfold pgS
  refine pj_if (fun _ => pj_so ⟨by omega, fun _ => ⟨trivial, Nat.zero_le _⟩⟩) (fun _ => pj_bnd (pgX_q hV hP N 0 (d + 1) i (by decide) (fun z => absurd z (by decide))) fun t j w => pj_bnd (pgA_q hV hP hd N j) fun r k v => pj_so ?_)
  obtain ⟨-, -, -, -, -, lt, -, -⟩ := w.1 (by decide)
  have v0 := v.1
  refine ⟨by omega, fun hk => ?_⟩
  obtain ⟨s1, s2, s3, x, cx, e⟩ := gS_of w hd (by omega)
  obtain ⟨v1, v2⟩ := v.2 hk
  subst e
  rw [th_N] at s2
  have ht : th (.branch x cx r) ≤ 5 * (60 - d) + 1 := by rw [th_B]; omega
  exact ⟨⟨gSq_r s1 (by omega), v1⟩, ht⟩
theorem gC_of {t : tr} (w : cqj 0 (d + 1) i t j) (hj : j ≤ 11990) : gcT t false ∧ cn3 t ≤ 6 * (59 - d) ∧ th t ≤ 5 * (59 - d) + 4 ∧ i < j ∧ d ≤ 58 ∧ ∃ n cs, t = tNd n cs := by
  obtain ⟨w1, w2, w3, w4, w5, w6⟩ := (w hj).1 (by decide)
  exact ⟨w1, by omega, by omega, w4, by omega, w6⟩
/-- if, while: the COND and BLOCKs -/
theorem gC_b {x b : Nat} {cx bs q : tr} (hd : 1 ≤ d) (h58 : d ≤ 58) (w1 : gcT (tNd x cx) false) (w2 : cn3 (tNd x cx) ≤ 6 * (59 - d)) (w3 : th (tNd x cx) ≤ 5 * (59 - d) + 4) (b2 : tK b = 2) (hb : th (tNd b bs) ≤ 5 * (59 - d) + 4) (q0 : cn3 q = 0) (hq : th q ≤ 5 * (59 - d) + 4) : gCq (.branch x cx (.branch b bs q)) ∧ th (.branch x cx (.branch b bs q)) ≤ 5 * (60 - d) + 2 := by
  have ht : th (.branch x cx (.branch b bs q)) ≤ 5 * (59 - d) + 4 := by
    rw [th_N] at w3 hb
    rw [th_B, th_B]
    omega
  refine ⟨⟨gc_r w1, ?_, by omega⟩, by omega⟩
  rw [cn_B, cn_B, cn_N (n := b), b2, if_neg (by decide), if_neg (by decide), q0]
  omega
theorem pgB_q (hV : ∀ i, K i = 3 → 0 ≤ V i ∧ V i ≤ 2147483647) (hP : ∀ i, P i < 65536) : ∀ f s d i, s < 3 → 1 ≤ d → PRj (bqj s d i) (pgB K P V N f s d i) := by
  intro f
  induction f with
  | zero => exact fun s d i _ _ => pj_no
  | succ f ih =>
    intro s d i hs hd
    have i0 := fun d i hd => ih 0 d i (by decide) hd
    have i1 := fun d i hd => ih 1 d i (by decide) hd
    have i2 := fun d i hd => ih 2 d i (by decide) hd
    have X := fun i => pgX_q (K := K) (P := P) (V := V) hV hP N 0 (d + 1) i (by decide) (fun z => absurd z (by decide))
    have CQ := fun i => pgC_q (K := K) (P := P) (V := V) (N := N) hV hP N 0 (d + 1) i (by decide) (fun z => absurd z (by decide))
    have SQj := fun i => pgS_q (K := K) (P := P) (V := V) (N := N) hV hP hd i
    have kE : ∀ {k p : Nat} {v : Int}, k < 64 → tK (tE k p v) = k := fun h => tE_k h
    have hs' : s = 0 ∨ s = 1 ∨ s = 2 := by omega
    rcases hs' with e | e | e <;> subst e
    · rw [pgB_0]
      refine pj_if (fun _ => pj_so ⟨Nat.le_refl _, fun _ => ⟨fun _ => ⟨trivial, Nat.zero_le _⟩, fun z => absurd z (by decide), fun z => absurd z (by decide)⟩⟩) (fun _ => pj_bnd (i1 d i hd) fun t j w => pj_bnd (i0 d j hd) fun r k v => pj_so ⟨Nat.le_trans w.1 v.1, fun hk => ⟨fun _ => ?_, fun z => absurd z (by decide), fun z => absurd z (by decide)⟩⟩)
      obtain ⟨w1, w2, n, cs, e⟩ := (w.2 (Nat.le_trans v.1 hk)).2.1 rfl
      obtain ⟨v1, v2⟩ := (v.2 hk).1 rfl
      subst e
      rw [th_N] at w2
      refine ⟨⟨w1.1, w1.2.1, v1⟩, ?_⟩
      show max (1 + th cs) (th r) ≤ _
      omega
    · rw [pgB_1]
      refine pj_if (fun _ => pj_tak fun _ => pj_if (fun _ => pj_tak fun _ => pj_tak fun _ => pj_tak fun _ => pj_so (bq_1 (by omega) fun _ => ?_)) (fun _ => pj_if (fun _ => pj_bnd (X (i + 3)) fun t j w => pj_tak fun _ => pj_so (bq_1 ?_ fun hj => ?_)) (fun _ => pj_tak fun _ => pj_so (bq_1 (by omega) fun _ => ?_)))) (fun _ => ?_)
      · refine ⟨gQ_1 (kE (by decide)) (by decide) ⟨fun z => absurd z (by decide), fun _ => ⟨_, _, rfl⟩, fun z => absurd z (by decide), fun z => absurd z (by decide), fun z => absurd z (by decide), fun z => absurd z (by decide), fun z => absurd z (by decide)⟩, fun z => absurd z (by rw [kE (by decide)]; decide), ?_⟩
        show max (1 + 0) (max (1 + 0) 0) ≤ _
        omega
      · obtain ⟨-, -, -, -, -, lt, -, -⟩ := w.1 (by decide)
        omega
      · obtain ⟨s1, s2, s3, -⟩ := gS_of w hd (by omega)
        refine ⟨gQ_1 (kE (by decide)) (by decide) ⟨fun _ => ⟨_, _, rfl, Or.inr s1⟩, fun z => absurd z (by decide), fun z => absurd z (by decide), fun z => absurd z (by decide), fun z => absurd z (by decide), fun z => absurd z (by decide), fun z => absurd z (by decide)⟩, fun z => absurd z (by rw [kE (by decide)]; decide), ?_⟩
        show max (1 + 0) (th t) ≤ _
        omega
      · refine ⟨gQ_1 (kE (by decide)) (by decide) ⟨fun _ => ⟨_, _, rfl, Or.inl rfl⟩, fun z => absurd z (by decide), fun z => absurd z (by decide), fun z => absurd z (by decide), fun z => absurd z (by decide), fun z => absurd z (by decide), fun z => absurd z (by decide)⟩, fun z => absurd z (by rw [kE (by decide)]; decide), ?_⟩
        show max (1 + 0) 0 ≤ _
        omega
      refine pj_if (fun _ => pj_if (fun _ => pj_bnd (SQj (i + 2)) fun r j w => pj_tak fun _ => pj_so (bq_1 (by have := w.1; omega) fun hj => ?_)) (fun _ => pj_if (fun _ => pj_bnd (X (i + 2)) fun t j w => pj_tak fun _ => pj_tak fun _ => pj_bnd (X (j + 2)) fun u k v => pj_tak fun _ => pj_so (bq_1 ?_ fun hk => ?_)) (fun _ => pj_tak fun _ => pj_if (fun _ => pj_bnd (SQj (i + 4)) fun r j w => pj_tak fun _ => pj_so (bq_1 (by have := w.1; omega) fun hj => ?_)) (fun _ => pj_bnd (X (i + 2)) fun t j w => pj_tak fun _ => pj_so (bq_1 ?_ fun hj => ?_))))) (fun _ => ?_)
      · obtain ⟨w1, w2⟩ := w.2 (by omega)
        refine ⟨gQ_1 (kE (by decide)) (by decide) ⟨fun z => absurd z (by decide), fun z => absurd z (by decide), fun z => absurd z (by decide), fun z => absurd z (by decide), fun _ => ⟨_, _, _, rfl, w1⟩, fun z => absurd z (by decide), fun z => absurd z (by decide)⟩, fun z => absurd z (by rw [kE (by decide)]; decide), ?_⟩
        show max (1 + 0) (max (1 + 0) (th r)) ≤ _
        omega
      · obtain ⟨-, -, -, -, -, lt, -, -⟩ := w.1 (by decide)
        obtain ⟨-, -, -, -, -, lt2, -, -⟩ := v.1 (by decide)
        omega
      · obtain ⟨-, -, -, -, -, lt2, -, -⟩ := v.1 (by decide)
        obtain ⟨s1, s2, s3, x, cx, e⟩ := gS_of w hd (by omega)
        obtain ⟨u1, u2, u3, -⟩ := gS_of v hd (by omega)
        subst e
        rw [th_N] at s2
        have ht : th (tA (tNd x cx) u) ≤ 5 * (60 - d) + 1 := by show max (1 + th cx) (th u) ≤ _; omega
        have g1 : gSq (tA (tNd x cx) u) := gSq_r (r' := u) s1 (by show th (tA (tNd x cx) u) ≤ 300; omega)
        refine ⟨gQ_1 (kE (by decide)) (by decide) ⟨fun z => absurd z (by decide), fun z => absurd z (by decide), fun z => absurd z (by decide), fun _ => ⟨_, _, rfl, g1, u1⟩, fun z => absurd z (by decide), fun z => absurd z (by decide), fun z => absurd z (by decide)⟩, fun z => absurd z (by rw [kE (by decide)]; decide), ?_⟩
        show max (1 + 0) (th (tA (tNd x cx) u)) ≤ _
        omega
      · obtain ⟨w1, w2⟩ := w.2 (by omega)
        refine ⟨gQ_1 (kE (by decide)) (by decide) ⟨fun z => absurd z (by decide), fun z => absurd z (by decide), fun z => absurd z (by decide), fun z => absurd z (by decide), fun _ => ⟨_, _, _, rfl, w1⟩, fun z => absurd z (by decide), fun z => absurd z (by decide)⟩, fun z => absurd z (by rw [kE (by decide)]; decide), ?_⟩
        show max (1 + 0) (max (1 + 0) (th r)) ≤ _
        omega
      · obtain ⟨-, -, -, -, -, lt, -, -⟩ := w.1 (by decide)
        omega
      · obtain ⟨s1, s2, s3, -⟩ := gS_of w hd (by omega)
        refine ⟨gQ_1 (kE (by decide)) (by decide) ⟨fun z => absurd z (by decide), fun z => absurd z (by decide), fun _ => ⟨_, _, rfl, s1⟩, fun z => absurd z (by decide), fun z => absurd z (by decide), fun z => absurd z (by decide), fun z => absurd z (by decide)⟩, fun z => absurd z (by rw [kE (by decide)]; decide), ?_⟩
        show max (1 + 0) (th t) ≤ _
        omega
      refine pj_if (fun _ => pj_tak fun _ => pj_bnd (CQ (i + 2)) fun c j w => pj_tak fun _ => pj_bnd (i2 (d + 1) (j + 1) (by omega)) fun b k v => pj_if (fun _ => pj_bnd (i2 (d + 1) (k + 1) (by omega)) fun e l y => pj_so (bq_1 ?_ fun hl => ?_)) (fun _ => pj_so (bq_1 ?_ fun hk => ?_))) (fun _ => ?_)
      · have := v.1
        have := y.1
        have := w.2
        omega
      · have v0 := v.1
        have y0 := y.1
        obtain ⟨c1, c2, c3, c4, c5, x, cx, e1⟩ := gC_of w.1 (by omega)
        obtain ⟨b1, b2, n1, bs1, e2, k1, g1⟩ := (v.2 (by omega)).2.2 rfl
        obtain ⟨d1, d2, n2, bs2, e3, k2, g2⟩ := (y.2 hl).2.2 rfl
        subst e1
        subst e2
        subst e3
        obtain ⟨h1, h2⟩ := gC_b (q := tNd n2 bs2) (bs := bs1) hd c5 c1 c2 c3 k1 (by omega) (by rw [cn_N, k2, if_neg (by decide), if_neg (by decide)]) (by omega)
        exact ⟨gQ_1 (kE (by decide)) (by decide) ⟨fun z => absurd z (by decide), fun z => absurd z (by decide), fun z => absurd z (by decide), fun z => absurd z (by decide), fun z => absurd z (by decide), fun _ => h1, fun z => absurd z (by decide)⟩, fun _ => ⟨g1, g2, trivial⟩, h2⟩
      · have := v.1
        have := w.2
        omega
      · have v0 := v.1
        obtain ⟨c1, c2, c3, c4, c5, x, cx, e1⟩ := gC_of w.1 (by omega)
        obtain ⟨b1, b2, n1, bs1, e2, k1, g1⟩ := (v.2 hk).2.2 rfl
        subst e1
        subst e2
        obtain ⟨h1, h2⟩ := gC_b (q := .leaf ()) (bs := bs1) hd c5 c1 c2 c3 k1 (by omega) rfl (Nat.zero_le _)
        exact ⟨gQ_1 (kE (by decide)) (by decide) ⟨fun z => absurd z (by decide), fun z => absurd z (by decide), fun z => absurd z (by decide), fun z => absurd z (by decide), fun z => absurd z (by decide), fun _ => h1, fun z => absurd z (by decide)⟩, fun _ => ⟨g1, trivial⟩, h2⟩
      refine pj_if (fun _ => pj_tak fun _ => pj_bnd (CQ (i + 2)) fun c j w => pj_tak fun _ => pj_bnd (i2 (d + 1) (j + 1) (by omega)) fun b k v => pj_so (bq_1 ?_ fun hk => ?_)) (fun _ => ?_)
      · have := v.1
        have := w.2
        omega
      · have v0 := v.1
        obtain ⟨c1, c2, c3, c4, c5, x, cx, e1⟩ := gC_of w.1 (by omega)
        obtain ⟨b1, b2, n1, bs1, e2, k1, g1⟩ := (v.2 hk).2.2 rfl
        subst e1
        subst e2
        obtain ⟨h1, h2⟩ := gC_b (q := .leaf ()) (bs := bs1) hd c5 c1 c2 c3 k1 (by omega) rfl (Nat.zero_le _)
        exact ⟨gQ_1 (kE (by decide)) (by decide) ⟨fun z => absurd z (by decide), fun z => absurd z (by decide), fun z => absurd z (by decide), fun z => absurd z (by decide), fun z => absurd z (by decide), fun _ => h1, fun z => absurd z (by decide)⟩, fun _ => ⟨g1, trivial⟩, h2⟩
      refine pj_if (fun _ => pj_tak fun _ => pj_bnd (CQ (i + 2)) fun c j w => pj_tak fun _ => pj_tak fun _ => pj_so (bq_1 ?_ fun hj => ?_)) (fun _ => ?_)
      · have := w.2
        omega
      · obtain ⟨c1, c2, c3, c4, c5, x, cx, e1⟩ := gC_of w.1 (by omega)
        exact ⟨gQ_1 (kE (by decide)) (by decide) ⟨fun z => absurd z (by decide), fun z => absurd z (by decide), fun z => absurd z (by decide), fun z => absurd z (by decide), fun z => absurd z (by decide), fun _ => ⟨c1, by omega, by omega⟩, fun z => absurd z (by decide)⟩, fun z => absurd z (by rw [kE (by decide)]; decide), by omega⟩
      refine pj_if (fun _ => pj_bnd (X (i + 1)) fun t j w => pj_tak fun _ => pj_so (bq_1 ?_ fun hj => ?_)) (fun _ => pj_no)
      · obtain ⟨-, -, -, -, -, lt, -, -⟩ := w.1 (by decide)
        omega
      · obtain ⟨s1, s2, s3, -⟩ := gS_of w hd (by omega)
        exact ⟨gQ_1 (kE (by decide)) (by decide) ⟨fun z => absurd z (by decide), fun z => absurd z (by decide), fun z => absurd z (by decide), fun z => absurd z (by decide), fun z => absurd z (by decide), fun z => absurd z (by decide), fun _ => s1⟩, fun z => absurd z (by rw [kE (by decide)]; decide), by omega⟩
    · rw [pgB_2]
      refine pj_if (fun _ => pj_no) (fun c => pj_tak fun _ => pj_bnd (i0 d (i + 1) hd) fun r j w => pj_so ⟨by have := w.1; omega, fun hj => ⟨fun z => absurd z (by decide), fun z => absurd z (by decide), fun _ => ?_⟩⟩)
      obtain ⟨w1, w2⟩ := (w.2 (by omega)).1 rfl
      exact ⟨by omega, by rw [th_N]; omega, _, _, rfl, kE (by decide), w1⟩
/-- parameters: tokens two apart -/
def pmT (K : Nat → Int32) (P : Nat → Nat) : tr → Nat → Prop
  | .leaf _, _ => True
  | .branch a cs r, i => (tK a = 13 ∧ tV a = (i : Int) ∧ cs = .leaf () ∧ K i = 2 ∧ tP a = P i) ∧ pmT K P r (i + 2)
theorem pgM_q (hP : ∀ i, P i < 65536) : ∀ f i, PRj (fun t j => i ≤ j ∧ pmT K P t (i + 1)) (pgM K P f i) := by
  intro f
  induction f with
  | zero => exact fun i => pj_no
  | succ f ih => exact fun i => pj_if (fun _ => pj_tak fun k2 => pj_bnd (ih (i + 2)) fun r k w => pj_so ⟨by have := w.1; omega, ⟨tE_k (by decide), tE_V (by decide) (hP _), rfl, k2, tE_P (by decide) (hP _)⟩, w.2⟩) (fun _ => pj_tak fun _ => pj_so ⟨by omega, trivial⟩)
/-- a function -/
def fnG (K : Nat → Int32) (P : Nat → Nat) (cs : tr) : Prop := ∃ a r b0 bs i, cs = .branch a (.leaf ()) (tC r (tNd b0 bs)) ∧ tK a = 13 ∧ tV a = ((i : Nat) : Int) ∧ K i = 2 ∧ pmT K P r (i + 2) ∧ tK b0 = 2 ∧ gbM bs 0 ∧ tP a = P i
def fgZ (K : Nat → Int32) (P : Nat → Nat) : tr → Prop
  | .leaf _ => True
  | .branch _ cs r => fnG K P cs ∧ fgZ K P r
theorem pgF_q (hV : ∀ i, K i = 3 → 0 ≤ V i ∧ V i ≤ 2147483647) (hP : ∀ i, P i < 65536) (i : Nat) : PRj (fun t j => i ≤ j ∧ (j ≤ 11990 → ∃ n cs, t = tNd n cs ∧ fnG K P cs)) (pgF K P V N i) := by
  unfold pgF
  refine pj_tak fun _ => pj_tak fun k2 => pj_tak fun _ => pj_bnd (R := fun r j => i + 3 ≤ j ∧ pmT K P r (i + 3)) (pj_if (fun _ => pj_so ⟨by omega, trivial⟩) (fun _ => pj_tak fun k3 => pj_bnd (pgM_q hP N (i + 4)) fun r k w => pj_so ⟨by have := w.1; omega, ⟨tE_k (by decide), tE_V (by decide) (hP _), rfl, k3, tE_P (by decide) (hP _)⟩, w.2⟩)) fun r j w => pj_bnd (pgB_q hV hP N 2 1 j (by decide) (by decide)) fun b k v => pj_so ⟨by have := v.1; have := w.1; omega, fun hk => ?_⟩
  obtain ⟨b1, b2, n1, bs1, e2, k1, g1⟩ := (v.2 hk).2.2 rfl
  subst e2
  exact ⟨_, _, rfl, _, r, n1, bs1, i + 1, rfl, tE_k (by decide), tE_V (by decide) (hP _), k2, w.2, k1, g1, tE_P (by decide) (hP _)⟩
theorem pgZ_q (hV : ∀ i, K i = 3 → 0 ≤ V i ∧ V i ≤ 2147483647) (hP : ∀ i, P i < 65536) : ∀ f i, PRj (fun t j => i ≤ j ∧ (j ≤ 11990 → fgZ K P t)) (pgZ K P V N f i) := by
  intro f
  induction f with
  | zero => exact fun i => pj_no
  | succ f ih =>
    intro i
    refine pj_bnd (pgF_q hV hP i) fun t j w => pj_if (fun _ => pj_so ⟨w.1, fun hj => ?_⟩) (fun _ => pj_bnd (ih j) fun r k v => pj_so ⟨Nat.le_trans w.1 v.1, fun hk => ?_⟩)
    · obtain ⟨n, cs, e, g⟩ := w.2 hj
      subst e
      exact ⟨g, trivial⟩
    · obtain ⟨n, cs, e, g⟩ := w.2 (Nat.le_trans v.1 hk)
      subst e
      exact ⟨g, v.2 hk⟩
end GBs
