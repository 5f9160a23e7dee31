set_option maxRecDepth 100000
/-! what stands between the reference's statements -/
/-- methods that never write what is broken -/
def yCk : List Nat := [226, 227, 228, 229, 230, 231, 232, 233, 234, 235, 236, 237, 238, 239, 240, 241, 242, 243, 244, 245, 246, 247, 248, 249, 250, 251, 252, 253, 254, 255, 256, 262, 263, 266, 276, 277, 278, 279, 281, 282, 283, 284, 285, 286, 287, 288, 289, 290, 291, 292, 293, 294]
theorem yCk_1 : okM yCk 12 35 = true := by decide +kernel
theorem ck_35 {d y : Nat} {as : List Value} {h h' : mh_H} {r : Option Value} (g : mg h 115 12) (hy : yCk.contains y = true) (e : ∀ Q, mcall d y as h Q = Q r h') : mh_i h' 115 35 = mh_i h 115 35 := (cal_kf (by decide) yCk_1 hy e).2.2 115 g.2 g.1
def RA (h : mh_H) (s0 : Nat) (E : nv) (D : fd) (w0 : wd) : Prop := (RZ h) ∧ (EV h E.T E.sN E.en) ∧ (mh_i h 115 11 = Int32.ofNat s0) ∧ (mh_i h 115 20 = Int32.ofNat E.nu) ∧ (mh_i h 115 21 = Int32.ofNat E.ar) ∧ (mh_i h 115 14 = Int32.ofNat E.fu) ∧ (mh_i h 115 22 = tkV E.ta) ∧ (mh_i h 115 8 = Int32.ofNat (wW w0)) ∧ (mh_i h 115 9 = kb (decide (4000 < wW w0))) ∧ (∀ q, q < 250 → RK h (132 + 10 * q) (wK w0 q) ∧ mh_i h 118 q = wA w0 q) ∧ (FT h D) ∧ (FX (mh_i h 93) (mh_i h 95) (mh_i h 97) D)
theorem RA.of {h : mh_H} {s0 : Nat} {E : nv} {D : fd} {w0 : wd} (q : (RZ h) ∧ (EV h E.T E.sN E.en) ∧ (mh_i h 115 11 = Int32.ofNat s0) ∧ (mh_i h 115 20 = Int32.ofNat E.nu) ∧ (mh_i h 115 21 = Int32.ofNat E.ar) ∧ (mh_i h 115 14 = Int32.ofNat E.fu) ∧ (mh_i h 115 22 = tkV E.ta) ∧ (mh_i h 115 8 = Int32.ofNat (wW w0)) ∧ (mh_i h 115 9 = kb (decide (4000 < wW w0))) ∧ (∀ q, q < 250 → RK h (132 + 10 * q) (wK w0 q) ∧ mh_i h 118 q = wA w0 q) ∧ (FT h D) ∧ (FX (mh_i h 93) (mh_i h 95) (mh_i h 97) D)) : RA h s0 E D w0 := q
theorem RA.Z {h : mh_H} {s0 : Nat} {E : nv} {D : fd} {w0 : wd} (q : RA h s0 E D w0) : RZ h := q.1
theorem RA.V {h : mh_H} {s0 : Nat} {E : nv} {D : fd} {w0 : wd} (q : RA h s0 E D w0) : EV h E.T E.sN E.en := q.2.1
theorem RA.s {h : mh_H} {s0 : Nat} {E : nv} {D : fd} {w0 : wd} (q : RA h s0 E D w0) : mh_i h 115 11 = Int32.ofNat s0 := q.2.2.1
theorem RA.n {h : mh_H} {s0 : Nat} {E : nv} {D : fd} {w0 : wd} (q : RA h s0 E D w0) : mh_i h 115 20 = Int32.ofNat E.nu := q.2.2.2.1
theorem RA.a {h : mh_H} {s0 : Nat} {E : nv} {D : fd} {w0 : wd} (q : RA h s0 E D w0) : mh_i h 115 21 = Int32.ofNat E.ar := q.2.2.2.2.1
theorem RA.f {h : mh_H} {s0 : Nat} {E : nv} {D : fd} {w0 : wd} (q : RA h s0 E D w0) : mh_i h 115 14 = Int32.ofNat E.fu := q.2.2.2.2.2.1
theorem RA.t {h : mh_H} {s0 : Nat} {E : nv} {D : fd} {w0 : wd} (q : RA h s0 E D w0) : mh_i h 115 22 = tkV E.ta := q.2.2.2.2.2.2.1
theorem RA.w {h : mh_H} {s0 : Nat} {E : nv} {D : fd} {w0 : wd} (q : RA h s0 E D w0) : mh_i h 115 8 = Int32.ofNat (wW w0) := q.2.2.2.2.2.2.2.1
theorem RA.m {h : mh_H} {s0 : Nat} {E : nv} {D : fd} {w0 : wd} (q : RA h s0 E D w0) : mh_i h 115 9 = kb (decide (4000 < wW w0)) := q.2.2.2.2.2.2.2.2.1
theorem RA.k {h : mh_H} {s0 : Nat} {E : nv} {D : fd} {w0 : wd} (q : RA h s0 E D w0) : ∀ q, q < 250 → RK h (132 + 10 * q) (wK w0 q) ∧ mh_i h 118 q = wA w0 q := q.2.2.2.2.2.2.2.2.2.1
theorem RA.F {h : mh_H} {s0 : Nat} {E : nv} {D : fd} {w0 : wd} (q : RA h s0 E D w0) : FT h D := q.2.2.2.2.2.2.2.2.2.2.1
theorem RA.X {h : mh_H} {s0 : Nat} {E : nv} {D : fd} {w0 : wd} (q : RA h s0 E D w0) : FX (mh_i h 93) (mh_i h 95) (mh_i h 97) D := q.2.2.2.2.2.2.2.2.2.2.2
/-- what a statement may change, o its state, T names before it -/
def sV (o T b j : Nat) : Prop := kc o b ∨ b = 118 ∨ b = 130 ∨ b = 131 ∨ (∃ q, q < 250 ∧ kc (132 + 10 * q) b) ∨ (b = 115 ∧ (j = 8 ∨ j = 9 ∨ j = 14 ∨ (18 ≤ j ∧ j ≤ 22) ∨ j = 35)) ∨ ((b = 121 ∨ b = 122 ∨ b = 123) ∧ T ≤ j)
/-- claimNumbers and claimArrays of a point -/
def cnQ (G : pgm) (h : mh_H) (q : Nat) : Prop := (q < 1000 → mh_i h 130 q = Int32.ofNat (G.n q) ∧ mh_i h 131 q = Int32.ofNat (G.a q)) ∧ (1000 ≤ q → q < 1250 ∧ mh_i h (132 + 10 * (q - 1000)) 2 = Int32.ofNat (G.a (q - 1000)))
theorem cn_i {G : pgm} {h h1 : mh_H} {q : Nat} (w : cnQ G h q) (i : ∀ b j, b = 130 ∨ b = 131 ∨ (132 ≤ b ∧ b ≤ 2622) → mh_i h1 b j = mh_i h b j) : cnQ G h1 q := by
  refine ⟨fun hq => ⟨(i _ _ (by omega)).trans (w.1 hq).1, (i _ _ (by omega)).trans (w.1 hq).2⟩, fun hq => ⟨(w.2 hq).1, ?_⟩⟩
  have := (w.2 hq).1
  exact (i _ _ (by omega)).trans (w.2 hq).2
section RAs
variable {d : Nat} {h h1 : mh_H} {s0 s1 s2 T o o' p : Nat} {E : nv} {D : fd} {w0 : wd} {V U : Nat → Nat → Prop} {C : Option ab} {G : pgm} {sN : Int → Prop} {en : Int → Nat}
theorem RA.j (A : RA h s0 E D w0) : RJ h E.T E.sN E.en := RZ.j A.Z A.V
theorem RA_q (A : RA h s0 E D w0) (v : vK h V) (x : rq s1 V h h1) (J : RJ h1 E.T E.sN E.en) (hs : mh_i h1 115 11 = Int32.ofNat s2) : RA h1 s2 E D w0 := by
  have j := A.j
  have g := j.a.g
  have i : ∀ k, ¬ (k = 11 ∨ (23 ≤ k ∧ k ≤ 33)) → mh_i h1 115 k = mh_i h 115 k := fun k hk => (rq_lo j v x g (by omega) (fun z => hk z.2) (by omega)).1
  obtain ⟨t1, t2, t3⟩ := rq_tr j v x
  have g118 := j.a.F.g 118 100 250 (by decide +kernel)
  refine RA.of ⟨RJ_z J, RJ_v J, hs, (i 20 (by omega)).trans A.n, (i 21 (by omega)).trans A.a, (i 14 (by omega)).trans A.f, (i 22 (by omega)).trans A.t, (i 8 (by omega)).trans A.w, (i 9 (by omega)).trans A.m, fun q hq => ⟨RK_fz x.f.1 (fun y hy k w => by have := rqW_no j v w; omega) (A.k q hq).1, ((rq_lo j v x g118 (by omega) (by omega) (by omega)).1).trans (A.k q hq).2⟩, ?_, by rw [t1, t2, t3]; exact A.X⟩
  obtain ⟨c, c1, c2, c3, c4, c5, c6, c7, c8⟩ := A.F
  have hn := x.f.1.1
  refine ⟨c, by rw [(rq_lo j v x g (by omega) (by omega) (by omega)).2.2]; exact c1, fz_mg x.f.1 c2, by rw [fz_l x.f.1 c2]; exact c3, by rw [fz_l x.f.1 c2]; exact c4, c5, fun i a e w => ?_, fun w => ?_, fun f hf => ?_⟩
  · rcases x.n i a e with e' | e'
    · exact c6 i a e' w
    · have := c2.2
      unfold kc at w
      omega
  · rcases x.p c w with w' | w'
    · exact c7 w'
    · have := c2.2
      omega
  · rw [fz_i x.f.1 c2 (fun w => ?_)]
    · exact c8 f hf
    · rcases w with w | w | w | ⟨i, a, w1, w2, w3⟩ | w
      · omega
      · exact c7 w
      · omega
      · exact c6 i a w2 w3
      · obtain ⟨o, ⟨i, hi⟩, ho⟩ := v c f w
        exact c6 i o hi ho
theorem cn_q (A : RA h s0 E D w0) (v : vK h V) (x : rq s1 V h h1) {q : Nat} (w : cnQ G h q) : cnQ G h1 q := by
  have j := A.j
  have g130 := j.a.F.g 130 100 250 (by decide +kernel)
  have g131 := j.a.F.g 131 100 250 (by decide +kernel)
  refine ⟨fun hq => ⟨((rq_lo j v x g130 (by omega) (by omega) (by omega)).1).trans (w.1 hq).1, ((rq_lo j v x g131 (by omega) (by omega) (by omega)).1).trans (w.1 hq).2⟩, fun hq => ⟨(w.2 hq).1, ?_⟩⟩
  have := (w.2 hq).1
  have gk := (j.a.F.p (q - 1000) (by omega)).1.1
  exact ((rq_lo j v x gk (by omega) (by omega) (by omega)).1).trans (w.2 hq).2
/-- where own fields and names alone were written -/
theorem RA_put (A : RA h s0 E D w0) {E' : nv} (ek : mh_k h1 = mh_k h) (el : mh_l h1 = mh_l h) (en' : mh_n h1 = mh_n h) (er : ∀ b j, ¬ (b = 115 ∧ j = 23) → mh_r h1 b j = mh_r h b j) (ej : mh_j h1 = mh_j h) (ei : ∀ b j, ¬ b = 115 → ¬ (121 ≤ b ∧ b ≤ 123) → ¬ (130 ≤ b ∧ b ≤ 131) → mh_i h1 b j = mh_i h b j) (V' : EV h1 E'.T E'.sN E'.en) (hs : mh_i h1 115 11 = Int32.ofNat s1) (hn : mh_i h1 115 20 = Int32.ofNat E'.nu) (ha : mh_i h1 115 21 = Int32.ofNat E'.ar) (hf : mh_i h1 115 14 = Int32.ofNat E'.fu) (ht : mh_i h1 115 22 = tkV E'.ta) (hc : mh_i h1 115 34 = mh_i h 115 34) (hw : mh_i h1 115 8 = mh_i h 115 8) (hm : mh_i h1 115 9 = mh_i h 115 9) : RA h1 s1 E' D w0 := by
  have row : ∀ b, ¬ b = 115 → ¬ (121 ≤ b ∧ b ≤ 123) → ¬ (130 ≤ b ∧ b ≤ 131) → mh_i h1 b = mh_i h b := fun b n1 n2 n3 => funext fun j => ei b j n1 n2 n3
  have z : fz (fun b _ => b = 115 ∨ (121 ≤ b ∧ b ≤ 123) ∨ (130 ≤ b ∧ b ≤ 131)) h h1 := ⟨Nat.le_of_eq en'.symm, fun b _ => ⟨by rw [ek], by rw [el]⟩, fun b j _ nb => ⟨ei b j (by omega) (by omega) (by omega), by rw [ej], er b j (by omega)⟩⟩
  refine RA.of ⟨RZ_same A.Z ek el en' er, V', hs, hn, ha, hf, ht, hw.trans A.w, hm.trans A.m, fun q hq => ⟨RK_fz z (fun y hy j w => by omega) (A.k q hq).1, (ei 118 q (by omega) (by omega) (by omega)).trans (A.k q hq).2⟩, ?_, by rw [row 93 (by omega) (by omega) (by omega), row 95 (by omega) (by omega) (by omega), row 97 (by omega) (by omega) (by omega)]; exact A.X⟩
  obtain ⟨c, c1, c2, c3, c4, c5, c6, c7, c8⟩ := A.F
  refine ⟨c, by rw [er _ _ (by omega)]; exact c1, by unfold mg at c2 ⊢; rw [ek, en']; exact c2, by rw [el]; exact c3, by rw [el]; exact c4, c5, fun i a e => c6 i a (by rw [← er _ _ (by omega)]; exact e), fun w => c7 ?_, fun f hf => by rw [ei c f (by omega) (by omega) (by omega)]; exact c8 f hf⟩
  obtain ⟨j, j1, j2, j3⟩ := w
  exact ⟨j, j1, j2, by rw [← er _ _ (by omega)]; exact j3⟩
/-- one of its fields that nothing rests on -/
theorem RA_o (A : RA h s0 E D w0) {k : Nat} {v : Int32} (hk : k = 19 ∨ (23 ≤ k ∧ k ≤ 33)) : RA (mh_si h 115 k v) s0 E D w0 := by
  have i : ∀ j, ¬ j = k → mh_i (mh_si h 115 k v) 115 j = mh_i h 115 j := fun j hj => by rw [hi_si, if_neg (fun z => hj z.2)]
  have o : ∀ b j, ¬ b = 115 → mh_i (mh_si h 115 k v) b j = mh_i h b j := fun b j hb => by rw [hi_si, if_neg (fun z => hb z.1)]
  exact RA_put A rfl rfl rfl (fun _ _ _ => rfl) rfl (fun b j n1 _ _ => o b j n1) (EV_same A.V (i 18 (by omega)) (fun j _ => o _ _ (by omega)) (fun j _ => o _ _ (by omega))) ((i 11 (by omega)).trans A.s) ((i 20 (by omega)).trans A.n) ((i 21 (by omega)).trans A.a) ((i 14 (by omega)).trans A.f) ((i 22 (by omega)).trans A.t) (i 34 (by omega)) (i 8 (by omega)) (i 9 (by omega))
theorem RA_11 (A : RA h s0 E D w0) : RA (mh_si h 115 11 (Int32.ofNat s1)) s1 E D w0 := by
  have i : ∀ j, ¬ j = 11 → mh_i (mh_si h 115 11 (Int32.ofNat s1)) 115 j = mh_i h 115 j := fun j hj => by rw [hi_si, if_neg (fun z => hj z.2)]
  have o : ∀ b j, ¬ b = 115 → mh_i (mh_si h 115 11 (Int32.ofNat s1)) b j = mh_i h b j := fun b j hb => by rw [hi_si, if_neg (fun z => hb z.1)]
  exact RA_put A rfl rfl rfl (fun _ _ _ => rfl) rfl (fun b j n1 _ _ => o b j n1) (EV_same A.V (i 18 (by omega)) (fun j _ => o _ _ (by omega)) (fun j _ => o _ _ (by omega))) (by rw [hi_si, if_pos ⟨rfl, rfl⟩]) ((i 20 (by omega)).trans A.n) ((i 21 (by omega)).trans A.a) ((i 14 (by omega)).trans A.f) ((i 22 (by omega)).trans A.t) (i 34 (by omega)) (i 8 (by omega)) (i 9 (by omega))
theorem RA_23 (A : RA h s0 E D w0) {v : Option Nat} : RA (mh_sr h 115 23 v) s0 E D w0 := RA_put A rfl rfl rfl (fun b j nb => by rw [hr_sr, if_neg nb]) rfl (fun _ _ _ _ _ => rfl) (EV_same A.V rfl (fun _ _ => rfl) (fun _ _ => rfl)) A.s A.n A.a A.f A.t rfl rfl rfl
/-- frames -/
theorem sV_no (J : RJ h T sN en) (lo : 2644 ≤ o) {T' b j : Nat} (w : rqW s0 (sV o T') h b j) : (b = 115 ∧ (j = 11 ∨ (23 ≤ j ∧ j ≤ 33) ∨ j = 8 ∨ j = 9 ∨ j = 14 ∨ (18 ≤ j ∧ j ≤ 22) ∨ j = 35)) ∨ (b = 119 ∧ s0 ≤ j) ∨ (124 ≤ b ∧ b ≤ 131) ∨ b = 118 ∨ (∃ q, q < 250 ∧ kc (132 + 10 * q) b) ∨ ((b = 121 ∨ b = 122 ∨ b = 123) ∧ T' ≤ j) ∨ 2644 ≤ b := by
  obtain ⟨PQ, PS, PU, PF, PL, PH, lP, P⟩ := J.p
  rcases w with w | w | w | ⟨i, a, w1, w2, w3⟩ | w
  · exact Or.inl ⟨w.1, by omega⟩
  · have := P.n b ((PR_pa P).mp w)
    omega
  · exact Or.inr (Or.inl w)
  · have := (J.s i a w2).1
    unfold kc at w3
    omega
  · rcases w with w | w | w | w | w | w | w
    · unfold kc at w; omega
    · exact Or.inr (Or.inr (Or.inr (Or.inl w)))
    · omega
    · omega
    · exact Or.inr (Or.inr (Or.inr (Or.inr (Or.inl w))))
    · exact Or.inl ⟨w.1, by omega⟩
    · exact Or.inr (Or.inr (Or.inr (Or.inr (Or.inr (Or.inl w)))))
theorem sV_lo (J : RJ h T sN en) (lo : 2644 ≤ o) {T' : Nat} (x : rq s0 (sV o T') h h1) {b c : Nat} (g : mg h b c) (hb : b < 118 ∨ b = 120 ∨ b = 121 ∨ b = 122) {j : Nat} (hj : ¬ (b = 115 ∧ (j = 11 ∨ (23 ≤ j ∧ j ≤ 33) ∨ j = 8 ∨ j = 9 ∨ j = 14 ∨ (18 ≤ j ∧ j ≤ 22) ∨ j = 35))) (hT : b = 121 ∨ b = 122 → j < T') : mh_i h1 b j = mh_i h b j ∧ mh_j h1 b j = mh_j h b j ∧ mh_r h1 b j = mh_r h b j := x.f.1.2.2 b j g.2 (fun w => by
  have k := sV_no J lo w
  rcases k with k | k | k | k | ⟨q, q1, q2⟩ | k | k
  · omega
  · omega
  · omega
  · omega
  · unfold kc at q2; omega
  · omega
  · omega)
theorem sV_tr (J : RJ h T sN en) (lo : 2644 ≤ o) {T' : Nat} (x : rq s0 (sV o T') h h1) : mh_i h1 93 = mh_i h 93 ∧ mh_i h1 95 = mh_i h 95 ∧ mh_i h1 97 = mh_i h 97 := ⟨funext fun j => (sV_lo J lo x (J.a.F.g 93 102 26000 (by decide +kernel)) (by omega) (by omega) (by omega)).1, funext fun j => (sV_lo J lo x (J.a.F.g 95 100 26000 (by decide +kernel)) (by omega) (by omega) (by omega)).1, funext fun j => (sV_lo J lo x (J.a.F.g 97 100 26000 (by decide +kernel)) (by omega) (by omega) (by omega)).1⟩
theorem sV_x (J : RJ h T sN en) (l : lv h s0 o) (l' : lv h s0 o') (ne : o' ≠ o) {T' y j : Nat} (hy : y ≤ 4) : ¬ sV o T' (o' + y) j := fun w => by
  have lo := sp_lo J (lv_sp l')
  rcases w with w | w | w | w | ⟨q, q1, q2⟩ | w | w
  · exact kc_no J (lv_sp l') (lv_sp l) ne y hy w
  · omega
  · omega
  · omega
  · unfold kc at q2; omega
  · omega
  · omega
theorem sV_K (J : RJ h T sN en) {T' : Nat} (x : rq s0 (sV o T') h h1) (l : lv h s0 o) (l' : lv h s0 o') (ne : o' ≠ o) (c : RK h o' C) : RK h1 o' C := rq_K J x l' (fun y hy _ => sV_x J l l' ne hy) c
theorem sV_ki (J : RJ h T sN en) {T' : Nat} (x : rq s0 (sV o T') h h1) (l : lv h s0 o) (l' : lv h s0 o') (ne : o' ≠ o) (j : Nat) : mh_i h1 o' j = mh_i h o' j := rq_ki J x l' (fun _ => sV_x J l l' ne (y := 0) (by omega)) j
theorem sV_z (J : RJ h T sN en) (lo : 2644 ≤ o) {T' : Nat} (x : rq s0 (sV o T') h h1) : mh_i h1 115 34 = mh_i h 115 34 := (sV_lo J lo x J.a.g (by omega) (by omega) (by omega)).1
theorem rq_z (J : RJ h T sN en) (v : vK h V) (x : rq s0 V h h1) : mh_i h1 115 34 = mh_i h 115 34 := (rq_lo J v x J.a.g (by omega) (by omega) (by omega)).1
/-- a step of a spare's is one of ours -/
theorem sV_sp {T' : Nat} (x : rq s1 (sV o' T') h h1) (hs : s0 ≤ s1) (hT : T ≤ T') (ho : o' = o ∨ ∃ i, s0 ≤ i ∧ mh_r h 119 i = some o') : rq s0 (sV o T) h h1 := rq_w x hs (fun b j _ w => by
  rcases w with w | w | w | w | w | w | w
  · rcases ho with e | ⟨i, i1, i2⟩
    · rw [e] at w; exact Or.inl (Or.inl w)
    · exact Or.inr (Or.inr (Or.inr (Or.inr (Or.inl ⟨i, o', i1, i2, w⟩))))
  · exact Or.inl (Or.inr (Or.inl w))
  · exact Or.inl (Or.inr (Or.inr (Or.inl w)))
  · exact Or.inl (Or.inr (Or.inr (Or.inr (Or.inl w))))
  · exact Or.inl (Or.inr (Or.inr (Or.inr (Or.inr (Or.inl w)))))
  · exact Or.inl (Or.inr (Or.inr (Or.inr (Or.inr (Or.inr (Or.inl w))))))
  · exact Or.inl (Or.inr (Or.inr (Or.inr (Or.inr (Or.inr (Or.inr ⟨w.1, by omega⟩)))))))
theorem sV_v (x : rq s1 V h h1) (hs : s0 ≤ s1) (w : ∀ b j, V b j → kc o b ∨ ∃ i a, s0 ≤ i ∧ mh_r h 119 i = some a ∧ kc a b) : rq s0 (sV o T) h h1 := rq_w x hs (fun b j _ v => by
  rcases w b j v with w | w
  · exact Or.inl (Or.inl w)
  · exact Or.inr (Or.inr (Or.inr (Or.inr (Or.inl w)))))
theorem sV_F (x : rq s1 (fun _ _ => False) h h1) (hs : s0 ≤ s1) : rq s0 (sV o T) h h1 := sV_v x hs (fun _ _ w => absurd w (fun z => z))
theorem sV_si {b k : Nat} {v : Int32} (w : rqW s0 (sV o T) h b k) : rq s0 (sV o T) h (mh_si h b k v) := ⟨fR_si w, fun _ hx => Or.inl hx, fun _ _ e => e, fun _ _ e => Or.inl e⟩
theorem sV_115 {k : Nat} {v : Int32} (hk : k = 11 ∨ (23 ≤ k ∧ k ≤ 33) ∨ k = 8 ∨ k = 9 ∨ k = 14 ∨ (18 ≤ k ∧ k ≤ 22) ∨ k = 35) : rq s0 (sV o T) h (mh_si h 115 k v) := sV_si (by
  have : (k = 11 ∨ (23 ≤ k ∧ k ≤ 33)) ∨ (k = 8 ∨ k = 9 ∨ k = 14 ∨ (18 ≤ k ∧ k ≤ 22) ∨ k = 35) := by omega
  rcases this with w | w
  · exact Or.inl ⟨rfl, w⟩
  · exact Or.inr (Or.inr (Or.inr (Or.inr (Or.inr (Or.inr (Or.inr (Or.inr (Or.inr (Or.inl ⟨rfl, w⟩))))))))))
/-- a Known's own step -/
theorem ra_k (A : RA h s0 E D w0) (s : sp h o) (x : fq (kW o) h h1) (k : ko h1 o) : RA h1 s0 E D w0 := by
  have j := A.j
  exact RA_q A (vK_1 s) (rq_rs (s0 := s0) j (vK_1 s) (rs_k x)) (RJ_k j s x k) ((rs_ij j s x 11).trans A.s)
theorem sV_k (A : RA h s1 E D w0) (s : sp h o) (x : fq (kW o) h h1) : rq s0 (sV o T) h h1 := sV_v (rq_rs (s0 := s0) A.j (vK_1 s) (rs_k x)) (Nat.le_refl _) (fun b j w => Or.inl w)
end RAs
