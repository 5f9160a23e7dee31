set_option maxRecDepth 100000
/-! what stays of the class where only the other side, or the text that is fed, shown or put in, changes -/
def WC (W : Nat → Nat → Prop) (KC : Nat → Prop) (h : mh_H) : Prop := (∀ b, b < 81 → KC b) ∧ (∀ b j o, KC b → mh_r h b j = some o → KC o) ∧ (∀ b j, KC b → W b j → (b = 0 ∧ (j = 1 ∨ 13 ≤ j)) ∨ (b = 67 ∧ (j = 2 ∨ j = 3 ∨ j = 4 ∨ j = 5 ∨ j = 9 ∨ j = 10 ∨ j = 12)) ∨ (68 ≤ b ∧ b ≤ 72) ∨ (mh_k h b = 102 ∧ (b = 1 ∨ b = 74 ∨ 2644 ≤ b)))
theorem WC.of {W : Nat → Nat → Prop} {KC : Nat → Prop} {h : mh_H} (q : (∀ b, b < 81 → KC b) ∧ (∀ b j o, KC b → mh_r h b j = some o → KC o) ∧ (∀ b j, KC b → W b j → (b = 0 ∧ (j = 1 ∨ 13 ≤ j)) ∨ (b = 67 ∧ (j = 2 ∨ j = 3 ∨ j = 4 ∨ j = 5 ∨ j = 9 ∨ j = 10 ∨ j = 12)) ∨ (68 ≤ b ∧ b ≤ 72) ∨ (mh_k h b = 102 ∧ (b = 1 ∨ b = 74 ∨ 2644 ≤ b)))) : WC W KC h := q
theorem WC.z {W : Nat → Nat → Prop} {KC : Nat → Prop} {h : mh_H} (q : WC W KC h) : ∀ b, b < 81 → KC b := q.1
theorem WC.c {W : Nat → Nat → Prop} {KC : Nat → Prop} {h : mh_H} (q : WC W KC h) : ∀ b j o, KC b → mh_r h b j = some o → KC o := q.2.1
theorem WC.w {W : Nat → Nat → Prop} {KC : Nat → Prop} {h : mh_H} (q : WC W KC h) : ∀ b j, KC b → W b j → (b = 0 ∧ (j = 1 ∨ 13 ≤ j)) ∨ (b = 67 ∧ (j = 2 ∨ j = 3 ∨ j = 4 ∨ j = 5 ∨ j = 9 ∨ j = 10 ∨ j = 12)) ∨ (68 ≤ b ∧ b ≤ 72) ∨ (mh_k h b = 102 ∧ (b = 1 ∨ b = 74 ∨ 2644 ≤ b)) := q.2.2
section WCs
variable {W : Nat → Nat → Prop} {KC : Nat → Prop} {d : Nat} {h h1 : mh_H} {Y C E TT UU SC SP nC nE nS pa p St nb na nm n a cnt : Nat} {rm : Nat → Nat} {sN : Int → Prop} {en : Int → Nat} {c : Nat} {t : tr} {x sz : Nat} {tk : Option Nat} {A : ab} {G : pgm} {J : pin} {fst oth : Nat → Nat} {cl : Nat → Option ab}
theorem wc_n (k : WC W KC h) {b : Nat} (hb : KC b) (n0 : b ≠ 0) (n1 : b < 67 ∨ 72 < b) (nk : ¬ mh_k h b = 102) : ∀ j, ¬ W b j := fun j w => by
  rcases k.w b j hb w with z | z | z | z
  · exact n0 z.1
  · omega
  · omega
  · exact nk z.1
theorem wc_b (k : WC W KC h) {b : Nat} (hb : b < 81) (n0 : b ≠ 0) (n1 : b < 67 ∨ 72 < b) (n2 : b ≠ 1) (n3 : b ≠ 74) : ∀ j, ¬ W b j := fun j w => by
  rcases k.w b j (k.z b hb) w with z | z | z | z
  · exact n0 z.1
  · omega
  · omega
  · omega
theorem wc_i (f : fz W h h1) (k : WC W KC h) {b q : Nat} (hb : KC b) (g : mg h b q) (n0 : b ≠ 0) (n1 : b < 67 ∨ 72 < b) (nk : q ≠ 102) : mh_i h1 b = mh_i h b := funext fun j => fz_i f g (wc_n k hb n0 n1 (fun z => nk (g.1.symm.trans z)) j)
theorem wc_lo (f : fz W h h1) (k : WC W KC h) (F : CF h) (b q l : Nat) (w : (b, q, l) ∈ cfK) (n0 : b < 81 ∧ b ≠ 0 ∧ (b < 67 ∨ 72 < b) ∧ b ≠ 1 ∧ b ≠ 74) : mh_i h1 b = mh_i h b := funext fun j => fz_i f (F.g b q l w) (wc_b k n0.1 n0.2.1 n0.2.2.1 n0.2.2.2.1 n0.2.2.2.2 j)
theorem wc_r (f : fz W h h1) (k : WC W KC h) (F : CF h) (b q l : Nat) (w : (b, q, l) ∈ cfK) (n0 : b < 81 ∧ b ≠ 0 ∧ (b < 67 ∨ 72 < b) ∧ b ≠ 1 ∧ b ≠ 74) : mh_r h1 b = mh_r h b := funext fun j => fz_r f (F.g b q l w) (wc_b k n0.1 n0.2.1 n0.2.2.1 n0.2.2.2.1 n0.2.2.2.2 j)
theorem CF_f (f : fz W h h1) (k : WC W KC h) (hn : 2644 ≤ mh_n h) (F : CF h) : CF h1 := by
  refine ⟨fun t ht => ⟨fz_mg f (F.k t ht).1, (fz_l f (F.k t ht).1).trans (F.k t ht).2⟩, fun t ht => ?_⟩
  have q : ∀ t ∈ cfR, t.1 < 81 ∧ ¬ ((t.1 = 0 ∧ (t.2.1 = 1 ∨ 13 ≤ t.2.1)) ∨ (t.1 = 67 ∧ (t.2.1 = 2 ∨ t.2.1 = 3 ∨ t.2.1 = 4 ∨ t.2.1 = 5 ∨ t.2.1 = 9 ∨ t.2.1 = 10 ∨ t.2.1 = 12)) ∨ (68 ≤ t.1 ∧ t.1 ≤ 72) ∨ t.1 = 1 ∨ t.1 = 74) := by decide +kernel
  obtain ⟨q1, q2⟩ := q t ht
  have nW : ¬ W t.1 t.2.1 := fun w => by
    rcases k.w _ _ (k.z _ q1) w with z | z | z | z
    · exact q2 (Or.inl z)
    · exact q2 (Or.inr (Or.inl z))
    · exact q2 (Or.inr (Or.inr (Or.inl z)))
    · rcases z.2 with z | z | z
      · exact q2 (Or.inr (Or.inr (Or.inr (Or.inl z))))
      · exact q2 (Or.inr (Or.inr (Or.inr (Or.inr z))))
      · omega
  rw [(f.2.2 t.1 t.2.1 (by omega) nW).2.2]
  exact F.r t ht
theorem pl_81 {b j : Nat} (q : isPl b j) : b < 81 ∧ b ≠ 0 ∧ (b < 67 ∨ 72 < b) ∧ b ≠ 1 ∧ b ≠ 74 := by
  unfold isPl at q
  omega
theorem pl_r (f : fz W h h1) (k : WC W KC h) (hn : 2644 ≤ mh_n h) {b j : Nat} (q : isPl b j) : mh_r h1 b j = mh_r h b j := by
  obtain ⟨a1, a2, a3, a4, a5⟩ := pl_81 q
  exact (f.2.2 b j (by omega) (wc_b k a1 a2 a3 a4 a5 j)).2.2
/-- cells of a State -/
theorem st_W (k : WC W KC h) {o : Nat} (hk : KC o) (s : so h o) (a : cAd o) : ∀ y, y ≤ 2 → ∀ j, ¬ W (o + y) j := fun y hy j => by
  obtain ⟨s1, s2, s3, -, s5, s6, -⟩ := s
  have k1 := k.c o 3 _ hk s2
  have k2 := k.c o 4 _ hk s5
  have e1 := s1.1
  have e3 := s3.1
  have e6 := s6.1
  unfold cAd at a
  have hy' : y = 0 ∨ y = 1 ∨ y = 2 := by omega
  rcases hy' with e | e | e
  · subst e
    exact wc_n k hk (by omega) (by omega) (fun z => by omega) j
  · subst e
    exact wc_n k k1 (by omega) (by omega) (fun z => by omega) j
  · subst e
    exact wc_n k k2 (by omega) (by omega) (fun z => by omega) j
theorem CS_f (f : fz W h h1) (k : WC W KC h) (hn : 2644 ≤ mh_n h) (S : CS h) : CS h1 := by
  refine ⟨fun b j o hb e => ?_, fun b j b' j' o hb hb' e e' => ?_⟩
  · rw [pl_r f k hn hb] at e
    obtain ⟨s, a⟩ := S.o b j o hb e
    have ko := k.c b j o (k.z b (pl_81 hb).1) e
    have w := st_W k ko s a
    exact ⟨so_fz f (w 0 (by omega) 3) (w 0 (by omega) 4) s, a⟩
  · rw [pl_r f k hn hb] at e
    rw [pl_r f k hn hb'] at e'
    exact S.i b j b' j' o hb hb' e e'
theorem cs_f (f : fz W h h1) (k : WC W KC h) (hn : 2644 ≤ mh_n h) {o : Nat} : cs h1 o ↔ cs h o := by
  constructor
  · rintro ⟨b, j, hb, e⟩
    rw [pl_r f k hn hb] at e
    exact ⟨b, j, hb, e⟩
  · rintro ⟨b, j, hb, e⟩
    exact ⟨b, j, hb, (pl_r f k hn hb).trans e⟩
theorem pv_f (f : fz W h h1) (k : WC W KC h) (hn : 2644 ≤ mh_n h) (S : CS h) {b j : Nat} {v : Option ab} (hb : isPl b j) (w : pv h b j v) : pv h1 b j v := by
  obtain ⟨o, e, r⟩ := w
  obtain ⟨s, a⟩ := S.o b j o hb e
  have ko := k.c b j o (k.z b (pl_81 hb).1) e
  exact ⟨o, (pl_r f k hn hb).trans e, RS_fz f (st_W k ko s a) r⟩
theorem CP_f (f : fz W h h1) (k : WC W KC h) (hn : 2644 ≤ mh_n h) {P R lP : Nat} (w : CP h P R lP) : CP h1 P R lP := by
  have r35 : ∀ j, mh_r h1 35 j = mh_r h 35 j := fun j => (f.2.2 35 j (by omega) (wc_b k (by omega) (by omega) (by omega) (by omega) (by omega) j)).2.2
  exact ⟨(r35 9).trans w.r9, (r35 10).trans w.r10, fz_mg f w.g9, fz_mg f w.g10, (fz_l f w.g9).trans w.l9, (fz_l f w.g10).trans w.l10, w.d, w.n, fun o ho => w.s o ((cs_f f k hn).mp ho), w.b⟩
theorem kc_Y (k : WC W KC h) (y : mh_r h 2 1 = some Y) : KC Y := k.c 2 1 Y (k.z 2 (by omega)) y
theorem rY_f (f : fz W h h1) (k : WC W KC h) (q : SQ h Y C E TT UU SC SP nC nE nS) (y : mh_r h 2 1 = some Y) : mh_r h1 Y = mh_r h Y := funext fun j => fz_r f q.gY (wc_n k (kc_Y k y) (by have := q.n Y (by simp); omega) (by have := q.n Y (by simp); omega) (fun z => by have := q.gY.1; omega) j)
theorem SQ_f (f : fz W h h1) (k : WC W KC h) (y : mh_r h 2 1 = some Y) (q : SQ h Y C E TT UU SC SP nC nE nS) : SQ h1 Y C E TT UU SC SP nC nE nS := by
  have r := rY_f f k q y
  exact ⟨fz_mg f q.gY, by rw [r]; exact q.r0, by rw [r]; exact q.r2, by rw [r]; exact q.r3, by rw [r]; exact q.r4, by rw [r]; exact q.r6, by rw [r]; exact q.r7, fz_mg f q.gC, fz_mg f q.gE, fz_mg f q.gT, fz_mg f q.gU, fz_mg f q.g6, fz_mg f q.g7, (fz_l f q.gC).trans q.lC, (fz_l f q.gE).trans q.lE, (fz_l f q.gT).trans q.lT, (fz_l f q.gU).trans q.lU, (fz_l f q.g6).trans q.l6, (fz_l f q.g7).trans q.l7, q.n, q.bC, q.bE, q.bS⟩
theorem BS_f (f : fz W h h1) (k : WC W KC h) (B : BS h Y C E TT UU SC SP nC nE nS) : BS h1 Y C E TT UU SC SP nC nE nS := by
  have hn := B.N
  obtain ⟨P, R, lP, cp⟩ := B.p
  obtain ⟨Ho, Fa, Be, o1, o2, o3⟩ := B.o
  have r2 := wc_r f k B.F 2 4 20 (by decide +kernel) (by omega)
  exact ⟨CF_f f k hn B.F, CS_f f k hn B.S, ⟨P, R, lP, CP_f f k hn cp⟩, SQ_f f k B.y B.q, by rw [r2]; exact B.y, Nat.le_trans hn f.1, ⟨Ho, Fa, Be, (pl_r f k hn (by unfold isPl; omega)).trans o1, (pl_r f k hn (by unfold isPl; omega)).trans o2, (pl_r f k hn (by unfold isPl; omega)).trans o3⟩⟩
theorem St_f (f : fz W h h1) (k : WC W KC h) (B : BS h Y C E TT UU SC SP nC nE nS) (hp : mh_r h 20 p = some St) (g : mg h St 9) : mh_i h1 St = mh_i h St := by
  obtain ⟨-, w2⟩ := st_neX B g
  have kS := k.c 20 p St (k.z 20 (by omega)) hp
  have e9 := g.1
  exact wc_i f k kS g (fun z => w2 (Or.inr (Or.inl z))) (by
    by_cases z : 67 ≤ St ∧ St ≤ 72
    · exact absurd (Or.inr (Or.inr (Or.inl z))) w2
    · omega) (by decide)
theorem PH_f (f : fz W h h1) (k : WC W KC h) (B : BS h Y C E TT UU SC SP nC nE nS) (H : PH h G cnt) : PH h1 G cnt := by
  have F := B.F
  have i2 := wc_lo f k F 2 4 20 (by decide +kernel) (by omega)
  have r20 := wc_r f k F 20 105 250 (by decide +kernel) (by omega)
  have i21 := wc_lo f k F 21 100 250 (by decide +kernel) (by omega)
  have i22 := wc_lo f k F 22 100 250 (by decide +kernel) (by omega)
  have i25 := wc_lo f k F 25 100 250 (by decide +kernel) (by omega)
  have i26 := wc_lo f k F 26 100 250 (by decide +kernel) (by omega)
  refine ⟨by rw [i2]; exact H.c, H.b, fun p hp => ?_, H.k, fun p hp k5 => by rw [i25]; exact H.m p hp k5, fun p hp k4 k6 => by rw [i26]; exact H.e p hp k4 k6⟩
  obtain ⟨St, nb, nm, na, nx, q1, q2, q3, q4, q5, q6, q7, q8, q9⟩ := H.s p hp
  have iS := St_f f k B q1 q2
  exact ⟨St, nb, nm, na, nx, by rw [r20]; exact q1, fz_mg f q2, by rw [iS]; exact q3, by rw [i21]; exact q4, by rw [iS]; exact q5, q6, by rw [i22]; exact q7, by rw [iS]; exact q8, q9⟩
theorem src_f (f : fz W h h1) (k : WC W KC h) {b : Nat} (kb' : KC b) (g : mg h b 100) (hb : (9 ≤ b ∧ b ≤ 19) ∨ 2644 ≤ b) : mh_i h1 b = mh_i h b := wc_i f k kb' g (by omega) (by omega) (by decide)
theorem SU_f (f : fz W h h1) (k : WC W KC h) (B : BS h Y C E TT UU SC SP nC nE nS) {lQ : Nat} {tu : Bool} {sum c0 p0 : Nat} (w : SU h C E TT UU SC SP nC nE nS lQ nb na sN en A t tu sum c0 p0) : SU h1 C E TT UU SC SP nC nE nS lQ nb na sN en A t tu sum c0 p0 := by
  have q := B.q
  have kY := kc_Y k B.y
  have eC := src_f f k (k.c Y 0 C kY q.r0) q.gC (q.n C (by simp))
  have eE := src_f f k (k.c Y 2 E kY q.r2) q.gE (q.n E (by simp))
  have eT := src_f f k (k.c Y 3 TT kY q.r3) q.gT (q.n TT (by simp))
  have eU := src_f f k (k.c Y 4 UU kY q.r4) q.gU (q.n UU (by simp))
  have e6 := src_f f k (k.c Y 6 SC kY q.r6) q.g6 (q.n SC (by simp))
  have e7 := src_f f k (k.c Y 7 SP kY q.r7) q.g7 (q.n SP (by simp))
  exact ⟨w.s, by rw [e6]; exact w.c0, by rw [e6]; exact w.c1, by rw [e7]; exact w.p0, by rw [e7]; exact w.p1, by rw [eC]; exact w.c, w.w, w.z, w.m, by rw [eE]; exact w.e, by rw [eT, eU]; exact w.u, w.b1, w.b3, w.b4, w.b6⟩
theorem suA_f (f : fz W h h1) (k : WC W KC h) (B : BS h Y C E TT UU SC SP nC nE nS) {sum : Nat} (w : suA h C E TT UU SC SP nC nE nS pa nb na sN en n a rm t sum) : suA h1 C E TT UU SC SP nC nE nS pa nb na sN en n a rm t sum := by
  obtain ⟨c0, p0, w⟩ := w
  exact ⟨c0, p0, fun A e1 e2 e3 => SU_f f k B (w A e1 e2 e3)⟩
theorem suR_f (f : fz W h h1) (k : WC W KC h) (B : BS h Y C E TT UU SC SP nC nE nS) : ∀ t sum, suR h C E TT UU SC SP nC nE nS pa nb na sN en n a rm t sum → suR h1 C E TT UU SC SP nC nE nS pa nb na sN en n a rm t sum := by
  intro t
  induction t with
  | leaf _ => exact fun _ _ => trivial
  | branch m cs r _ ih => exact fun sum w => ⟨suA_f f k B w.1, ih (sum + 1) w.2⟩
theorem tkF_f (f : fz W h h1) (k : WC W KC h) (B : BS h Y C E TT UU SC SP nC nE nS) (w : tkF h p tk) : tkF h1 p tk := by
  have F := B.F
  have r20 := wc_r f k F 20 105 250 (by decide +kernel) (by omega)
  have i21 := wc_lo f k F 21 100 250 (by decide +kernel) (by omega)
  have i23 := wc_lo f k F 23 100 250 (by decide +kernel) (by omega)
  rcases w with ⟨w1, w2⟩ | ⟨q, Sq, hq, w1, w2, w3, w⟩
  · exact Or.inl ⟨by rw [i23]; exact w1, w2⟩
  · have e8 := St_f f k B w2 w3
    refine Or.inr ⟨q, Sq, hq, by rw [i23]; exact w1, by rw [r20]; exact w2, fz_mg f w3, ?_⟩
    rcases w with ⟨w4, w5⟩ | ⟨sl, nq, w4, w5, w6, w7⟩
    · exact Or.inl ⟨by rw [e8]; exact w4, w5⟩
    · exact Or.inr ⟨sl, nq, by rw [e8]; exact w4, w5, by rw [i21]; exact w6, w7⟩
theorem PTC_f (f : fz W h h1) (k : WC W KC h) (B : BS h Y C E TT UU SC SP nC nE nS) (hS : mh_r h 20 p = some St) (gS : mg h St 9) (w : PTC h Y C E TT UU SC SP nC nE nS pa p St nb na nm n a rm sN en c t x sz tk) : PTC h1 Y C E TT UU SC SP nC nE nS pa p St nb na nm n a rm sN en c t x sz tk := by
  have iS := St_f f k B hS gS
  have kY := kc_Y k B.y
  have rY := rY_f f k B.q B.y
  obtain ⟨W1, W2, W3, W4, W5, W6, W7, W9⟩ := w
  refine ⟨fun e => ?_, fun e => ?_, fun e => ?_, fun e => ?_, fun e => ?_, fun e => ?_, fun e => ?_, fun e => ?_⟩
  · obtain ⟨u1, u2, u3, su, sum, u4, u5, u6, u7, u8⟩ := W1 e
    exact ⟨u1, u2, by rw [iS]; exact u3, su, sum, by rw [iS]; exact u4, u5, u6, by rw [iS]; exact u7, suA_f f k B u8⟩
  · obtain ⟨u1, u2, u3⟩ := W2 e
    exact ⟨u1, by rw [iS]; exact u2, by rw [iS]; exact u3⟩
  · obtain ⟨u1, u2, u3⟩ := W3 e
    exact ⟨u1, by rw [iS]; exact u2, u3⟩
  · obtain ⟨u1, sl, sum, u2, u3, u4, u5⟩ := W4 e
    exact ⟨u1, sl, sum, u2, by rw [iS]; exact u3, by rw [iS]; exact u4, suA_f f k B u5⟩
  · obtain ⟨u1, sl, sum, zz, u2, u3, u4, u5, u6, u7, u8, u9, u10⟩ := W5 e
    exact ⟨u1, sl, sum, zz, u2, by rw [iS]; exact u3, by rw [iS]; exact u4, u5, u6, u7, by rw [iS]; exact u8, suA_f f k B u9, suA_f f k B u10⟩
  · obtain ⟨u1, su, sum, u2, u3, u4, u5, u6, u7⟩ := W6 e
    exact ⟨u1, su, sum, by rw [iS]; exact u2, u3, u4, u5, by rw [iS]; exact u6, suR_f f k B t sum u7⟩
  · obtain ⟨u1, k0, ce, KA, WA, nK, KK, WW, u2, u3, u4⟩ := W7 e
    have eK := src_f f k (k.c Y 9 KA kY u3.r9) u3.gK (u3.n KA (by simp))
    have eW := src_f f k (k.c Y 10 WA kY u3.r10) u3.gW (u3.n WA (by simp))
    refine ⟨u1, k0, ce, KA, WA, nK, KK, WW, by rw [iS]; exact u2, ⟨fz_mg f u3.g, by rw [iS]; exact u3.s, by rw [rY]; exact u3.r9, fz_mg f u3.gK, by rw [fz_l f u3.gK]; exact u3.lK, by rw [rY]; exact u3.r10, fz_mg f u3.gW, by rw [fz_l f u3.gW]; exact u3.lW, u3.n, u3.c, u3.b, by rw [eK]; exact u3.k, by rw [eW]; exact u3.w, Nat.le_trans u3.N f.1, fun A t tu sum c0 p0 w => w⟩, fun A e1 e2 e3 => ⟨(u4 A e1 e2 e3).1, fun lP hl => (cq_mono (fun cs k' w => ?_) t).1 _ _ _ _ ((u4 A e1 e2 e3).2 lP hl)⟩⟩
    obtain ⟨sum, c0, c1, p0, w1, w2⟩ := w
    exact ⟨sum, c0, c1, p0, w1, fun A' a1 a2 a3 => ⟨SU_f f k B (w2 A' a1 a2 a3).1, SU_f f k B (w2 A' a1 a2 a3).2⟩⟩
  · obtain ⟨u1, u2, sum, u3, u4⟩ := W9 e
    exact ⟨u1, tkF_f f k B u2, sum, by rw [iS]; exact u3, suA_f f k B u4⟩
theorem IC_f (f : fz W h h1) (k : WC W KC h) (B : BS h Y C E TT UU SC SP nC nE nS) (w : IC Y C E TT UU SC SP nC nE nS pa G J cnt h) : IC Y C E TT UU SC SP nC nE nS pa G J cnt h1 := by
  have F := B.F
  have nY := B.q.n Y (by simp)
  have iY := wc_i f k (kc_Y k B.y) B.q.gY (by omega) (by omega) (by decide)
  have r20 := wc_r f k F 20 105 250 (by decide +kernel) (by omega)
  have i21 := wc_lo f k F 21 100 250 (by decide +kernel) (by omega)
  have i22 := wc_lo f k F 22 100 250 (by decide +kernel) (by omega)
  refine ⟨⟨by rw [iY]; exact w.1.1, w.1.2⟩, fun p hp => ?_⟩
  obtain ⟨St, nb, na, nm, q1, q2, q3, q4, q5, q6, q7⟩ := w.2 p hp
  exact ⟨St, nb, na, nm, by rw [r20]; exact q1, fz_mg f q2, by rw [i21]; exact q3, by rw [i22]; exact q4, by rw [St_f f k B q1 q2]; exact q5, q6, PTC_f f k B q1 q2 q7⟩
theorem ICm_f (f : fz W h h1) (k : WC W KC h) (B : BS h Y C E TT UU SC SP nC nE nS) (w : ICm Y C E TT UU SC SP nC nE nS pa G J cnt h) : ICm Y C E TT UU SC SP nC nE nS pa G J cnt h1 := by
  have F := B.F
  have q := B.q
  have nY := B.q.n Y (by simp)
  have kY := kc_Y k B.y
  have rY := rY_f f k B.q B.y
  have iY := wc_i f k kY B.q.gY (by omega) (by omega) (by decide)
  have eC := src_f f k (k.c Y 0 C kY q.r0) q.gC (q.n C (by simp))
  have e6 := src_f f k (k.c Y 6 SC kY q.r6) q.g6 (q.n SC (by simp))
  have r20 := wc_r f k F 20 105 250 (by decide +kernel) (by omega)
  have i21 := wc_lo f k F 21 100 250 (by decide +kernel) (by omega)
  have i22 := wc_lo f k F 22 100 250 (by decide +kernel) (by omega)
  refine ⟨⟨by rw [iY]; exact w.1.1, w.1.2⟩, fun p hp => ?_⟩
  obtain ⟨St, nb, na, nm, q1, q2, q3, q4, q5, q6, q7, q8⟩ := w.2 p hp
  have iS := St_f f k B q1 q2
  refine ⟨St, nb, na, nm, by rw [r20]; exact q1, fz_mg f q2, by rw [i21]; exact q3, by rw [i22]; exact q4, by rw [iS]; exact q5, q6, PTC_f f k B q1 q2 q7, fun e7 => ?_⟩
  obtain ⟨k0, ce, KA, WA, nK, M, r1, r2, Y7⟩ := q8 e7
  obtain ⟨-, -, -, -, -, -, W7, -⟩ := q7
  obtain ⟨-, k0', ce', KA', WA', nK', KK, WW, -, u3, -⟩ := W7 e7
  have eA : KA' = KA := by
    have a := u3.r9
    have b := M.r9
    rw [a] at b
    cases b
    rfl
  have eB : WA' = WA := by
    have a := u3.r10
    have b := M.r10
    rw [a] at b
    cases b
    rfl
  subst eA
  subst eB
  have eK := src_f f k (k.c Y 9 _ kY M.r9) M.gK (u3.n KA' (by simp))
  have eW := src_f f k (k.c Y 10 _ kY M.r10) M.gW (u3.n WA' (by simp))
  refine ⟨k0, ce, KA', WA', nK, MC.of ⟨fz_mg f M.g, by rw [iS]; exact M.s12, by rw [iS]; exact M.s13, by rw [rY]; exact M.r9, fz_mg f M.gK, by rw [fz_l f M.gK]; exact M.lK, by rw [rY]; exact M.r10, fz_mg f M.gW, by rw [fz_l f M.gW]; exact M.lW, M.b, M.ne⟩, r1, r2, ?_⟩
  rw [eK, eW]
  have er : relM h1 C SC nC nS nb na (J.sN p) (J.en p) (A0 (G.n p) (G.a p) (G.rm p)) (mh_i h WA') = relM h C SC nC nS nb na (J.sN p) (J.en p) (A0 (G.n p) (G.a p) (G.rm p)) (mh_i h WA') := by
    funext cs k
    unfold relM mS1
    rw [eC, e6]
  rw [er]
  exact Y7
theorem CLH_f (f : fz W h h1) (k : WC W KC h) (B : BS h Y C E TT UU SC SP nC nE nS) (L : CLH h G cnt cl fst oth) : CLH h1 G cnt cl fst oth := by
  have F := B.F
  have i27 := wc_lo f k F 27 100 250 (by decide +kernel) (by omega)
  have i28 := wc_lo f k F 28 100 250 (by decide +kernel) (by omega)
  exact ⟨fun q hq => pv_f f k B.N B.S (by unfold isPl; omega) (L.c q hq), fun p hp => by rw [i27]; exact L.f p hp, fun p hp kd => by rw [i28]; exact L.o p hp kd⟩
theorem nul_f (f : fz W h h1) (k : WC W KC h) (hn : 2644 ≤ mh_n h) (w : nul h) : nul h1 := fun i hi => by
  rw [pl_r f k hn (b := 62) (j := i) (by unfold isPl; omega), pl_r f k hn (b := 63) (j := i) (by unfold isPl; omega), pl_r f k hn (b := 64) (j := i) (by unfold isPl; omega)]
  exact w i hi
theorem no_f (f : fz W h h1) (k : WC W KC h) (B : BS h Y C E TT UU SC SP nC nE nS) {b i : Nat} (hb : isPl b i) (w : mh_r h b i = none ∨ ∃ v, pv h b i v) : mh_r h1 b i = none ∨ ∃ v, pv h1 b i v := by
  rcases w with w | ⟨v, w⟩
  · exact Or.inl ((pl_r f k B.N hb).trans w)
  · exact Or.inr ⟨v, pv_f f k B.N B.S hb w⟩
/-- the class's room: what is left of it -/
theorem cT_f (f : fz W h h1) (k : WC W KC h) (B : BS h Y C E TT UU SC SP nC nE nS) : cN h1 = cN h + ((mh_n h1 : Int) - (mh_n h : Int)) ∧ cS h1 = cS h + ((mh_s h1 : Int) - (mh_s h : Int)) := by
  have hn := B.N
  have nY := B.q.n Y (by simp)
  have iY := wc_i f k (kc_Y k B.y) B.q.gY (by omega) (by omega) (by decide)
  have r2 := wc_r f k B.F 2 4 20 (by decide +kernel) (by omega)
  have y1 : mh_r h1 2 1 = some Y := by rw [r2]; exact B.y
  have ec : ∀ b n, (∀ j, isPl b j) → cnS h1 b n = cnS h b n := fun b n q => cnS_c (fun i => pl_r f k hn (q i))
  have eT : cT h1 = cT h := by
    unfold cT
    rw [ec 51 122 (fun j => by unfold isPl; omega), ec 61 250 (fun j => by unfold isPl; omega), ec 62 250 (fun j => by unfold isPl; omega), ec 63 250 (fun j => by unfold isPl; omega), ec 64 250 (fun j => by unfold isPl; omega), ec 54 250 (fun j => by unfold isPl; omega), ec 73 250 (fun j => by unfold isPl; omega)]
  have eY : cY h1 = cY h := by
    unfold cY
    rw [y1, B.y]
    dsimp only
    rw [iY]
  obtain ⟨P, R, lP, cp⟩ := B.p
  have cp1 := CP_f f k hn cp
  have eG : cG h1 = cG h := by
    have l1 : ln h1 35 9 = lP := by unfold ln; rw [cp1.r9]; exact cp1.l9
    have l0 : ln h 35 9 = lP := by unfold ln; rw [cp.r9]; exact cp.l9
    unfold cG
    rw [l1, l0, eY]
  unfold cN cS
  rw [eT, eG, eY]
  constructor <;> omega
end WCs
