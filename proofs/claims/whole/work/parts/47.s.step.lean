set_option maxRecDepth 100000
/-! the class's machine: carryOut of any statement -/
def A0 (n a : Nat) (rm : Nat → Nat) : ab := ab_mk n a (fun _ _ => 0) (fun _ => 0) (fun _ => 0) rm
/-- the codes of a COND, at a point -/
def MPC (h : mh_H) (Y C SC nC nS nb na St : Nat) (sN : Int → Prop) (en : Int → Nat) (A : ab) (t : tr) : Prop := ∃ k0 ce KA WA nK, MC h St Y KA WA nK k0 ce ∧ (KA < 67 ∨ 72 < KA) ∧ (WA < 67 ∨ 72 < WA) ∧ cy (mh_i h KA) (mh_i h WA) (relM h C SC nC nS nb na sN en A (mh_i h WA)) t false false k0 ce
/-- a program in the class's heap, as it is run -/
def ICm (Y C E TT UU SC SP nC nE nS pa : Nat) (G : pgm) (J : pin) (cnt : Nat) (h : mh_H) : Prop := (mh_i h Y 5 = Int32.ofNat pa ∧ pa ≤ 60000) ∧ ∀ p, p + 1 < cnt → ∃ St nb na nm, mh_r h 20 p = some St ∧ mg h St 9 ∧ mh_i h 21 p = Int32.ofNat nb ∧ mh_i h 22 p = Int32.ofNat na ∧ mh_i h St 3 = Int32.ofNat nm ∧ kdp (J.c p) (G.kd p) ∧ PTC h Y C E TT UU SC SP nC nE nS pa p St nb na nm (G.n p) (G.a p) (G.rm p) (J.sN p) (J.en p) (J.c p) (J.t p) (J.x p) (J.sz p) (J.tk p) ∧ (J.c p = 7 ∨ J.c p = 8 → MPC h Y C SC nC nS nb na St (J.sN p) (J.en p) (A0 (G.n p) (G.a p) (G.rm p)) (J.t p))
theorem ICm_IC {Y C E TT UU SC SP nC nE nS pa cnt : Nat} {G : pgm} {J : pin} {h : mh_H} (w : ICm Y C E TT UU SC SP nC nE nS pa G J cnt h) : IC Y C E TT UU SC SP nC nE nS pa G J cnt h := ⟨w.1, fun p hp => by
  obtain ⟨St, nb, na, nm, a1, a2, a3, a4, a5, a6, a7, -⟩ := w.2 p hp
  exact ⟨St, nb, na, nm, a1, a2, a3, a4, a5, a6, a7⟩⟩
/-- slots behind a step -/
def afN (c n : Nat) (t : tr) : Nat := if c = 1 ∨ c = 2 then n + 1 else if c = 6 then n + tl t else n
def afA (c a : Nat) : Nat := if c = 3 then a + 1 else a
def afR (c a sz : Nat) (rm : Nat → Nat) : Nat → Nat := if c = 3 then (fun x => if x = a then sz else rm x) else rm
theorem s_row_P {en : Int → Nat} {V P : Nat → Int32} {rm : Nat → Nat} {N : Nat → Int32} {g : Nat} : ∀ t k c W, (s_row en V P rm N g t k c W).P = P ∧ (s_row en V P rm N g t k c W).b = true := by
  intro t
  induction t with
  | leaf u => exact fun _ _ _ => ⟨rfl, rfl⟩
  | branch m cs r _ ih =>
    intro k c W
    show (s_z V P (xv en V P rm N g (.branch m cs r) none c) (fun v c' => s_row en V P rm N g r (k + 1) c' (s_up W k v))).P = P ∧ _
    have e : s_row en V P rm N g (.branch m cs r) k c W = s_z V P (xv en V P rm N g (.branch m cs r) none c) (fun v c' => s_row en V P rm N g r (k + 1) c' (s_up W k v)) := rfl
    rw [e]
    unfold s_z
    cases (xv en V P rm N g (.branch m cs r) none c).1 with
    | none => exact ⟨rfl, rfl⟩
    | some v => exact ih _ _ _
section MOs
variable {d : Nat} {h h1 : mh_H} {Y C E TT UU SC SP nC nE nS nb na p gv c sum n a x sz St pa cnt f1 o1 : Nat} {en : Int → Nat} {sN : Int → Prop} {A : ab} {t : tr} {rm : Nat → Nat} {G : pgm} {J : pin}
theorem mS1_su {lP : Nat} {tu : Bool} {c0 p0 : Nat} (w : SU h C E TT UU SC SP nC nE nS lP nb na sN en A t tu sum c0 p0) : mS1 h C SC nC nS nb na sN en A t sum := ⟨c0, w.s, w.c0, w.c1, w.c, w.w, w.b1, w.b6⟩
theorem mS1_A (w : suA h C E TT UU SC SP nC nE nS pa nb na sN en n a rm t sum) : mS1 h C SC nC nS nb na sN en (A0 n a rm) t sum := by
  obtain ⟨c0, p0, w⟩ := w
  exact mS1_su (w (A0 n a rm) rfl rfl (fun _ _ => rfl))
theorem mSR_A : ∀ t sum, suR h C E TT UU SC SP nC nE nS pa nb na sN en n a rm t sum → mSR h C SC nC nS nb na sN en (A0 n a rm) t sum := by
  intro t
  induction t with
  | leaf u => exact fun _ _ => trivial
  | branch m cs r _ ih => exact fun sum w => ⟨mS1_A w.1, ih (sum + 1) w.2⟩
theorem MB_of (B : BS h Y C E TT UU SC SP nC nE nS) (e4 : mh_i h 67 4 = Int32.ofNat p) (hp : p < 250) (i21 : mh_i h 21 p = Int32.ofNat nb) (i22 : mh_i h 22 p = Int32.ofNat na) (i2 : mh_i h 67 2 = Int32.ofNat gv) (gb : gv ≤ 1000) : MB h Y C SC nC nS nb na p gv := by
  have F := B.F
  have q := B.q
  have n1 := q.n C (by simp)
  have n2 := q.n SC (by simp)
  exact MB.of ⟨F.g 67 2 13 (by decide +kernel), F.f 67 0 2 (by decide +kernel), F.f 67 1 68 (by decide +kernel), F.f 67 6 69 (by decide +kernel), F.f 67 7 70 (by decide +kernel), F.f 67 11 72 (by decide +kernel), F.g 2 4 20 (by decide +kernel), B.y, F.f 2 4 21 (by decide +kernel), F.f 2 5 22 (by decide +kernel), q.gY, q.r0, q.r6, q.gC, q.lC, q.g6, q.l6, F.g 21 100 250 (by decide +kernel), F.l 21 100 250 (by decide +kernel), F.g 22 100 250 (by decide +kernel), F.l 22 100 250 (by decide +kernel), F.g 68 100 1000 (by decide +kernel), F.l 68 100 1000 (by decide +kernel), F.g 69 100 12 (by decide +kernel), F.l 69 100 12 (by decide +kernel), F.g 70 100 384 (by decide +kernel), F.l 70 100 384 (by decide +kernel), F.g 72 100 124 (by decide +kernel), F.l 72 100 124 (by decide +kernel), e4, i21, i22, i2, hp, gb, q.bC, q.bS, by omega, by omega, by omega, by omega, trivial⟩
theorem v_30 (B : BS h Y C E TT UU SC SP nC nE nS) (H : PH h G cnt) (w : ICm Y C E TT UU SC SP nC nE nS pa G J cnt h) (hp : p + 1 < cnt) {St' : Nat} (rS : mh_r h 20 p = some St') (e4 : mh_i h 67 4 = Int32.ofNat p) (i2 : mh_i h 67 2 = Int32.ofNat gv) (gb : gv ≤ 1000) (e10 : mh_i h 67 10 = 0) (e3 : mh_i h 67 3 = Int32.ofNat (min c gv)) (i27 : mh_i h 27 p = Int32.ofNat f1) (i28 : J.c p = 7 → mh_i h 28 p = Int32.ofNat o1) (hrm : ∀ x, x < G.a p → G.rm p x ≤ 64) (hsz : J.c p = 3 → J.sz p ≤ 64) (sz : ∀ x, x < G.a p → mh_i h 71 x = Int32.ofNat (G.rm p x)) : ∃ h', STP (s_st (J.en p) (J.t p) (J.x p) (J.tk p) (G.n p) (G.a p) (G.rm p) (mh_i h 68) gv (mh_i h 69) (mh_i h 70) c (J.c p)) h h' gv p (afN (J.c p) (G.n p) (J.t p)) (afA (J.c p) (G.a p)) (afR (J.c p) (G.a p) (J.sz p) (G.rm p)) f1 o1 (G.n p) ∧ ∀ Q, mcall (d + 5) 30 [.ref 67, .ref St'] h Q = Q none h' := by
  have cb := H.b
  obtain ⟨hk, hn, ha⟩ := H.k p (by omega)
  obtain ⟨St, nb, na, nm, q1, gS, i21, i22, s3, kk, PT, mc⟩ := w.2 p hp
  rw [rS] at q1
  cases q1
  obtain ⟨St2, nb2, nm2, na2, nx2, m1, m2, s0, m4, m5, m6, m7, m8, m9⟩ := H.s p (by omega)
  rw [rS] at m1
  cases m1
  have F := B.F
  have MBp := MB_of (gv := gv) B e4 (by omega : p < 250) i21 i22 i2 gb
  have N : MN h p (Int32.ofNat f1) (mh_i h 28 p) := MN.of ⟨F.f 2 10 27 (by decide +kernel), F.g 27 100 250 (by decide +kernel), F.l 27 100 250 (by decide +kernel), i27, F.f 2 11 28 (by decide +kernel), F.g 28 100 250 (by decide +kernel), F.l 28 100 250 (by decide +kernel), rfl⟩
  obtain ⟨nE', nX'⟩ := st_neX B gS
  have nSt : St' < 67 ∨ 72 < St' := by
    unfold aX at nX'
    have k67 := (F.g 67 2 13 (by decide +kernel)).1
    have := gS.1
    omega
  have qn := B.q.n
  have nC' := qn C (by simp)
  have nS' := qn SC (by simp)
  have h80 : ∀ d' Q, mcall d' 80 [.ref 2, .int (Int32.ofNat p)] h Q = Q (some (.int (Int32.ofNat (G.n p)))) h := fun d' Q => by
    have := c_80 (d := d') F (by omega : p < 250) m4 rS gS m5 Q
    rw [m6] at this
    exact this
  have h81 : ∀ d' Q, mcall d' 81 [.ref 2, .int (Int32.ofNat p)] h Q = Q (some (.int (Int32.ofNat (G.a p)))) h := fun d' Q => by
    have := c_81 (d := d') F (by omega : p < 250) m7 rS gS m8 Q
    rw [m9] at this
    exact this
  have hA : (A0 (G.n p) (G.a p) (G.rm p)).n ≤ 12 ∧ (A0 (G.n p) (G.a p) (G.rm p)).a ≤ 6 := ⟨hn, ha⟩
  have aR : (A0 (G.n p) (G.a p) (G.rm p)).rm = G.rm p := rfl
  have nSt2 : St' ≠ 67 ∧ St' ≠ 72 := by omega
  have nSt3 : St' ≠ 67 ∧ (St' < 69 ∨ 72 < St') := by omega
  have nC3 : C < 67 ∨ 72 < C := by omega
  have nS3 : SC < 67 ∨ 72 < SC := by omega
  have hp2 : p < 250 := by omega
  have bS := B.q.bS
  have h80' : ∀ d' h', fG mdW h h' → ∀ Q, mcall d' 80 [.ref 2, .int (Int32.ofNat p)] h' Q = Q (some (.int (Int32.ofNat (G.n p)))) h' := fun d' h' f' Q => by
    have := c_80 (d := d') (CF_fG f' F) hp2 (by rw [mdW_i f' (by decide)]; exact m4) (by rw [f'.2.2.1]; exact rS) (by rw [fG_me f']; exact gS) (by rw [mdW_i f' nSt3]; exact m5) Q
    rw [m6] at this
    exact this
  clear qn nC' nS' nX' nE' H w
  obtain ⟨P1, P2, P3, P4, P5, P6, P7, P9⟩ := PT
  obtain ⟨cc, ec⟩ : ∃ cc, J.c p = cc := ⟨_, rfl⟩
  rw [ec] at kk P1 P2 P3 P4 P5 P6 P7 P9 i28 hsz mc ⊢
  have kdc : ∀ j, G.kd p = j → mh_i h St' 0 = Int32.ofNat j := fun j e => by rw [s0, e]
  have c9 : cc = 1 ∨ cc = 2 ∨ cc = 3 ∨ cc = 4 ∨ cc = 5 ∨ cc = 6 ∨ cc = 7 ∨ cc = 8 ∨ cc = 9 := by unfold kdp at kk; omega
  rcases c9 with e | e | e | e | e | e | e | e | e <;> subst e
  · obtain ⟨b1, b2, b3, su, sum, b4, b5, b6, b7, b8⟩ := P1 rfl
    obtain ⟨h1, o, run⟩ := v_33a (d := d) hA MBp gS b3 b4 ⟨b5, b6⟩ b7 (mS1_A b8) e10 e3 b1 (h80 (d + 3))
    rw [sst_1]
    rw [aR] at o
    exact ⟨_, STP_v o e4 (s_z_b (fun _ _ => rfl)) (TV_z (fun _ _ => TV_0 rfl)) sz, f_1 (d := d + 4) MBp N gS (kdc 1 (by unfold kdp at kk; omega)) o.1 run⟩
  · obtain ⟨b1, b2, b3⟩ := P2 rfl
    obtain ⟨h1, o, run⟩ := v_33b (d := d) MBp gS b2 b3 e10 e3 b1 (h80 (d + 3))
    rw [sst_2]
    exact ⟨_, STP_v o e4 rfl (TV_0 rfl) sz, f_1 (d := d + 4) MBp N gS (kdc 1 (by unfold kdp at kk; omega)) o.1 run⟩
  · obtain ⟨b1, b2, b3, b4⟩ := P3 rfl
    have hz := hsz rfl
    obtain ⟨h1, o1', o2, o3, o4, o5, o6, o7, run⟩ := v_33c (d := d) MBp gS nSt b1 ⟨b3, hz⟩ b2 (F.f 67 8 71 (by decide +kernel)) (F.g 71 100 6 (by decide +kernel)) (F.l 71 100 6 (by decide +kernel)) e10 e3 (h81 (d + 3))
    rw [sst_3]
    refine ⟨_, STP.of ⟨fG_t o1' fnH_f, by rw [fnH_i (by omega)]; exact o2, by rw [fnH_i (by omega)]; exact o3, by rw [fnH_4, if_pos o3]; rfl, fun _ => ⟨⟨fun x _ => by rw [fnH_i (by omega), o5]; rfl, fun x i hx hi => ?_⟩, fun x hx => ?_⟩, fun z => absurd rfl z⟩, f_1 (d := d + 4) MBp N gS (kdc 1 (by unfold kdp at kk; omega)) o1' run⟩
    · have hx : x < G.a p + 1 := hx
      have hi : i < if x = G.a p then J.sz p else G.rm p x := hi
      rw [fnH_i (by omega), o6]
      show _ = if 64 * G.a p ≤ 64 * x + i ∧ 64 * x + i < 64 * G.a p + 64 then 0 else mh_i h 70 (64 * x + i)
      by_cases xa : x = G.a p
      · rw [if_pos xa] at hi
        rw [if_pos (by omega), if_pos (by omega)]
      · rw [if_neg xa] at hi
        have := hrm x (by omega)
        rw [if_neg (by omega), if_neg (by omega)]
    · have hx : x < G.a p + 1 := hx
      show _ = Int32.ofNat (if x = G.a p then J.sz p else G.rm p x)
      rw [fnH_i (by omega), o7]
      by_cases xa : x = G.a p
      · rw [if_pos xa, if_pos xa]
      · rw [if_neg xa, if_neg xa]; exact sz x (by omega)
  · obtain ⟨b1, sl, sum, b2, b3, b4, b5⟩ := P4 rfl
    obtain ⟨h1, y, h2, g1, o, run1, run2⟩ := st_p (d := d + 1) (s := J.x p) hA MBp (mS1_A b5) e10 e3 (Nat.lt_of_lt_of_le b1 hn)
    rw [sst_4]
    rw [aR] at o
    exact ⟨_, STP_v o e4 (s_z_b (fun _ _ => rfl)) (TV_z (fun _ _ => TV_0 rfl)) sz, f_2 (d := d + 4) MBp N gS (kdc 2 (by unfold kdp at kk; omega)) b3 b2 b4 g1 o.1 run1 (run2 _)⟩
  · obtain ⟨b1, sl, sum, z, b2, b3, b4, b5, b6, b7, b8, b9, b10⟩ := P5 rfl
    have m9' := mS1_A b9
    have hsum : sum < 999999 := by
      obtain ⟨c0, u1, -⟩ := m9'
      exact Nat.lt_of_succ_lt_succ (Nat.lt_of_lt_of_le u1 (Nat.le_of_lt_succ (Nat.lt_succ_of_lt bS)))
    obtain ⟨h1, o, run⟩ := v_34 (d := d) (x := J.x p) hA MBp gS nSt2 b2 (Nat.lt_of_lt_of_le b1 ha) b3 b4 ⟨b6, b7⟩ b5 b8 hsum m9' (mS1_A b10) e10 e3
    rw [sst_5]
    rw [aR] at o
    exact ⟨_, STP_v o e4 (s_z_b (fun i c' => by
      show (if i < 0 ∨ _ ≤ i then _ else _ : so5).b = true
      split
      · rfl
      · exact s_z_b (fun _ _ => rfl))) (TV_z (fun i c' => by
      show TV _ _ (if i < 0 ∨ _ ≤ i then _ else _)
      split
      · exact fun _ => ⟨rfl, rfl⟩
      · exact TV_z (fun _ _ => TV_0 rfl))) sz, f_3 (d := d + 4) MBp N gS (kdc 3 (by unfold kdp at kk; omega)) o.1 run⟩
  · obtain ⟨b1, su, sum, b2, b3, b4, b5, b6, b7⟩ := P6 rfl
    obtain ⟨h1, g1, u4, u3, u10, uV, un, uP, u71, run⟩ := cl_lp (d := d + 1) (h := h) (St := St') (su := su) (sum := sum) (p := p) (V0 := mh_i h 69) (P0 := mh_i h 70) (N0 := mh_i h 68) (en := J.en p) (sN := J.sN p) (x2 := Int32.ofNat nb) (x3 := Int32.ofNat f1) hA nC3 nS3 nSt b4 b5 (fun h' f' e' Q => h80' (d + 4) h' f' Q) gS b2 b6 (J.t p) 0 c h (by rw [Nat.zero_add]; exact b3) fG_id rfl MBp (mSR_A _ _ b7) (fun _ _ => rfl) rfl rfl e10 e3
    rw [sst_6]
    have an : (A0 (G.n p) (G.a p) (G.rm p)).n + 0 = G.n p := rfl
    rw [an, aR] at u3 u10 uV
    obtain ⟨sP, sB⟩ := s_row_P (en := J.en p) (V := mh_i h 69) (P := mh_i h 70) (rm := G.rm p) (N := mh_i h 68) (g := gv) (J.t p) (G.n p) c (mh_i h 69)
    refine ⟨_, STP.of ⟨fG_t g1 fnH_f, by rw [fnH_i (by omega)]; exact u3, by rw [fnH_i (by omega)]; exact u10, by rw [fnH_4, u10, u4, e4, sB, if_pos rfl], fun z => ⟨⟨fun x _ => by rw [fnH_i (by omega), uV z], fun x i _ _ => by rw [fnH_i (by omega), uP, sP]⟩, fun x hx => by rw [fnH_i (by omega), u71]; exact sz x hx⟩, fun _ => ⟨fun x hx => by rw [fnH_i (by omega)]; exact un x hx, fun j => by rw [fnH_i (by omega), uP], fun j => by rw [fnH_i (by omega), u71]⟩⟩, f_4 (d := d + 4) (su := su) MBp N gS (kdc 4 (by unfold kdp at kk; omega)) g1 run⟩
  · obtain ⟨k0', ce', KA', WA', nK', M, -, -, cyw⟩ := mc (Or.inl rfl)
    have kq : G.kd p = 5 ∨ G.kd p = 6 := by unfold kdp at kk; omega
    obtain ⟨h', S, run⟩ := STP_c (d := d) (k := G.kd p) (x := J.x p) (n := G.n p) (a := G.a p) (n' := G.n p) (rm := G.rm p) (tk := J.tk p) hA MBp N (fun _ => i28 rfl) M cyw e10 e3 (by omega) s0 sz
    rw [if_neg (by omega), aR] at S
    exact ⟨h', S, run⟩
  · obtain ⟨k0', ce', KA', WA', nK', M, -, -, cyw⟩ := mc (Or.inr rfl)
    have kq : G.kd p = 7 := by unfold kdp at kk; omega
    obtain ⟨h', S, run⟩ := STP_c (d := d) (k := 7) (o1 := o1) (x := J.x p) (n := G.n p) (a := G.a p) (n' := G.n p) (rm := G.rm p) (tk := J.tk p) hA MBp N (fun z => absurd rfl z) M cyw e10 e3 (by omega) (by rw [s0, kq]) sz
    rw [if_pos rfl, aR] at S
    exact ⟨h', S, run⟩
  · obtain ⟨b1, b2, sum, b3, b4⟩ := P9 rfl
    obtain ⟨h1, y, h2, g1, o, run1, run2⟩ := st_pr (d := d + 1) (tk := J.tk p) hA MBp (mS1_A b4) e10 e3 (fun y e => Nat.lt_of_lt_of_le (b1 y e) hn)
    rw [sst_9]
    rw [aR] at o
    have h84 := c_84 (d := d + 4) F hp2 b2
    exact ⟨_, STP_v o e4 (s_z_b (fun _ _ => rfl)) (TV_z (fun _ _ => TV_0 rfl)) sz, f_8 (d := d + 4) MBp N gS (kdc 8 (by unfold kdp at kk; omega)) h84 b3 g1 o.1 run1 (run2 _)⟩
end MOs
