set_option maxRecDepth 100000
/-! THE CLASS'S lay IS lyQ: rows of statements -/
def CPz (h : mh_H) (B : Nat) (D : lyD) (Pt : Nat → lpt) (lo hi : Nat) : Prop := ∀ r, lo ≤ r → r < hi → CPo h B D (Pt r).S (Pt r).L (Pt r).X r ∧ mh_i h 26 r = Int32.ofNat (Pt r).E ∧ (tK (Pt r).N = 8 → mh_i h 25 r = Int32.ofNat (Pt r).M)
def CRz (h h' : mh_H) (B : Nat) (D : lyD) (m f : Nat) (fb : Bool) (t : tr) (s p : Nat) (L : cen) (b : Nat) (X : lcx) (cl : Option Nat) (k : Nat) (q : lyq) : Prop := (fLy h h') ∧ (kpC p k h h') ∧ (¬ q.1.1 = 0 → mh_i h' 2 18 = Int32.ofNat q.1.1 ∧ mh_i h' 2 19 = Int32.ofNat q.1.2) ∧ (q.1.1 = 0 → CSt h' X cl k q.2 ∧ NAM h' D m q.2 L X ∧ p ≤ q.2) ∧ (q.1.1 = 0 → ∀ Pt kn wn, LYR D Pt f fb t kn wn s p q.2 L b X → CPz h' B D Pt p q.2)
theorem CRz.of {h h' : mh_H} {B : Nat} {D : lyD} {m f : Nat} {fb : Bool} {t : tr} {s p : Nat} {L : cen} {b : Nat} {X : lcx} {cl : Option Nat} {k : Nat} {q : lyq} (qZ : (fLy h h') ∧ (kpC p k h h') ∧ (¬ q.1.1 = 0 → mh_i h' 2 18 = Int32.ofNat q.1.1 ∧ mh_i h' 2 19 = Int32.ofNat q.1.2) ∧ (q.1.1 = 0 → CSt h' X cl k q.2 ∧ NAM h' D m q.2 L X ∧ p ≤ q.2) ∧ (q.1.1 = 0 → ∀ Pt kn wn, LYR D Pt f fb t kn wn s p q.2 L b X → CPz h' B D Pt p q.2)) : CRz h h' B D m f fb t s p L b X cl k q := qZ
theorem CRz.f {h h' : mh_H} {B : Nat} {D : lyD} {m f : Nat} {fb : Bool} {t : tr} {s p : Nat} {L : cen} {b : Nat} {X : lcx} {cl : Option Nat} {k : Nat} {q : lyq} (qZ : CRz h h' B D m f fb t s p L b X cl k q) : fLy h h' := qZ.1
theorem CRz.k {h h' : mh_H} {B : Nat} {D : lyD} {m f : Nat} {fb : Bool} {t : tr} {s p : Nat} {L : cen} {b : Nat} {X : lcx} {cl : Option Nat} {k : Nat} {q : lyq} (qZ : CRz h h' B D m f fb t s p L b X cl k q) : kpC p k h h' := qZ.2.1
theorem CRz.g {h h' : mh_H} {B : Nat} {D : lyD} {m f : Nat} {fb : Bool} {t : tr} {s p : Nat} {L : cen} {b : Nat} {X : lcx} {cl : Option Nat} {k : Nat} {q : lyq} (qZ : CRz h h' B D m f fb t s p L b X cl k q) : ¬ q.1.1 = 0 → mh_i h' 2 18 = Int32.ofNat q.1.1 ∧ mh_i h' 2 19 = Int32.ofNat q.1.2 := qZ.2.2.1
theorem CRz.o {h h' : mh_H} {B : Nat} {D : lyD} {m f : Nat} {fb : Bool} {t : tr} {s p : Nat} {L : cen} {b : Nat} {X : lcx} {cl : Option Nat} {k : Nat} {q : lyq} (qZ : CRz h h' B D m f fb t s p L b X cl k q) : q.1.1 = 0 → CSt h' X cl k q.2 ∧ NAM h' D m q.2 L X ∧ p ≤ q.2 := qZ.2.2.2.1
theorem CRz.r {h h' : mh_H} {B : Nat} {D : lyD} {m f : Nat} {fb : Bool} {t : tr} {s p : Nat} {L : cen} {b : Nat} {X : lcx} {cl : Option Nat} {k : Nat} {q : lyq} (qZ : CRz h h' B D m f fb t s p L b X cl k q) : q.1.1 = 0 → ∀ Pt kn wn, LYR D Pt f fb t kn wn s p q.2 L b X → CPz h' B D Pt p q.2 := qZ.2.2.2.2
/-- the loop from s to se -/
def RUNc (d : Nat) (x1 x2 : Option Value) (mn : Nat) (h h' : mh_H) (s se r p : Nat) (q : lyq) : Prop := (¬ q.1.1 = 0 → ∀ x6 Q, mw (d + 3) 85 Q 89 [some (.ref 2), x1, x2, some (.int (Int32.ofNat mn)), some (.int (Int32.ofNat s)), some (.int (Int32.ofNat (r))), x6] [] h = Q (some (.int 0)) h') ∧ (q.1.1 = 0 → ∃ r', r' ≤ r + 3 * (q.2 - p) ∧ ∀ x6, ∃ y6, ∀ Q, mw (d + 3) 85 Q 89 [some (.ref 2), x1, x2, some (.int (Int32.ofNat mn)), some (.int (Int32.ofNat s)), some (.int (Int32.ofNat (r))), x6] [] h = mw (d + 3) 85 Q 89 [some (.ref 2), x1, x2, some (.int (Int32.ofNat mn)), some (.int (Int32.ofNat se)), some (.int (Int32.ofNat (r'))), y6] [] h')
def CRf (d : Nat) (x1 x2 : Option Value) (mn B n : Nat) (D : lyD) (K : Nat → Int32) (m : Nat) (Sc Sf : cps) (f : Nat) : Prop := ∀ (fb : Bool) (t : tr) (s p : Nat) (L : cen) (b : Nat) (X : lcx) (cl : Option Nat) (k : Nat) (h : mh_H) (N' se r : Nat), CLC h B n m D Sf → CSt h X cl k p → NAM h D m p L X → stR D.sp Sc X.fu N' fb t s se L b → wfR D Sf X.fu N' fb t s L b → X.fu < D.c → ts t + rkF D X.fu ≤ f → ts t < 50000 → (tvT K m t ∧ syT t) → ((k = 0 ∧ D.H (6 * mn + 4) = Int32.ofNat se) ∨ (0 < k ∧ LMd h D k se)) → se ≤ Sf.1 8 → r + 3 * (249 - p) + 5 ≤ 1000000 → ∃ h', CRz h h' B D m f fb t s p L b X cl k (lyQ D f fb t p L b X) ∧ RUNc d x1 x2 mn h h' s se r p (lyQ D f fb t p L b X)
/-- what a statement leaves -/
def SCz (h h' : mh_H) (B : Nat) (D : lyD) (m f : Nat) (nn : Nat) (cs : tr) (s p : Nat) (L : cen) (X : lcx) (cl : Option Nat) (k : Nat) (q : lyq) : Prop := (fLy h h') ∧ (kpC p k h h') ∧ (¬ q.1.1 = 0 → mh_i h' 2 18 = Int32.ofNat q.1.1 ∧ mh_i h' 2 19 = Int32.ofNat q.1.2) ∧ (q.1.1 = 0 → CSt h' X cl k q.2 ∧ NAM h' D m q.2 (nxE nn cs L) X ∧ p < q.2 ∧ CPo h' B D s L X p ∧ mh_i h' 26 p = Int32.ofNat q.2) ∧ (q.1.1 = 0 → ∀ Pt kn, LYN D Pt (LYR D Pt f) nn cs kn s p L X → CPz h' B D Pt (p + 1) q.2 ∧ (tK nn = 8 → mh_i h' 25 p = Int32.ofNat (Pt p).M))
theorem SCz.of {h h' : mh_H} {B : Nat} {D : lyD} {m f : Nat} {nn : Nat} {cs : tr} {s p : Nat} {L : cen} {X : lcx} {cl : Option Nat} {k : Nat} {q : lyq} (qZ : (fLy h h') ∧ (kpC p k h h') ∧ (¬ q.1.1 = 0 → mh_i h' 2 18 = Int32.ofNat q.1.1 ∧ mh_i h' 2 19 = Int32.ofNat q.1.2) ∧ (q.1.1 = 0 → CSt h' X cl k q.2 ∧ NAM h' D m q.2 (nxE nn cs L) X ∧ p < q.2 ∧ CPo h' B D s L X p ∧ mh_i h' 26 p = Int32.ofNat q.2) ∧ (q.1.1 = 0 → ∀ Pt kn, LYN D Pt (LYR D Pt f) nn cs kn s p L X → CPz h' B D Pt (p + 1) q.2 ∧ (tK nn = 8 → mh_i h' 25 p = Int32.ofNat (Pt p).M))) : SCz h h' B D m f nn cs s p L X cl k q := qZ
theorem SCz.f {h h' : mh_H} {B : Nat} {D : lyD} {m f : Nat} {nn : Nat} {cs : tr} {s p : Nat} {L : cen} {X : lcx} {cl : Option Nat} {k : Nat} {q : lyq} (qZ : SCz h h' B D m f nn cs s p L X cl k q) : fLy h h' := qZ.1
theorem SCz.k {h h' : mh_H} {B : Nat} {D : lyD} {m f : Nat} {nn : Nat} {cs : tr} {s p : Nat} {L : cen} {X : lcx} {cl : Option Nat} {k : Nat} {q : lyq} (qZ : SCz h h' B D m f nn cs s p L X cl k q) : kpC p k h h' := qZ.2.1
theorem SCz.g {h h' : mh_H} {B : Nat} {D : lyD} {m f : Nat} {nn : Nat} {cs : tr} {s p : Nat} {L : cen} {X : lcx} {cl : Option Nat} {k : Nat} {q : lyq} (qZ : SCz h h' B D m f nn cs s p L X cl k q) : ¬ q.1.1 = 0 → mh_i h' 2 18 = Int32.ofNat q.1.1 ∧ mh_i h' 2 19 = Int32.ofNat q.1.2 := qZ.2.2.1
theorem SCz.o {h h' : mh_H} {B : Nat} {D : lyD} {m f : Nat} {nn : Nat} {cs : tr} {s p : Nat} {L : cen} {X : lcx} {cl : Option Nat} {k : Nat} {q : lyq} (qZ : SCz h h' B D m f nn cs s p L X cl k q) : q.1.1 = 0 → CSt h' X cl k q.2 ∧ NAM h' D m q.2 (nxE nn cs L) X ∧ p < q.2 ∧ CPo h' B D s L X p ∧ mh_i h' 26 p = Int32.ofNat q.2 := qZ.2.2.2.1
theorem SCz.r {h h' : mh_H} {B : Nat} {D : lyD} {m f : Nat} {nn : Nat} {cs : tr} {s p : Nat} {L : cen} {X : lcx} {cl : Option Nat} {k : Nat} {q : lyq} (qZ : SCz h h' B D m f nn cs s p L X cl k q) : q.1.1 = 0 → ∀ Pt kn, LYN D Pt (LYR D Pt f) nn cs kn s p L X → CPz h' B D Pt (p + 1) q.2 ∧ (tK nn = 8 → mh_i h' 25 p = Int32.ofNat (Pt p).M) := qZ.2.2.2.2
section CRl
variable {d : Nat} {h h1 h2 : mh_H} {B n m mn : Nat} {D : lyD} {K : Nat → Int32} {Sc Sf : cps} {k k' p p' s s1 se b nn N N' f r : Nat} {cs t : tr} {X X' : lcx} {L L' : cen} {rl fb : Bool} {cl : Option Nat} {x1 x2 : Option Value} {q : lyq}
theorem CSt_n (F : CF h) (S : CSt h X cl k p) (f : fLy h h2) (kp : kpD p k h h2) (e2 : mh_i h2 2 2 = Int32.ofNat p') (hp : p ≤ p') (hp' : p' ≤ 249) (e16 : mh_i h2 2 16 = mh_i h 2 16) (e17 : mh_i h2 2 17 = mh_i h 2 17) (e18 : mh_i h2 2 18 = 0) : CSt h2 X cl k p' := by
  obtain ⟨p1, p2⟩ := S.p
  obtain ⟨k1, k2⟩ := S.k
  obtain ⟨c1, c2⟩ := S.c
  refine CSt.of ⟨⟨e2, hp'⟩, ⟨e16.trans k1, by omega⟩, ⟨e17.trans c1, fun c e => by have := c2 c e; omega⟩, e18, BSE_k F f kp (fun c e hc => owI_lt (cl := cl) (c1 ▸ e) hc c2 p2) e17 S.b, ?_, TKc_k F f kp c2 S.t⟩
  rcases S.o with o | ⟨o1, o, o2, o3, o4⟩
  · exact Or.inl o
  · exact Or.inr ⟨o1, o, o2, (kp.2.2.2 31 (k - 1) (by decide) (by decide) (by omega)).trans o3, by omega⟩
theorem CPz_k {Pt : Nat → lpt} {lo hi : Nat} (F : CF h) (x : fLy h h1) (kp : kpC hi k h h1) (w : CPz h B D Pt lo hi) : CPz h1 B D Pt lo hi := fun r r1 r2 => by
  obtain ⟨w1, w2, w3⟩ := w r r1 r2
  exact ⟨CPo_k F x (kpD_of kp) r2 w1, (kp.2.1 26 r (by decide) (by decide) r2).trans w2, fun z => (kp.2.1 25 r (by decide) (by decide) r2).trans (w3 z)⟩
theorem lkN_le {sp : Nat → Nat → Bool} {v : Int} : ∀ L : cen, lkN (loE sp L) v ≤ L.length := by
  intro L
  induction L with
  | nil => exact Nat.le_refl _
  | cons e r ih =>
    obtain ⟨a, z⟩ := e
    have lo : loE sp ((a, z) :: r) v = if sp a v.toNat = true then some (slE r z, z) else loE sp r v := rfl
    unfold lkN at ih ⊢
    rw [lo]
    show _ ≤ r.length + 1
    by_cases c : sp a v.toNat = true
    · rw [if_pos c]
      have := sl_len (r := r) (z := z)
      show slE r z ≤ r.length + 1
      omega
    · rw [if_neg c]
      omega
/-- a BLOCK below is open -/
theorem op_f : fLy h (opH h k p) ∧ kpC p' k h (opH h k p) ∧ (∀ y j, ¬ (31 ≤ y ∧ y ≤ 32 ∧ j = k) → ¬ (y = 2 ∧ j = 16) → mh_i (opH h k p) y j = mh_i h y j) ∧ mh_i (opH h k p) 31 k = Int32.ofNat p ∧ mh_i (opH h k p) 32 k = 0 ∧ mh_i (opH h k p) 2 16 = Int32.ofNat (k + 1) ∧ mh_r (opH h k p) = mh_r h := by
  have o : ∀ y j, ¬ (31 ≤ y ∧ y ≤ 32 ∧ j = k) → ¬ (y = 2 ∧ j = 16) → mh_i (opH h k p) y j = mh_i h y j := fun y j w1 w2 => by
    unfold opH
    rw [hi_si, if_neg w2, hi_si, if_neg (by omega), hi_si, if_neg (by omega)]
  refine ⟨?_, ⟨fun r _ => rfl, fun y r u1 u2 _ => o y r (by omega) (by omega), fun j _ => o 30 j (by omega) (by omega), fun y j u1 u2 u3 => o y j (by omega) (by omega)⟩, o, ?_, ?_, ?_, rfl⟩
  · unfold opH
    exact fLy_t (fLy_si (Or.inl ⟨by decide, by decide⟩)) (fLy_t (fLy_si (Or.inl ⟨by decide, by decide⟩)) (fLy_si (Or.inr ⟨rfl, Or.inr ⟨by decide, by decide⟩⟩)))
  · unfold opH
    rw [hi_si, if_neg (by omega), hi_si, if_neg (by omega), hi_si, if_pos ⟨rfl, rfl⟩]
  · unfold opH
    rw [hi_si, if_neg (by omega), hi_si, if_pos ⟨rfl, rfl⟩]
  · unfold opH
    rw [hi_si, if_pos ⟨rfl, rfl⟩]
/-- one turn: a statement is laid -/
theorem tn_s (C : CLC h B n m D Sf) (hm : mn < D.c) (S : CSt h X cl k p) (hr : r < 1000000) (lim : (k = 0 ∧ D.H (6 * mn + 4) = Int32.ofNat se) ∨ (0 < k ∧ LMd h D k se)) (hs : s < se) (hse : se ≤ Sf.1 8) {v : Int32} (run : ∀ Q, mcall (d + 2) 89 [.ref 2, .ref (B + (24 + s))] h Q = Q (some (.int v)) h1) : ∀ x6, ∃ y6, ∀ Q, mw (d + 3) 85 Q 89 [some (.ref 2), x1, x2, some (.int (Int32.ofNat mn)), some (.int (Int32.ofNat s)), some (.int (Int32.ofNat (r))), x6] [] h = mw (d + 3) 85 Q 89 [some (.ref 2), x1, x2, some (.int (Int32.ofNat mn)), some (.int (v)), some (.int (Int32.ofNat (r + 1))), y6] [] h1 := by
  intro x6
  obtain ⟨p1, p2⟩ := S.p
  obtain ⟨k1, k2⟩ := S.k
  have hd := C.d
  exact ⟨_, fun Q => (t_85h (d := d + 1) C hm hr S.w k1 (by omega) lim Q).trans (t_85s (d := d + 1) C hs (by omega) (by omega) run Q)⟩
/-- one turn: a BLOCK is shut -/
theorem tn_b (C : CLC h B n m D Sf) (hm : mn < D.c) (S : CSt h X cl k p) (hr : r < 1000000) (hk : 0 < k) (lim : LMd h D k se) (hse : se ≤ Sf.1 8) {v : Int32} (run : ∀ Q, mcall (d + 2) 88 [.ref 2, .int (Int32.ofNat se)] h Q = Q (some (.int v)) h1) : ∀ x6, ∃ y6, ∀ Q, mw (d + 3) 85 Q 89 [some (.ref 2), x1, x2, some (.int (Int32.ofNat mn)), some (.int (Int32.ofNat se)), some (.int (Int32.ofNat (r))), x6] [] h = mw (d + 3) 85 Q 89 [some (.ref 2), x1, x2, some (.int (Int32.ofNat mn)), some (.int (v)), some (.int (Int32.ofNat (r + 1))), y6] [] h1 := by
  intro x6
  obtain ⟨p1, p2⟩ := S.p
  obtain ⟨k1, k2⟩ := S.k
  have hd := C.d
  exact ⟨_, fun Q => (t_85h (d := d + 1) C hm hr S.w k1 (by omega) (Or.inr ⟨hk, lim⟩) Q).trans (t_85b (d := d + 1) C.F (Nat.le_refl _) (by omega) k1 hk (by omega) run Q)⟩
theorem LMd_k (F : CF h) (f : fLy h h1) (kp : kpD p k h h1) {kk : Nat} (hk : 1 ≤ kk) (hk2 : kk ≤ k) (e31 : ∀ o, mh_i h 31 (kk - 1) = Int32.ofNat o → o < 250 → o < p) (w : LMd h D kk se) : LMd h1 D kk se := by
  obtain ⟨o, St, kd, w1, w2, w3, w4, w5, w6⟩ := w
  have op := e31 o w1 w2
  have e : ∀ j, mh_i h1 St j = mh_i h St j := fun j => fLy_i f (st_cy F w4 j)
  have e32 := kp.2.2.2 32 (kk - 1) (by decide) (by decide) (by omega)
  refine ⟨o, St, kd, (kp.2.2.2 31 (kk - 1) (by decide) (by decide) (by omega)).trans w1, w2, (kp.1 o op).trans w3, by rw [fLy_g f]; exact w4, (e 0).trans w5, ?_⟩
  rw [e 14, e 15, e 16, e32]
  exact w6
/-- a statement without BLOCKs and calls -/
theorem sc_1 {w : Nat × Nat} (C : CLC h B n m D Sf) (hm : mn < D.c) (S : CSt h X cl k p) (NM : NAM h D m p L X) (hr : r < 1000000) (lim : (k = 0 ∧ D.H (6 * mn + 4) = Int32.ofNat se) ∨ (0 < k ∧ LMd h D k se)) (hs : s < se) (hse : se ≤ Sf.1 8) (hw : w.1 = 0) (hp : p < 249) (f90 : ∀ Q, mcall (d + 1) 90 [.ref 2, .ref (B + (24 + s))] h Q = Q none h) (e0 : Sf.2 (24 + s) 0 = Int32.ofNat (skN nn)) (e1 : Sf.2 (24 + s) 1 = Int32.ofNat s) (kd8 : skN nn ≤ 8) (n4 : skN nn ≠ 4) (n5 : skN nn ≠ 5) (n6 : skN nn ≠ 6) (n7 : tK nn ≠ 7) (n8 : tK nn ≠ 8) (n9 : tK nn ≠ 9) (nam : ∀ h2, CLC h2 B n m D Sf → CPo h2 B D s L X p → NAM h2 D m (p + 1) (nxE nn cs L) X) : ∃ h', SCz h h' B D m f nn cs s p L X cl k (lyG (w, p) fun _ => lyU D (lyQ D f) nn cs p L X) ∧ RUNc d x1 x2 mn h h' s (s + 1) r p (lyG (w, p) fun _ => lyU D (lyQ D f) nn cs p L X) := by
  obtain ⟨h2, f2, k2, ⟨v2, v16, v17, v18⟩, v31, P, v26, v23, run⟩ := lay_p (d := d) C S hp NM (by omega) f90
  have C2 := CLC_L f2 C
  obtain ⟨q1, gS, q3⟩ := C2.q s (by omega)
  obtain ⟨k1, k1'⟩ := S.k
  have a0 := s_89e (d := d + 1) (h := h2) (p := p) (ix := s) C2.F gS ((q3 0).trans e0) kd8 ((q3 1).trans e1) (v16.trans k1) (by omega) (by omega) n4
  have run2 : ∀ Q, mcall (d + 2) 89 [.ref 2, .ref (B + (24 + s))] h Q = Q (some (.int (Int32.ofNat (s + 1)))) h2 := fun Q => by
    rw [run Q, a0 Q, if_neg (fun z => by omega)]
  have tn := tn_s (x1 := x1) (x2 := x2) C hm S hr lim hs hse run2
  rw [lyG_y (q := (w, p)) hw, lyU_o n7 n8 n9]
  refine ⟨h2, SCz.of ⟨f2, k2, fun z => absurd rfl z, fun _ => ⟨CSt_n C.F S f2 (kpD_of k2) v2 (by omega) (by omega) v16 v17 v18, nam h2 C2 P, by show p < p + 1; omega, P, v26⟩, fun _ Pt kn ly => ⟨fun r r1 r2 => absurd r2 (by show ¬ r < p + 1; omega), fun z => absurd z n8⟩⟩, fun z => absurd rfl z, fun _ => ⟨r + 1, by show r + 1 ≤ r + 3 * (p + 1 - p); omega, tn⟩⟩
end CRl
