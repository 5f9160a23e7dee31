set_option maxRecDepth 100000
/-! the reference's keep: a function's draft becomes nodes -/
def keWr (b j : Nat) : Prop := (92 ≤ b ∧ b ≤ 99) ∨ (b = 81 ∧ (j = 24 ∨ j = 27))
/-- where nodes lie in the text, and which node they are part of -/
def pw (Wh Pl : Nat → Int32) : tr → Nat → Int32 → Prop
  | .leaf _, _, _ => True
  | .branch n cs r, k, o => Pl k = Int32.ofNat (tP n) ∧ Wh k = o ∧ pw Wh Pl cs (k + 1) (Int32.ofNat k) ∧ pw Wh Pl r (k + 1 + ts cs) o
/-- the NAMEs of a tree are tokens; what is below NAMEs, places of arrays, any -/
def tvT (K : Nat → Int32) (m : Nat) : tr → Prop
  | .leaf _ => True
  | .branch n cs r => ((tK n = 13 → (∃ a : Nat, a < m ∧ tV n = (a : Int) ∧ K a = 2) ∧ cs = .leaf ()) ∧ (tK n = 14 → ∃ y r', cs = .branch y (.leaf ()) r' ∧ tK y = 13) ∧ (tK n = 16 → cs = .leaf () ∨ ∃ y z, cs = .branch y (.leaf ()) (.branch z (.leaf ()) (.leaf ())) ∧ tK y = 12 ∧ tK z = 12)) ∧ tvT K m cs ∧ tvT K m r
def KPI (h : mh_H) (n m : Nat) (Bt : Nat → Int32) (K : Nat → Int32) (P U : Nat → Nat) (L : List Nat) (c : Nat) : Prop := (NTK h n m Bt K P U) ∧ (NMS h P U L) ∧ (nmG (spe Bt n P U) K m L) ∧ (mh_i h 81 24 = Int32.ofNat c)
theorem KPI.of {h : mh_H} {n m : Nat} {Bt : Nat → Int32} {K : Nat → Int32} {P U : Nat → Nat} {L : List Nat} {c : Nat} (q : (NTK h n m Bt K P U) ∧ (NMS h P U L) ∧ (nmG (spe Bt n P U) K m L) ∧ (mh_i h 81 24 = Int32.ofNat c)) : KPI h n m Bt K P U L c := q
theorem KPI.R {h : mh_H} {n m : Nat} {Bt : Nat → Int32} {K : Nat → Int32} {P U : Nat → Nat} {L : List Nat} {c : Nat} (q : KPI h n m Bt K P U L c) : NTK h n m Bt K P U := q.1
theorem KPI.N {h : mh_H} {n m : Nat} {Bt : Nat → Int32} {K : Nat → Int32} {P U : Nat → Nat} {L : List Nat} {c : Nat} (q : KPI h n m Bt K P U L c) : NMS h P U L := q.2.1
theorem KPI.G {h : mh_H} {n m : Nat} {Bt : Nat → Int32} {K : Nat → Int32} {P U : Nat → Nat} {L : List Nat} {c : Nat} (q : KPI h n m Bt K P U L c) : nmG (spe Bt n P U) K m L := q.2.2.1
theorem KPI.c {h : mh_H} {n m : Nat} {Bt : Nat → Int32} {K : Nat → Int32} {P U : Nat → Nat} {L : List Nat} {c : Nat} (q : KPI h n m Bt K P U L c) : mh_i h 81 24 = Int32.ofNat c := q.2.2.2
def KRs (h h' : mh_H) (n m : Nat) (Bt : Nat → Int32) (K : Nat → Int32) (P U : Nat → Nat) (c : Nat) (t : tr) (o : Int32) (an : List Nat) (L L' : List Nat) (top : Nat) : Prop := (fG keWr h h') ∧ (KPI h' n m Bt K P U L' (c + ts t)) ∧ (∃ M, L' = L ++ M) ∧ (knT (spe Bt n P U) L' t) ∧ (∀ k, k < c → mh_i h' 93 k = mh_i h 93 k ∧ mh_i h' 94 k = mh_i h 94 k ∧ mh_i h' 95 k = mh_i h 95 k ∧ mh_i h' 96 k = mh_i h 96 k) ∧ (∀ k, k < c → mh_i h' 97 k = if k ∈ an then mh_i h 97 k + Int32.ofNat (ts t) else mh_i h 97 k) ∧ (nd (mh_i h' 93) (mh_i h' 95) (mh_i h' 97) c (rn (spe Bt n P U) L' t)) ∧ (pw (mh_i h' 96) (mh_i h' 94) t c o) ∧ (∀ j, j < top → mh_i h' 92 j = mh_i h 92 j)
theorem KRs.of {h h' : mh_H} {n m : Nat} {Bt : Nat → Int32} {K : Nat → Int32} {P U : Nat → Nat} {c : Nat} {t : tr} {o : Int32} {an : List Nat} {L L' : List Nat} {top : Nat} (q : (fG keWr h h') ∧ (KPI h' n m Bt K P U L' (c + ts t)) ∧ (∃ M, L' = L ++ M) ∧ (knT (spe Bt n P U) L' t) ∧ (∀ k, k < c → mh_i h' 93 k = mh_i h 93 k ∧ mh_i h' 94 k = mh_i h 94 k ∧ mh_i h' 95 k = mh_i h 95 k ∧ mh_i h' 96 k = mh_i h 96 k) ∧ (∀ k, k < c → mh_i h' 97 k = if k ∈ an then mh_i h 97 k + Int32.ofNat (ts t) else mh_i h 97 k) ∧ (nd (mh_i h' 93) (mh_i h' 95) (mh_i h' 97) c (rn (spe Bt n P U) L' t)) ∧ (pw (mh_i h' 96) (mh_i h' 94) t c o) ∧ (∀ j, j < top → mh_i h' 92 j = mh_i h 92 j)) : KRs h h' n m Bt K P U c t o an L L' top := q
theorem KRs.f {h h' : mh_H} {n m : Nat} {Bt : Nat → Int32} {K : Nat → Int32} {P U : Nat → Nat} {c : Nat} {t : tr} {o : Int32} {an : List Nat} {L L' : List Nat} {top : Nat} (q : KRs h h' n m Bt K P U c t o an L L' top) : fG keWr h h' := q.1
theorem KRs.I {h h' : mh_H} {n m : Nat} {Bt : Nat → Int32} {K : Nat → Int32} {P U : Nat → Nat} {c : Nat} {t : tr} {o : Int32} {an : List Nat} {L L' : List Nat} {top : Nat} (q : KRs h h' n m Bt K P U c t o an L L' top) : KPI h' n m Bt K P U L' (c + ts t) := q.2.1
theorem KRs.x {h h' : mh_H} {n m : Nat} {Bt : Nat → Int32} {K : Nat → Int32} {P U : Nat → Nat} {c : Nat} {t : tr} {o : Int32} {an : List Nat} {L L' : List Nat} {top : Nat} (q : KRs h h' n m Bt K P U c t o an L L' top) : ∃ M, L' = L ++ M := q.2.2.1
theorem KRs.k {h h' : mh_H} {n m : Nat} {Bt : Nat → Int32} {K : Nat → Int32} {P U : Nat → Nat} {c : Nat} {t : tr} {o : Int32} {an : List Nat} {L L' : List Nat} {top : Nat} (q : KRs h h' n m Bt K P U c t o an L L' top) : knT (spe Bt n P U) L' t := q.2.2.2.1
theorem KRs.o {h h' : mh_H} {n m : Nat} {Bt : Nat → Int32} {K : Nat → Int32} {P U : Nat → Nat} {c : Nat} {t : tr} {o : Int32} {an : List Nat} {L L' : List Nat} {top : Nat} (q : KRs h h' n m Bt K P U c t o an L L' top) : ∀ k, k < c → mh_i h' 93 k = mh_i h 93 k ∧ mh_i h' 94 k = mh_i h 94 k ∧ mh_i h' 95 k = mh_i h 95 k ∧ mh_i h' 96 k = mh_i h 96 k := q.2.2.2.2.1
theorem KRs.s {h h' : mh_H} {n m : Nat} {Bt : Nat → Int32} {K : Nat → Int32} {P U : Nat → Nat} {c : Nat} {t : tr} {o : Int32} {an : List Nat} {L L' : List Nat} {top : Nat} (q : KRs h h' n m Bt K P U c t o an L L' top) : ∀ k, k < c → mh_i h' 97 k = if k ∈ an then mh_i h 97 k + Int32.ofNat (ts t) else mh_i h 97 k := q.2.2.2.2.2.1
theorem KRs.n {h h' : mh_H} {n m : Nat} {Bt : Nat → Int32} {K : Nat → Int32} {P U : Nat → Nat} {c : Nat} {t : tr} {o : Int32} {an : List Nat} {L L' : List Nat} {top : Nat} (q : KRs h h' n m Bt K P U c t o an L L' top) : nd (mh_i h' 93) (mh_i h' 95) (mh_i h' 97) c (rn (spe Bt n P U) L' t) := q.2.2.2.2.2.2.1
theorem KRs.w {h h' : mh_H} {n m : Nat} {Bt : Nat → Int32} {K : Nat → Int32} {P U : Nat → Nat} {c : Nat} {t : tr} {o : Int32} {an : List Nat} {L L' : List Nat} {top : Nat} (q : KRs h h' n m Bt K P U c t o an L L' top) : pw (mh_i h' 96) (mh_i h' 94) t c o := q.2.2.2.2.2.2.2.1
theorem KRs.p {h h' : mh_H} {n m : Nat} {Bt : Nat → Int32} {K : Nat → Int32} {P U : Nat → Nat} {c : Nat} {t : tr} {o : Int32} {an : List Nat} {L L' : List Nat} {top : Nat} (q : KRs h h' n m Bt K P U c t o an L L' top) : ∀ j, j < top → mh_i h' 92 j = mh_i h 92 j := q.2.2.2.2.2.2.2.2
def ndR (sp : Nat → Nat → Bool) (L : List Nat) (n : Nat) : Nat := if tK n = 13 then tE 13 (tP n) (nix sp L (tV n).toNat : Nat) else n
section KPs
variable {d : Nat} {h h1 h2 h' : mh_H} {n m : Nat} {Bt : Nat → Int32} {K : Nat → Int32} {P U : Nat → Nat} {L L' L1 L2 : List Nat} {c top di : Nat} {o : Int32} {an : List Nat}
theorem NTK_G {W : Nat → Nat → Prop} (R : NTK h n m Bt K P U) (x : fG W h h') (e : ∀ b j, W b j → b ≠ 82 ∧ b ≠ 84 ∧ b ≠ 85) : NTK h' n m Bt K P U :=
  NTK.of ⟨RF_G x R.F, R.n, fun i hi => (fG_i x (fun w => (e _ _ w).2.1 rfl)).trans (R.p i hi), fun i hi k => (fG_i x (fun w => (e _ _ w).2.2 rfl)).trans (R.u i hi k), fun i hi => (fG_i x (fun w => (e _ _ w).1 rfl)).trans (R.b i hi), R.w⟩
theorem NMS_G {W : Nat → Nat → Prop} (N : NMS h P U L) (x : fG W h h') (e : ∀ b j, W b j → b ≠ 82 ∧ b ≠ 98 ∧ b ≠ 99 ∧ ¬ (b = 81 ∧ j = 27)) : NMS h' P U L :=
  NMS.of ⟨(fG_i x (fun w => (e _ _ w).2.2.2 ⟨rfl, rfl⟩)).trans N.c, fun k hk => (fG_i x (fun w => (e _ _ w).2.2.1 rfl)).trans (N.s k hk), fun k a hk j hj => (fG_i x (fun w => (e _ _ w).2.1 rfl)).trans ((N.l k a hk j hj).trans (fG_i x (fun w => (e _ _ w).1 rfl)).symm)⟩
theorem nd_c {A V Z A' V' Z' : Nat → Int32} : ∀ t k, (∀ j, k ≤ j → j < k + ts t → A' j = A j ∧ V' j = V j ∧ Z' j = Z j) → nd A V Z k t → nd A' V' Z' k t := by
  intro t
  induction t with
  | leaf _ => exact fun k _ _ => trivial
  | branch n cs r i1 i2 =>
    intro k e w
    obtain ⟨w1, w2, w3, w4, w5⟩ := w
    rw [ts_B] at e
    obtain ⟨e1, e2, e3⟩ := e k (Nat.le_refl _) (by omega)
    exact ⟨e1.trans w1, by rw [e2]; exact w2, e3.trans w3, i1 _ (fun j h1 h2 => e j (by omega) (by omega)) w4, i2 _ (fun j h1 h2 => e j (by omega) (by omega)) w5⟩
theorem pw_c {A V A' V' : Nat → Int32} : ∀ t k x, (∀ j, k ≤ j → j < k + ts t → A' j = A j ∧ V' j = V j) → pw A V t k x → pw A' V' t k x := by
  intro t
  induction t with
  | leaf _ => exact fun k x _ _ => trivial
  | branch n cs r i1 i2 =>
    intro k x e w
    obtain ⟨w1, w2, w4, w5⟩ := w
    rw [ts_B] at e
    obtain ⟨e1, e2⟩ := e k (Nat.le_refl _) (by omega)
    exact ⟨e2.trans w1, e1.trans w2, i1 _ _ (fun j h1 h2 => e j (by omega) (by omega)) w4, i2 _ _ (fun j h1 h2 => e j (by omega) (by omega)) w5⟩
theorem tP_b {x : Nat} : tP x < 65536 := by unfold tP; omega
theorem tK_b {x : Nat} : tK x < 64 := by unfold tK; omega
/-- what add leaves -/
theorem add_f {k p v : Int32} {l : List Nat} (hl : l.Nodup) (hc : c ∉ l) : fG keWr h (addH h c k p v o l) ∧ mh_i (addH h c k p v o l) 81 24 = Int32.ofNat (c + 1) ∧ (mh_i (addH h c k p v o l) 93 c = k ∧ mh_i (addH h c k p v o l) 94 c = p ∧ mh_i (addH h c k p v o l) 95 c = v ∧ mh_i (addH h c k p v o l) 96 c = o ∧ mh_i (addH h c k p v o l) 97 c = 1) ∧ (∀ j, j < c → mh_i (addH h c k p v o l) 93 j = mh_i h 93 j ∧ mh_i (addH h c k p v o l) 94 j = mh_i h 94 j ∧ mh_i (addH h c k p v o l) 95 j = mh_i h 95 j ∧ mh_i (addH h c k p v o l) 96 j = mh_i h 96 j ∧ mh_i (addH h c k p v o l) 97 j = if j ∈ l then mh_i h 97 j + 1 else mh_i h 97 j) ∧ (∀ b j, b ≠ 93 → b ≠ 94 → b ≠ 95 → b ≠ 96 → b ≠ 97 → ¬ (b = 81 ∧ j = 24) → mh_i (addH h c k p v o l) b j = mh_i h b j) := by
  obtain ⟨q1, q2, q3, q4, q5, q6, q7⟩ := in_k l (ndH h c k p v o)
  have q8 := fun j => in_i l (ndH h c k p v o) j hl
  have r : ∀ b j, b ≠ 97 → ¬ (b = 81 ∧ j = 24) → mh_i (addH h c k p v o l) b j = mh_i (ndH h c k p v o) b j := fun b j hb h2 => by
    unfold addH
    rw [hi_si, if_neg h2]
    exact q7 b j hb
  have r97 : ∀ j, mh_i (addH h c k p v o l) 97 j = if j ∈ l then mh_i (ndH h c k p v o) 97 j + 1 else mh_i (ndH h c k p v o) 97 j := fun j => by
    unfold addH
    rw [hi_si, if_neg (by omega)]
    exact q8 j
  have nc : ∀ b j, j ≠ c → mh_i (ndH h c k p v o) b j = mh_i h b j := fun b j hj => by
    unfold ndH
    rw [hi_si, if_neg (fun z => hj z.2), hi_si, if_neg (fun z => hj z.2), hi_si, if_neg (fun z => hj z.2), hi_si, if_neg (fun z => hj z.2), hi_si, if_neg (fun z => hj z.2)]
  have nb : ∀ b j, b ≠ 93 → b ≠ 94 → b ≠ 95 → b ≠ 96 → b ≠ 97 → mh_i (ndH h c k p v o) b j = mh_i h b j := fun b j h1 h2 h3 h4 h5 => by
    unfold ndH
    rw [hi_si, if_neg (fun z => h5 z.1), hi_si, if_neg (fun z => h4 z.1), hi_si, if_neg (fun z => h3 z.1), hi_si, if_neg (fun z => h2 z.1), hi_si, if_neg (fun z => h1 z.1)]
  have oth : ∀ b j, b ≠ 93 → b ≠ 94 → b ≠ 95 → b ≠ 96 → b ≠ 97 → ¬ (b = 81 ∧ j = 24) → mh_i (addH h c k p v o l) b j = mh_i h b j := fun b j h1 h2 h3 h4 h5 h6 => (r b j h5 h6).trans (nb b j h1 h2 h3 h4 h5)
  refine ⟨⟨q1, q2, q3, q4, q5, fun b j w => ⟨?_, by show mh_j (incS _ l) b j = _; rw [q6]; rfl⟩⟩, ?_, ⟨?_, ?_, ?_, ?_, ?_⟩, fun j hj => ⟨?_, ?_, ?_, ?_, ?_⟩, oth⟩
  · exact oth b j (fun z => w (Or.inl (by omega))) (fun z => w (Or.inl (by omega))) (fun z => w (Or.inl (by omega))) (fun z => w (Or.inl (by omega))) (fun z => w (Or.inl (by omega))) (fun z => w (Or.inr ⟨z.1, Or.inl z.2⟩))
  · unfold addH
    rw [hi_si, if_pos ⟨rfl, rfl⟩]
  · rw [r 93 c (by decide) (by omega)]
    unfold ndH
    rw [hi_si, if_neg (by omega), hi_si, if_neg (by omega), hi_si, if_neg (by omega), hi_si, if_neg (by omega), hi_si, if_pos ⟨rfl, rfl⟩]
  · rw [r 94 c (by decide) (by omega)]
    unfold ndH
    rw [hi_si, if_neg (by omega), hi_si, if_neg (by omega), hi_si, if_neg (by omega), hi_si, if_pos ⟨rfl, rfl⟩]
  · rw [r 95 c (by decide) (by omega)]
    unfold ndH
    rw [hi_si, if_neg (by omega), hi_si, if_neg (by omega), hi_si, if_pos ⟨rfl, rfl⟩]
  · rw [r 96 c (by decide) (by omega)]
    unfold ndH
    rw [hi_si, if_neg (by omega), hi_si, if_pos ⟨rfl, rfl⟩]
  · rw [r97 c, if_neg hc]
    unfold ndH
    rw [hi_si, if_pos ⟨rfl, rfl⟩]
  · exact (r 93 j (by decide) (by omega)).trans (nc 93 j (by omega))
  · exact (r 94 j (by decide) (by omega)).trans (nc 94 j (by omega))
  · exact (r 95 j (by decide) (by omega)).trans (nc 95 j (by omega))
  · exact (r 96 j (by decide) (by omega)).trans (nc 96 j (by omega))
  · rw [r97 j, nc 97 j (by omega)]
theorem KR_0 {u : Unit} (I : KPI h n m Bt K P U L c) : KRs h h n m Bt K P U c (.leaf u) o an L L top := by
  refine KRs.of ⟨fG_id, I, ⟨[], (List.append_nil _).symm⟩, trivial, fun _ _ => ⟨rfl, rfl, rfl, rfl⟩, fun k _ => ?_, trivial, trivial, fun _ _ => rfl⟩
  have e : Int32.ofNat (ts (.leaf u)) = 0 := rfl
  rw [e, Int32.add_zero]
  split <;> rfl
/-- a node, what is below it, what is beside it -/
theorem KR_T {nn : Nat} {cs r : tr} {v : Int32} {h3 h4 : mh_H} (hc0 : c + (1 + ts cs + ts r) ≤ 26000) (hl : an.Nodup) (ha : ∀ a, a ∈ an → a < c) (f1 : fG nmWr h h1) (x1 : ∃ M, L1 = L ++ M) (k1 : tK nn = 13 → nix (spe Bt n P U) L1 (tV nn).toNat < L1.length) (hv : v.toInt = tV (ndR (spe Bt n P U) L1 nn)) (h3e : fG keWr (addH h1 c (Int32.ofNat (tK nn)) (Int32.ofNat (tP nn)) v o an) h3) (h3r : ∀ b j, 93 ≤ b → b ≤ 97 → mh_i h3 b j = mh_i (addH h1 c (Int32.ofNat (tK nn)) (Int32.ofNat (tP nn)) v o an) b j) (h3p : ∀ j, j < top → mh_i h3 92 j = mh_i (addH h1 c (Int32.ofNat (tK nn)) (Int32.ofNat (tP nn)) v o an) 92 j) {top2 : Nat} (ht : top ≤ top2) (A : KRs h3 h4 n m Bt K P U (c + 1) cs (Int32.ofNat c) (c :: an) L1 L2 top2) (B : KRs h4 h' n m Bt K P U (c + 1 + ts cs) r o an L2 L' top) : KRs h h' n m Bt K P U c (.branch nn cs r) o an L L' top := by
  have cn : c ∉ an := fun z => by have := ha c z; omega
  obtain ⟨a1, a2, ⟨b1, b2, b3, b4, b5⟩, a4, a5⟩ := add_f (h := h1) (c := c) (k := Int32.ofNat (tK nn)) (p := Int32.ofNat (tP nn)) (v := v) (o := o) (l := an) hl cn
  generalize addH h1 c (Int32.ofNat (tK nn)) (Int32.ofNat (tP nn)) v o an = hh at *
  obtain ⟨M1, e1⟩ := x1
  obtain ⟨M2, e2⟩ := A.x
  obtain ⟨M3, e3⟩ := B.x
  have n92 : ∀ b j, 92 ≤ b → b ≤ 97 → mh_i h1 b j = mh_i h b j := fun b j u1 u2 => fG_i f1 (fun w => by unfold nmWr at w; omega)
  have fW : fG keWr h h1 := ⟨f1.1, f1.2.1, f1.2.2.1, f1.2.2.2.1, f1.2.2.2.2.1, fun b j w => f1.2.2.2.2.2 b j (fun z => w (by unfold nmWr at z; unfold keWr; omega))⟩
  have kA := rn_app (M := M3) cs A.k
  rw [← e3] at kA
  have n1 : nix (spe Bt n P U) L' (tV nn).toNat = nix (spe Bt n P U) L1 (tV nn).toNat ∨ ¬ tK nn = 13 := by
    by_cases q : tK nn = 13
    · refine Or.inl ?_
      rw [e3, e2, List.append_assoc]
      exact nix_app L1 (k1 q)
    · exact Or.inr q
  have enR : ndR (spe Bt n P U) L' nn = ndR (spe Bt n P U) L1 nn := by
    unfold ndR
    rcases n1 with q | q
    · rw [q]
    · rw [if_neg q, if_neg q]
  have s4c : mh_i h4 97 c = Int32.ofNat (1 + ts cs) := by
    rw [A.s c (by omega), if_pos List.mem_cons_self, h3r 97 c (by omega) (by omega), b5]
    exact nn_add (a := 1) (b := ts cs)
  have rB : ∀ j, j < c + 1 + ts cs → j ∉ an → mh_i h' 93 j = mh_i h4 93 j ∧ mh_i h' 94 j = mh_i h4 94 j ∧ mh_i h' 95 j = mh_i h4 95 j ∧ mh_i h' 96 j = mh_i h4 96 j ∧ mh_i h' 97 j = mh_i h4 97 j := fun j hj na => by
    obtain ⟨u1, u2, u3, u4⟩ := B.o j hj
    exact ⟨u1, u2, u3, u4, by rw [B.s j hj, if_neg na]⟩
  have cB := rB c (by omega) cn
  obtain ⟨v1, v2, v3, v4⟩ := A.o c (by omega)
  have na2 : ∀ j, c < j → j ∉ an := fun j hj z => by have := ha j z; omega
  refine KRs.of ⟨fG_t (fG_t (fG_t (fG_t fW a1) h3e) A.f) B.f, ?_, ⟨M1 ++ (M2 ++ M3), by rw [e3, e2, e1, List.append_assoc, List.append_assoc]⟩, ⟨fun q => ?_, kA.2, B.k⟩, fun k hk => ?_, fun k hk => ?_, ⟨?_, ?_, ?_, ?_, ?_⟩, ⟨?_, ?_, ?_, ?_⟩, fun j hj => ?_⟩
  · have z := B.I
    rw [show c + 1 + ts cs + ts r = c + ts (.branch nn cs r) from by rw [ts_B]; omega] at z
    exact z
  · rcases n1 with z | z
    · rw [z, e3, e2, List.append_assoc, List.length_append]
      have := k1 q
      omega
    · exact absurd q z
  · obtain ⟨u1, u2, u3, u4⟩ := B.o k (by omega)
    obtain ⟨w1, w2, w3, w4⟩ := A.o k (by omega)
    obtain ⟨y1, y2, y3, y4, -⟩ := a4 k hk
    exact ⟨u1.trans (w1.trans ((h3r 93 k (by omega) (by omega)).trans (y1.trans (n92 93 k (by omega) (by omega))))), u2.trans (w2.trans ((h3r 94 k (by omega) (by omega)).trans (y2.trans (n92 94 k (by omega) (by omega))))), u3.trans (w3.trans ((h3r 95 k (by omega) (by omega)).trans (y3.trans (n92 95 k (by omega) (by omega))))), u4.trans (w4.trans ((h3r 96 k (by omega) (by omega)).trans (y4.trans (n92 96 k (by omega) (by omega)))))⟩
  · obtain ⟨-, -, -, -, y5⟩ := a4 k hk
    rw [B.s k (by omega), A.s k (by omega), h3r 97 k (by omega) (by omega), y5, n92 97 k (by omega) (by omega)]
    have mk : k ∈ c :: an ↔ k ∈ an := ⟨fun z => by rcases List.mem_cons.mp z with q | q; omega; exact q, List.mem_cons_of_mem _⟩
    by_cases q : k ∈ an
    · rw [if_pos q, if_pos (mk.mpr q), if_pos q, if_pos q, ts_B, Int32.add_assoc, Int32.add_assoc, show (1 : Int32) = Int32.ofNat 1 from rfl, nn_add, nn_add, Nat.add_assoc]
    · rw [if_neg q, if_neg (fun z => q (mk.mp z)), if_neg q, if_neg q]
  · show mh_i h' 93 c = Int32.ofNat (tK (ndR (spe Bt n P U) L' nn))
    have e : tK (ndR (spe Bt n P U) L' nn) = tK nn := by
      unfold ndR
      by_cases q : tK nn = 13
      · rw [if_pos q, tE_K (by decide), q]
      · rw [if_neg q]
    rw [e]
    exact cB.1.trans (v1.trans ((h3r 93 c (by omega) (by omega)).trans b1))
  · show (mh_i h' 95 c).toInt = tV (ndR (spe Bt n P U) L' nn)
    rw [enR, ← hv, cB.2.2.1.trans (v3.trans ((h3r 95 c (by omega) (by omega)).trans b3))]
  · show mh_i h' 97 c = Int32.ofNat (1 + ts (rn (spe Bt n P U) L' cs))
    rw [ts_rn]
    exact cB.2.2.2.2.trans s4c
  · show nd (mh_i h' 93) (mh_i h' 95) (mh_i h' 97) (c + 1) (rn (spe Bt n P U) L' cs)
    rw [kA.1]
    refine nd_c _ _ (fun j j1 j2 => ?_) A.n
    rw [ts_rn] at j2
    obtain ⟨u1, u2, u3, u4, u5⟩ := rB j (by omega) (na2 j (by omega))
    exact ⟨u1, u3, u5⟩
  · show nd (mh_i h' 93) (mh_i h' 95) (mh_i h' 97) (c + 1 + ts (rn (spe Bt n P U) L' cs)) (rn (spe Bt n P U) L' r)
    rw [ts_rn]
    exact B.n
  · exact cB.2.1.trans (v2.trans ((h3r 94 c (by omega) (by omega)).trans b2))
  · exact cB.2.2.2.1.trans (v4.trans ((h3r 96 c (by omega) (by omega)).trans b4))
  · refine pw_c _ _ _ (fun j j1 j2 => ?_) A.w
    obtain ⟨u1, u2, u3, u4, u5⟩ := rB j (by omega) (na2 j (by omega))
    exact ⟨u4, u2⟩
  · exact B.w
  · rw [B.p j hj, A.p j (by omega), h3p j hj, a5 92 j (by decide) (by decide) (by decide) (by decide) (by decide) (by omega), n92 92 j (by omega) (by omega)]
end KPs
