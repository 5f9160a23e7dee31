set_option maxRecDepth 100000
/-! the class's machine: a step, by its kind -/
/-- what a step leaves in the class -/
def STP (o : so5) (h h' : mh_H) (gv p n a : Nat) (rm : Nat → Nat) (f1 o1 n0 : Nat) : Prop := (fG mdW h h') ∧ (mh_i h' 67 3 = Int32.ofNat (min o.c gv)) ∧ (mh_i h' 67 10 = o.w) ∧ (mh_i h' 67 4 = (if o.w = 0 then Int32.ofNat (if o.b = true then f1 else o1) else Int32.ofNat p)) ∧ (o.w = 0 → AG n a rm (mh_i h' 69) o.V (mh_i h' 70) o.P ∧ ∀ x, x < a → mh_i h' 71 x = Int32.ofNat (rm x)) ∧ (¬ o.w = 0 → (∀ x, x < n0 → mh_i h' 69 x = mh_i h 69 x) ∧ (∀ j, mh_i h' 70 j = mh_i h 70 j) ∧ ∀ j, mh_i h' 71 j = mh_i h 71 j)
theorem STP.of {o : so5} {h h' : mh_H} {gv p n a : Nat} {rm : Nat → Nat} {f1 o1 n0 : Nat} (q : (fG mdW h h') ∧ (mh_i h' 67 3 = Int32.ofNat (min o.c gv)) ∧ (mh_i h' 67 10 = o.w) ∧ (mh_i h' 67 4 = (if o.w = 0 then Int32.ofNat (if o.b = true then f1 else o1) else Int32.ofNat p)) ∧ (o.w = 0 → AG n a rm (mh_i h' 69) o.V (mh_i h' 70) o.P ∧ ∀ x, x < a → mh_i h' 71 x = Int32.ofNat (rm x)) ∧ (¬ o.w = 0 → (∀ x, x < n0 → mh_i h' 69 x = mh_i h 69 x) ∧ (∀ j, mh_i h' 70 j = mh_i h 70 j) ∧ ∀ j, mh_i h' 71 j = mh_i h 71 j)) : STP o h h' gv p n a rm f1 o1 n0 := q
theorem STP.f {o : so5} {h h' : mh_H} {gv p n a : Nat} {rm : Nat → Nat} {f1 o1 n0 : Nat} (q : STP o h h' gv p n a rm f1 o1 n0) : fG mdW h h' := q.1
theorem STP.c {o : so5} {h h' : mh_H} {gv p n a : Nat} {rm : Nat → Nat} {f1 o1 n0 : Nat} (q : STP o h h' gv p n a rm f1 o1 n0) : mh_i h' 67 3 = Int32.ofNat (min o.c gv) := q.2.1
theorem STP.w {o : so5} {h h' : mh_H} {gv p n a : Nat} {rm : Nat → Nat} {f1 o1 n0 : Nat} (q : STP o h h' gv p n a rm f1 o1 n0) : mh_i h' 67 10 = o.w := q.2.2.1
theorem STP.p {o : so5} {h h' : mh_H} {gv p n a : Nat} {rm : Nat → Nat} {f1 o1 n0 : Nat} (q : STP o h h' gv p n a rm f1 o1 n0) : mh_i h' 67 4 = (if o.w = 0 then Int32.ofNat (if o.b = true then f1 else o1) else Int32.ofNat p) := q.2.2.2.1
theorem STP.g {o : so5} {h h' : mh_H} {gv p n a : Nat} {rm : Nat → Nat} {f1 o1 n0 : Nat} (q : STP o h h' gv p n a rm f1 o1 n0) : o.w = 0 → AG n a rm (mh_i h' 69) o.V (mh_i h' 70) o.P ∧ ∀ x, x < a → mh_i h' 71 x = Int32.ofNat (rm x) := q.2.2.2.2.1
theorem STP.t {o : so5} {h h' : mh_H} {gv p n a : Nat} {rm : Nat → Nat} {f1 o1 n0 : Nat} (q : STP o h h' gv p n a rm f1 o1 n0) : ¬ o.w = 0 → (∀ x, x < n0 → mh_i h' 69 x = mh_i h 69 x) ∧ (∀ j, mh_i h' 70 j = mh_i h 70 j) ∧ ∀ j, mh_i h' 71 j = mh_i h 71 j := q.2.2.2.2.2
/-- a trap leaves cells and places -/
def TV (V P : Nat → Int32) (q : so5) : Prop := ¬ q.w = 0 → q.V = V ∧ q.P = P
theorem TV_0 {V P : Nat → Int32} {q : so5} (h : q.w = 0) : TV V P q := fun z => absurd h z
theorem TV_z {V P : Nat → Int32} {q : xr} {f : Int → Nat → so5} (hf : ∀ v c, TV V P (f v c)) : TV V P (s_z V P q f) := by
  unfold s_z
  cases q.1 with
  | none => exact fun _ => ⟨rfl, rfl⟩
  | some v => exact hf v _
section STq
variable {d : Nat} {h h1 : mh_H} {Y C SC nC nS nb na p gv c sum s n a x sz St f1 o1 n' n0 : Nat} {en : Int → Nat} {sN : Int → Prop} {A : ab} {t : tr} {v w : Int32} {rm : Nat → Nat} {q : so5}
theorem fnH_f : fG mdW h (fnH h v) := by
  unfold fnH
  split
  · exact fG_si (Or.inr ⟨rfl, by omega⟩)
  · exact fG_id
theorem fnH_i {b j : Nat} (hb : ¬ (b = 67 ∧ j = 4)) : mh_i (fnH h v) b j = mh_i h b j := by
  unfold fnH
  split
  · rw [hi_si, if_neg hb]
  · rfl
theorem fnH_4 : mh_i (fnH h v) 67 4 = if mh_i h 67 10 = 0 then v else mh_i h 67 4 := by
  unfold fnH
  split
  · rw [hi_si, if_pos ⟨rfl, rfl⟩]
  · rfl
theorem STP_v (o : stV q h h1 gv) (e4 : mh_i h 67 4 = Int32.ofNat p) (hb : q.b = true) (hV : TV (mh_i h 69) (mh_i h 70) q) (sz : ∀ x, x < a → mh_i h 71 x = Int32.ofNat (rm x)) : STP q h (fnH h1 (Int32.ofNat f1)) gv p n' a rm f1 o1 n0 := by
  obtain ⟨a1, a2, a3, a4, a5, a6, a7⟩ := o
  refine STP.of ⟨fG_t a1 fnH_f, by rw [fnH_i (by omega)]; exact a2, by rw [fnH_i (by omega)]; exact a3, ?_, fun _ => ⟨⟨fun x _ => by rw [fnH_i (by omega), a5], fun x i _ _ => by rw [fnH_i (by omega), a6]⟩, fun x hx => by rw [fnH_i (by omega), a7]; exact sz x hx⟩, fun z => ⟨fun x _ => by rw [fnH_i (by omega), a5, (hV z).1], fun j => by rw [fnH_i (by omega), a6, (hV z).2], fun j => by rw [fnH_i (by omega), a7]⟩⟩
  rw [fnH_4, a3, a4, e4, hb, if_pos rfl]
/-- s_st by its kind -/
theorem sst_1 {tk : Option Nat} {N V P : Nat → Int32} {g : Nat} : s_st en t x tk n a rm N g V P c 1 = s_z V P (xv en V P rm N g t none c) (fun v c' => (0, c', s_up V n v, P, true)) := rfl
theorem sst_2 {tk : Option Nat} {N V P : Nat → Int32} {g : Nat} : s_st en t x tk n a rm N g V P c 2 = (0, c, s_up V n 0, P, true) := rfl
theorem sst_3 {tk : Option Nat} {N V P : Nat → Int32} {g : Nat} : s_st en t x tk n a rm N g V P c 3 = (0, c, V, (fun j => if 64 * a ≤ j ∧ j < 64 * a + 64 then 0 else P j), true) := rfl
theorem sst_4 {tk : Option Nat} {N V P : Nat → Int32} {g : Nat} : s_st en t x tk n a rm N g V P c 4 = s_z V P (xv en V P rm N g t none c) (fun v c' => (0, c', s_up V x v, P, true)) := rfl
theorem sst_5 {tk : Option Nat} {N V P : Nat → Int32} {g : Nat} : s_st en t x tk n a rm N g V P c 5 = s_z V P (xv en V P rm N g t none c) (fun i c' => if i < 0 ∨ (rm x : Int) ≤ i then (4, c', V, P, true) else s_z V P (xv en V P rm N g (tT t) none c') (fun v c' => (0, c', V, s_up P (64 * x + i.toNat) v, true))) := rfl
theorem sst_6 {tk : Option Nat} {N V P : Nat → Int32} {g : Nat} : s_st en t x tk n a rm N g V P c 6 = s_row en V P rm N g t n c V := rfl
theorem sst_7 {tk : Option Nat} {N V P : Nat → Int32} {g : Nat} : s_st en t x tk n a rm N g V P c 7 = s_y V P (xh en V P rm N g t false false c) (fun b c' => (0, c', V, P, b)) := rfl
theorem sst_8 {tk : Option Nat} {N V P : Nat → Int32} {g : Nat} : s_st en t x tk n a rm N g V P c 8 = s_y V P (xh en V P rm N g t false false c) (fun b c' => (if b = true then 0 else 8, c', V, P, true)) := rfl
theorem sst_9 {tk : Option Nat} {N V P : Nat → Int32} {g : Nat} : s_st en t x tk n a rm N g V P c 9 = s_z V P (xv en V P rm N g t none c) (fun v c' => (0, c', (match tk with | none => V | some y => s_up V y v), P, true)) := rfl
theorem s_z_b {V P : Nat → Int32} {q : xr} {f : Int → Nat → so5} (hf : ∀ v c, (f v c).b = true) : (s_z V P q f).b = true := by
  unfold s_z
  cases q.1 with
  | none => rfl
  | some v => exact hf v _
/-- a return -/
theorem st_pr (hA : A.n ≤ 12 ∧ A.a ≤ 6) (B : MB h Y C SC nC nS nb na p gv) (m : mS1 h C SC nC nS nb na sN en A t sum) (e10 : mh_i h 67 10 = 0) (e3 : mh_i h 67 3 = Int32.ofNat (min c gv)) {tk : Option Nat} (hs : ∀ y, tk = some y → y < 12) : ∃ h1 y h2, fG mcW h h1 ∧ stV (s_z (mh_i h 69) (mh_i h 70) (xv en (mh_i h 69) (mh_i h 70) A.rm (mh_i h 68) gv t none c) (fun v c' => (0, c', (match tk with | none => mh_i h 69 | some y => s_up (mh_i h 69) y v), mh_i h 70, true))) h h2 gv ∧ (∀ Q, mcall (d + 3) 37 [.ref 67, .int (Int32.ofNat sum)] h Q = Q (some (.int y)) h1) ∧ ∀ d' Q, mcall d' 32 [.ref 67, .int (match tk with | none => -1 | some y => Int32.ofNat y), .int y] h1 Q = Q none h2 := by
  cases tk with
  | some z => exact st_p (d := d) (s := z) hA B m e10 e3 (hs z rfl)
  | none =>
    obtain ⟨h1, y, f1, q1, run1⟩ := v_37s (d := d) hA B m e10 e3
    have B1 := MB_G f1 B
    have i9 : mh_i h1 69 = mh_i h 69 := MB_i f1 (by omega)
    have i0 : mh_i h1 70 = mh_i h 70 := MB_i f1 (by omega)
    have i1 : mh_i h1 71 = mh_i h 71 := MB_i f1 (by omega)
    have i4 : mh_i h1 67 4 = mh_i h 67 4 := (f1.2.2.2.2.2 67 4 (by unfold mcW; omega)).1
    refine ⟨h1, y, h1, f1, ?_, run1, fun d' Q => c_32n B1 Q⟩
    obtain ⟨q, eq⟩ : ∃ q, xv en (mh_i h 69) (mh_i h 70) A.rm (mh_i h 68) gv t none c = q := ⟨_, rfl⟩
    rw [eq] at q1 ⊢
    obtain ⟨t3, t10⟩ := q1
    unfold s_z
    cases hq : q.1 with
    | none =>
      rw [hq] at t10
      exact ⟨fG_w f1 md_mc, t3, t10.2, i4, i9, i0, i1⟩
    | some v =>
      rw [hq] at t10
      exact ⟨fG_w f1 md_mc, t3, t10.1, i4, i9, i0, i1⟩
/-- a COND -/
theorem STP_c {k0 ce KA WA nK k : Nat} (hA : A.n ≤ 12 ∧ A.a ≤ 6) (B : MB h Y C SC nC nS nb na p gv) {ox : Int32} (N : MN h p (Int32.ofNat f1) ox) (hox : ¬ k = 7 → ox = Int32.ofNat o1) (M : MC h St Y KA WA nK k0 ce) (wy : cy (mh_i h KA) (mh_i h WA) (relM h C SC nC nS nb na sN en A (mh_i h WA)) t false false k0 ce) (e10 : mh_i h 67 10 = 0) (e3 : mh_i h 67 3 = Int32.ofNat (min c gv)) (hk : k = 5 ∨ k = 6 ∨ k = 7) (s0 : mh_i h St 0 = Int32.ofNat k) {tk : Option Nat} (sz : ∀ x, x < a → mh_i h 71 x = Int32.ofNat (rm x)) : ∃ h', STP (s_st en t x tk n a A.rm (mh_i h 68) gv (mh_i h 69) (mh_i h 70) c (if k = 7 then 8 else 7)) h h' gv p n' a rm f1 o1 n0 ∧ ∀ Q, mcall (d + 5) 30 [.ref 67, .ref St] h Q = Q none h' := by
  obtain ⟨h1, b, f, o, ob, run⟩ := v_35 (d := d) hA B M wy e10 e3
  have run' := f_5 (d := d + 4) B N M.g ⟨M.ne.1, M.ne.2.1⟩ hk s0 f run
  have i9 : mh_i h1 69 = mh_i h 69 := MB_i f (by omega)
  have i0 : mh_i h1 70 = mh_i h 70 := MB_i f (by omega)
  have i1 : mh_i h1 71 = mh_i h 71 := MB_i f (by omega)
  have i4 : mh_i h1 67 4 = Int32.ofNat p := ((f.2.2.2.2.2 67 4 (by unfold mcW; omega)).1).trans B.p4
  have fw := fG_w f md_mc
  obtain ⟨q, eq⟩ : ∃ q, xh en (mh_i h 69) (mh_i h 70) A.rm (mh_i h 68) gv t false false c = q := ⟨_, rfl⟩
  have e7 : s_st en t x tk n a A.rm (mh_i h 68) gv (mh_i h 69) (mh_i h 70) c 7 = s_y (mh_i h 69) (mh_i h 70) q (fun b c' => (0, c', mh_i h 69, mh_i h 70, b)) := by rw [sst_7, eq]
  have e8 : s_st en t x tk n a A.rm (mh_i h 68) gv (mh_i h 69) (mh_i h 70) c 8 = s_y (mh_i h 69) (mh_i h 70) q (fun b c' => (if b = true then 0 else 8, c', mh_i h 69, mh_i h 70, true)) := by rw [sst_8, eq]
  rw [eq] at o ob
  obtain ⟨o3, o10⟩ := o
  have base : ∀ (h2 : mh_H), fG mdW h1 h2 → (∀ j, mh_i h2 69 j = mh_i h1 69 j) → (∀ j, mh_i h2 70 j = mh_i h1 70 j) → (∀ j, mh_i h2 71 j = mh_i h1 71 j) → AG n' a rm (mh_i h2 69) (mh_i h 69) (mh_i h2 70) (mh_i h 70) ∧ ∀ x, x < a → mh_i h2 71 x = Int32.ofNat (rm x) := fun h2 _ j9 j0 j1 => ⟨⟨fun x _ => by rw [j9, i9], fun x i _ _ => by rw [j0, i0]⟩, fun x hx => by rw [j1, i1]; exact sz x hx⟩
  cases hq : q.1 with
  | none =>
    rw [hq] at o10
    have n10 : ¬ mh_i h1 67 10 = 0 := by rw [o10.2]; exact o10.1
    have E : ∀ f, s_y (mh_i h 69) (mh_i h 70) q f = (q.2.1, q.2.2, mh_i h 69, mh_i h 70, true) := fun f => by unfold s_y; rw [hq]
    have run2 : ∀ Q, mcall (d + 5) 30 [.ref 67, .ref St] h Q = Q none h1 := fun Q => by
      rw [run' Q]
      have z : ∀ x, fnH h1 x = h1 := fun x => by unfold fnH; rw [if_neg n10]
      rw [if_neg n10, z, z]
      split <;> rfl
    refine ⟨h1, ?_, run2⟩
    have key : STP (q.2.1, q.2.2, mh_i h 69, mh_i h 70, true) h h1 gv p n' a rm f1 o1 n0 := STP.of ⟨fw, o3, o10.2, by rw [i4]; show _ = if q.2.1 = 0 then _ else _; rw [if_neg o10.1], fun z => absurd z o10.1, fun _ => ⟨fun x _ => by rw [i9], fun j => by rw [i0], fun j => by rw [i1]⟩⟩
    by_cases k7 : k = 7
    · rw [if_pos k7, e8, E]; exact key
    · rw [if_neg k7, e7, E]; exact key
  | some z =>
    rw [hq] at o10
    have bz := ob z hq
    subst bz
    have E : ∀ f, s_y (mh_i h 69) (mh_i h 70) q f = f b q.2.2 := fun f => by unfold s_y; rw [hq]
    cases b with
    | true =>
      refine ⟨fnH h1 (Int32.ofNat f1), ?_, fun Q => by rw [run' Q, if_pos rfl]⟩
      have key : STP (0, q.2.2, mh_i h 69, mh_i h 70, true) h (fnH h1 (Int32.ofNat f1)) gv p n' a rm f1 o1 n0 := STP.of ⟨fG_t fw fnH_f, by rw [fnH_i (by omega)]; exact o3, by rw [fnH_i (by omega)]; exact o10, by rw [fnH_4, if_pos o10]; rfl, fun _ => base _ fnH_f (fun j => fnH_i (by omega)) (fun j => fnH_i (by omega)) (fun j => fnH_i (by omega)), fun z => absurd rfl z⟩
      by_cases k7 : k = 7
      · rw [if_pos k7, e8, E]; exact key
      · rw [if_neg k7, e7, E]; exact key
    | false =>
      by_cases k7 : k = 7
      · have z8 : ¬ mh_i (mh_si h1 67 10 8) 67 10 = 0 := by rw [hi_si, if_pos ⟨rfl, rfl⟩]; decide
        refine ⟨mh_si h1 67 10 8, ?_, fun Q => ?_⟩
        · rw [if_pos k7, e8, E]
          have e : (if (false : Bool) = true then (0 : Int32) else 8) = 8 := rfl
          show STP ((if (false : Bool) = true then (0 : Int32) else 8), q.2.2, mh_i h 69, mh_i h 70, true) h _ gv p n' a rm f1 o1 n0
          rw [e]
          exact STP.of ⟨fG_t fw (fG_si (Or.inr ⟨rfl, by omega⟩)), by rw [hi_si, if_neg (by omega)]; exact o3, by rw [hi_si, if_pos ⟨rfl, rfl⟩]; rfl, by rw [hi_si, if_neg (by omega), i4]; rfl, fun z => absurd z (show ¬ (8 : Int32) = 0 by decide), fun _ => ⟨fun x _ => by rw [hi_si, if_neg (by omega), i9], fun j => by rw [hi_si, if_neg (by omega), i0], fun j => by rw [hi_si, if_neg (by omega), i1]⟩⟩
        · rw [run' Q, if_neg (by decide), if_pos o10, if_pos k7]
          have z : fnH (mh_si h1 67 10 8) ox = mh_si h1 67 10 8 := by unfold fnH; rw [if_neg z8]
          rw [z]
      · have hox' := hox k7
        subst hox'
        have z0 : mh_i (mh_si h1 67 10 0) 67 10 = 0 := by rw [hi_si, if_pos ⟨rfl, rfl⟩]
        refine ⟨fnH (mh_si h1 67 10 0) (Int32.ofNat o1), ?_, fun Q => by rw [run' Q, if_neg (by decide), if_pos o10, if_neg k7]⟩
        rw [if_neg k7, e7, E]
        have f2 : fG mdW h1 (fnH (mh_si h1 67 10 0) (Int32.ofNat o1)) := fG_t (fG_si (Or.inr ⟨rfl, by omega⟩)) fnH_f
        exact STP.of ⟨fG_t fw f2, by rw [fnH_i (by omega), hi_si, if_neg (by omega)]; exact o3, by rw [fnH_i (by omega)]; exact z0, by rw [fnH_4, if_pos z0]; rfl, fun _ => base _ f2 (fun j => by rw [fnH_i (by omega), hi_si, if_neg (by omega)]) (fun j => by rw [fnH_i (by omega), hi_si, if_neg (by omega)]) (fun j => by rw [fnH_i (by omega), hi_si, if_neg (by omega)]), fun z => absurd rfl z⟩
end STq
