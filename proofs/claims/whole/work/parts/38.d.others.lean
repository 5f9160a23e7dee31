set_option maxRecDepth 100000
/-! findOthers over any heap -/
def foW (b j : Nat) : Prop := b = 35 ∧ (j = 17 ∨ j = 18)
section FOs
variable {d : Nat} {h h1 : mh_H} {P R lP X Y C E TT UU SC SP nC nE nS nb na : Nat} {sN : Int → Prop} {en : Int → Nat} {A : ab} {l : List (Nat × Bool × tr)} {p0 a b : Nat} {ps : List pa}
theorem CW_fG {W : Nat → Nat → Prop} (x : fG W h h1) (w : ∀ b, b = TT ∨ b = UU ∨ b = 41 → ∀ j, ¬ W b j) (w2 : ∀ j, 12 ≤ j → j ≤ 16 → ¬ W 35 j) (K : CW h nb p0 TT UU en A ps) : CW h1 nb p0 TT UU en A ps := by
  have e : ∀ b, b = TT ∨ b = UU ∨ b = 41 → mh_i h1 b = mh_i h b := fun b hb => funext fun j => fG_i x (w b hb j)
  have eT := e TT (by simp)
  have eU := e UU (by simp)
  have eS := e 41 (by simp)
  refine ⟨by rw [eT, eU]; exact K.u, by rw [eT, eU, eS]; exact K.s, ?_, ?_, ?_, fun j hj => ?_, ?_, ?_⟩
  · rw [fG_j x (w2 14 (by omega) (by omega))]; exact K.l
  · rw [fG_j x (w2 15 (by omega) (by omega))]; exact K.h
  · rw [fG_j x (w2 16 (by omega) (by omega))]; exact K.x
  · rw [fG_j x (w2 j (by omega) (by omega))]; exact K.b j hj
  · rw [fG_i x (w2 13 (by omega) (by omega))]; exact K.m
  · rw [fG_i x (w2 12 (by omega) (by omega)), eS]; exact K.f
theorem fG_fo {ol oh : Int64} : fG foW h (gS h 35 41 (mh_i h 35 12) (mh_i h 35 13) (mh_i h 41) (mh_j h 35 14) (mh_j h 35 15) (mh_j h 35 16) ol oh) := by
  refine ⟨rfl, rfl, rfl, rfl, rfl, fun b j hw => ⟨?_, ?_⟩⟩
  · rw [gS_i]
    repeat' split
    all_goals first | rfl | (next z => rw [z.1, z.2]) | (next z => rw [z])
  · unfold foW at hw
    rw [gS_j]
    repeat' split
    all_goals first | rfl | (next z => exact absurd (by omega) hw) | (next z => rw [z.1, z.2])
theorem RG.gr (G : RG h P R lP X Y C E TT UU SC SP nC nE nS nb na A) : ∀ v w, v < 2 * A.n → w < 2 * A.n → (gr64 h X v w).toInt = a_gr A v w := fun v w hv hw => by
  have r : RM h X A := G.k.1
  have hT := G.T.t
  have e : (mh_j h (X + 1) (sc (oc_b w) v)).toInt = A.m (oc_b w) v := r.m _ _ (oc_bl hw) hv
  unfold gr64 a_gr
  by_cases c : v = w
  · subst c
    rw [if_pos rfl, if_pos rfl, half_int, e]
    rw [e]
    have := hT.2.2.1 (oc_b v) (oc_bl hv)
    rw [oc_bb] at this; exact this
  · rw [if_neg c, if_neg c, e]
/-- Ranges.findOthers -/
theorem v_115 (G : RG h P R lP X Y C E TT UU SC SP nC nE nS nb na A) (Q' : LQ sN en A l) (hm : l.length ≤ 12000) (K : CW h nb p0 TT UU en A (l.map (pgE en A))) (x y : Int32) : ∃ h', fG foW h h' ∧ otV A (l.map (pgE en A)) (skS (l.map (pgE en A)) x y) = ((mh_j h' 35 17).toInt, (mh_j h' 35 18).toInt) ∧ (∀ j, j = 17 ∨ j = 18 → -2000000000000000 ≤ (mh_j h' 35 j).toInt ∧ (mh_j h' 35 j).toInt ≤ 2000000000000000) ∧ ∀ Q, mcall (d + 1) 115 [.ref 35, .int x, .int y] h Q = Q none h' := by
  have LL : (l.map (pgE en A)).length = l.length := List.length_map _
  have F := G.F
  obtain ⟨z, hz, hs⟩ := K.s
  have c := fun Q => c_115 (d := d) (h := h) (Q := Q) (o := 35) (SG := 41) (fr := mh_i h 35 12) (mx := mh_i h 35 13) (sg := mh_i h 41) (fl := mh_j h 35 14) (fh := mh_j h 35 15) (li := mh_j h 35 16) (ol := mh_j h 35 17) (oh := mh_j h 35 18) G.g G.r1 (F.f 35 11 41 (by decide +kernel)) (F.g 41 100 12 (by decide +kernel)) (F.l 41 100 12 (by decide +kernel)) (RS_so G.k) (x := x) (y := y)
  rw [gS_id] at c
  have o := OT_fo (gr := a_gr A) (g64 := gr64 h X) (n := A.n) (x := x) (y := y) (fr := mh_i h 35 12) (mx := mh_i h 35 13) (fl := mh_j h 35 14) (fh := mh_j h 35 15) (li := mh_j h 35 16) (by omega) K.u hz K.l K.h K.x (fun v hv => by
    rcases hv with e | e | e
    · rw [e]; exact K.b 14 (by omega)
    · rw [e]; exact K.b 15 (by omega)
    · rw [e]; exact K.b 16 (by omega)) K.m (by rw [K.f, hs]) (fun i hi h0 => ((LQ_pq G.T Q' (by omega)).2 h0).1) (fun v w hv hw => ⟨G.gr v w hv hw, a_gr_s G.T.t.1 hv hw, a_gr_r G.T hv hw⟩) (fun i hi h0 => ((LQ_pq G.T Q' (by omega)).2 h0).2.2)
  rw [← hs] at o
  refine ⟨_, fG_fo, ?_, ?_, c⟩
  · have e1 : ∀ ol oh, mh_j (gS h 35 41 (mh_i h 35 12) (mh_i h 35 13) (mh_i h 41) (mh_j h 35 14) (mh_j h 35 15) (mh_j h 35 16) ol oh) 35 17 = ol := fun ol oh => by rw [gS_j, if_neg (by omega), if_neg (by omega), if_neg (by omega), if_pos ⟨rfl, rfl⟩]
    have e2 : ∀ ol oh, mh_j (gS h 35 41 (mh_i h 35 12) (mh_i h 35 13) (mh_i h 41) (mh_j h 35 14) (mh_j h 35 15) (mh_j h 35 16) ol oh) 35 18 = oh := fun ol oh => by rw [gS_j, if_neg (by omega), if_neg (by omega), if_neg (by omega), if_neg (by omega), if_pos ⟨rfl, rfl⟩]
    rw [e1, e2]
    exact otV_eq o.1
  · rintro j (rfl | rfl)
    · rw [gS_j, if_neg (by omega), if_neg (by omega), if_neg (by omega), if_pos ⟨rfl, rfl⟩]
      exact o.2 _ (Or.inl rfl)
    · rw [gS_j, if_neg (by omega), if_neg (by omega), if_neg (by omega), if_neg (by omega), if_pos ⟨rfl, rfl⟩]
      exact o.2 _ (Or.inr rfl)
end FOs
