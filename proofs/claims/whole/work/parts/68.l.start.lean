set_option maxRecDepth 100000
/-! THE START: both sides; all runs of the law -/
section SFs
variable {h : mh_H} {sp : Nat → Nat → Bool} {NL : List Nat} {Pt : Nat → lpt} {E0 : nv}
/-- the reference's side of the start, whatever the heap is called -/
theorem IRf_0 {x8 x9 x2 : Int32} {P : Nat → Int32} (B : RBz h) (N : NOP h) (i49 : mh_i h 81 49 = -1) (i2 : mh_i h 81 2 = 0) (i54 : mh_i h 81 54 = 0) (i57 : mh_i h 81 57 = 0) (i60 : mh_i h 81 60 = 0) (iP : mh_i h 2639 = P) : IRf h (0, fun _ => 0) (false, x8, x9, x2) (gNo sp NL Pt E0) (fun _ => some A00) (0, P) (0, 0, 0, 0, mh_i h 2640, mh_i h 2641) [] := by
  have n3 : ¬ mh_i h 81 49 = 3 := by
    rw [i49]
    decide
  have n := N
  obtain ⟨-, -, -, -, ⟨-, m64, m65, m66⟩, -⟩ := n
  exact IRf.of ⟨⟨fun _ _ => 0, RPg_0 B N n3⟩, ⟨i2, fun i hi => absurd hi (Nat.not_lt_zero _)⟩, ⟨fun _ => i49, fun z => absurd (show false = true from z) (by decide)⟩, ⟨i60, iP⟩, ⟨m64, m65, m66, i54, rfl, rfl⟩, ⟨i57, fun i v e => (by simp at e)⟩⟩
/-- room -/
theorem RM_0 (n : mh_n h = 2644) (s : mh_s h = 1006085) (r : mh_r h 2 1 = some 9) (i : mh_i h 9 5 = 0) : RMz 0 0 h := by
  have y : cY h = 0 := by
    unfold cY
    rw [r]
    show (mh_i h 9 5).toNatClampNeg = 0
    rw [i]
    decide
  have g : cG h = 0 := by
    unfold cG
    rw [y]
    exact if_neg (Nat.not_lt_zero _)
  refine ⟨ln h 0 13, rfl, ?_, ?_⟩
  · unfold cN qN
    rw [g, n]
    omega
  · unfold cS qS
    rw [g, s]
    omega
theorem PUW_0 {P V W : Nat → Int32} : PUW (0, fun _ => 0) (gNo sp NL Pt E0) (fun _ => some A00) (0, P) (0, 0, 0, 0, V, W) := by
  have ge : (pgG sp NL Pt E0 0).n 0 = 0 ∧ (pgG sp NL Pt E0 0).a 0 = 0 := pg_e
  have U : PUR (gNo sp NL Pt E0) := PUR_n
  refine PUW.of ⟨U, U.k, fun q hq => o_le_r, ⟨Nat.zero_le _, fun i hi => absurd hi (Nat.not_lt_zero _)⟩, Nat.zero_le _, ⟨U.c.1, fun x y hx => ?_⟩⟩
  have hx' : x < (pgG sp NL Pt E0 0).a 0 := hx
  rw [ge.2] at hx'
  exact absurd hx' (Nat.not_lt_zero _)
theorem INV_0 {R : Nat → Prop} {x8 x9 x2 : Int32} {P V W : Nat → Int32} (S : SDs R h) (C : ICl h (0, fun _ => 0) (false, x8, x9, x2) (gNo sp NL Pt E0) (fun _ => some A00) (0, P) (0, 0, 0, 0, V, W) []) (F : IRf h (0, fun _ => 0) (false, x8, x9, x2) (gNo sp NL Pt E0) (fun _ => some A00) (0, P) (0, 0, 0, 0, V, W) []) (m : RMz 0 0 h) : INV R 0 h (0, fun _ => 0) (false, x8, x9, x2) (gNo sp NL Pt E0) (fun _ => some A00) (0, P) (0, 0, 0, 0, V, W) [] := INV.of ⟨S, C, F, PUW_0, m, Nat.zero_le _⟩
end SFs
def sp00 : Nat → Nat → Bool := fun _ _ => false
def Pt00 : Nat → lpt := fun _ => (0, .leaf (), [], (0, 0, 0, none, none, fun _ => 0, fun _ => 0, fun _ => 0), 0, 0, 0, 0, 0, 0)
def Ev00 : nv := (0, fun _ => False, fun _ => 0, 0, 0, fun _ => 0, 0, none)
theorem s_E : mh_s mp_hE = 1006085 := mp_s
theorem p2639 : mh_i mp_hE 2639 = mh_i mp_hE 68 := iE_E.2.trans z68.symm
theorem IRf_E : IRf mp_hE (0, fun _ => 0) (false, mh_i mp_hE 0 8, mh_i mp_hE 0 9, mh_i mp_hE 53 2) (gNo sp00 [] Pt00 Ev00) (fun _ => some A00) (0, mh_i mp_hE 68) (0, 0, 0, 0, mh_i mp_hE 2640, mh_i mp_hE 2641) [] := IRf_0 RB_E xE.2 iE_E.1.1 iE_E.1.2.1 iE_E.1.2.2.1 iE_E.1.2.2.2.1 iE_E.1.2.2.2.2 p2639
theorem INV_E : INV (fun b => 81 ≤ b ∧ b < 2644) 0 mp_hE (0, fun _ => 0) (false, mh_i mp_hE 0 8, mh_i mp_hE 0 9, mh_i mp_hE 53 2) (gNo sp00 [] Pt00 Ev00) (fun _ => some A00) (0, mh_i mp_hE 68) (0, 0, 0, 0, mh_i mp_hE 2640, mh_i mp_hE 2641) [] := INV_0 SD_E ICl_E IRf_E (RM_0 en_E s_E e_c1.2.1 e_c3.2.2.2.1.2.2)
/-- the law's loop, from any such heap on -/
theorem lx_all {h : mh_H} {R : Nat → Prop} {L : Nat} {xs : Nat → Int32} (hL : L ≤ 4096) {fd : Nat × (Nat → Int32)} {td : Bool × Int32 × Int32 × Int32} {g : pgz} {cl : Nat → Option ab} {ip : Nat × (Nat → Int32)} {rz : rnz} {T : List Int32} (I : INV R 0 h fd td g cl ip rz T) : lw L xs 2047 lq 18 mp_ls [] h := ll_all hL (L / 8) 0 (Nat.zero_add _) R h fd td g cl ip rz T I
theorem ml_all (L : Nat) (xs : Nat → Int32) (hL : L ≤ 4096) : ml_ends L xs := lq_ends (mp_fresh (lx_all hL INV_E))
