set_option maxRecDepth 100000
/-! THE CLASS'S STATES BY THEIR PLACES -/
/-- at that place a State is held that stands for v -/
def pv (h : mh_H) (b j : Nat) (v : Option ab) : Prop := ∃ o, mh_r h b j = some o ∧ RS h o v
def eff (b : Nat) : Prop := b = 34 ∨ b = 35 ∨ b = 38 ∨ b = 41 ∨ b = 51
/-- a step: places in V may hold others, ints in U may change; Effect's own cells may -/
def zS (V U : Nat → Nat → Prop) (h h1 : mh_H) : Prop := (mh_n h ≤ mh_n h1) ∧ (∀ b, b < mh_n h → mh_k h1 b = mh_k h b ∧ mh_l h1 b = mh_l h b) ∧ (cN h1 ≤ cN h) ∧ (cS h1 ≤ cS h) ∧ (∀ b c j, mg h b c → c ≠ 8 → c ≠ 101 → ¬ eff b → ¬ U b j → mh_i h1 b j = mh_i h b j) ∧ (∀ b c j, mg h b c → c ≠ 8 → c ≠ 101 → ¬ eff b → ¬ isPl b j → mh_r h1 b j = mh_r h b j) ∧ (∀ b j v, isPl b j → ¬ V b j → pv h b j v → pv h1 b j v) ∧ (∀ b j, isPl b j → b ≠ 51 → mh_r h b j ≠ none → mh_r h1 b j ≠ none) ∧ (∀ b j, isPl b j → ¬ V b j → mh_r h b j = none → mh_r h1 b j = none)
theorem zS.of {V U : Nat → Nat → Prop} {h h1 : mh_H} (q : (mh_n h ≤ mh_n h1) ∧ (∀ b, b < mh_n h → mh_k h1 b = mh_k h b ∧ mh_l h1 b = mh_l h b) ∧ (cN h1 ≤ cN h) ∧ (cS h1 ≤ cS h) ∧ (∀ b c j, mg h b c → c ≠ 8 → c ≠ 101 → ¬ eff b → ¬ U b j → mh_i h1 b j = mh_i h b j) ∧ (∀ b c j, mg h b c → c ≠ 8 → c ≠ 101 → ¬ eff b → ¬ isPl b j → mh_r h1 b j = mh_r h b j) ∧ (∀ b j v, isPl b j → ¬ V b j → pv h b j v → pv h1 b j v) ∧ (∀ b j, isPl b j → b ≠ 51 → mh_r h b j ≠ none → mh_r h1 b j ≠ none) ∧ (∀ b j, isPl b j → ¬ V b j → mh_r h b j = none → mh_r h1 b j = none)) : zS V U h h1 := q
theorem zS.nn {V U : Nat → Nat → Prop} {h h1 : mh_H} (q : zS V U h h1) : mh_n h ≤ mh_n h1 := q.1
theorem zS.kk {V U : Nat → Nat → Prop} {h h1 : mh_H} (q : zS V U h h1) : ∀ b, b < mh_n h → mh_k h1 b = mh_k h b ∧ mh_l h1 b = mh_l h b := q.2.1
theorem zS.rN {V U : Nat → Nat → Prop} {h h1 : mh_H} (q : zS V U h h1) : cN h1 ≤ cN h := q.2.2.1
theorem zS.rS {V U : Nat → Nat → Prop} {h h1 : mh_H} (q : zS V U h h1) : cS h1 ≤ cS h := q.2.2.2.1
theorem zS.ii {V U : Nat → Nat → Prop} {h h1 : mh_H} (q : zS V U h h1) : ∀ b c j, mg h b c → c ≠ 8 → c ≠ 101 → ¬ eff b → ¬ U b j → mh_i h1 b j = mh_i h b j := q.2.2.2.2.1
theorem zS.rr {V U : Nat → Nat → Prop} {h h1 : mh_H} (q : zS V U h h1) : ∀ b c j, mg h b c → c ≠ 8 → c ≠ 101 → ¬ eff b → ¬ isPl b j → mh_r h1 b j = mh_r h b j := q.2.2.2.2.2.1
theorem zS.pp {V U : Nat → Nat → Prop} {h h1 : mh_H} (q : zS V U h h1) : ∀ b j v, isPl b j → ¬ V b j → pv h b j v → pv h1 b j v := q.2.2.2.2.2.2.1
theorem zS.pn {V U : Nat → Nat → Prop} {h h1 : mh_H} (q : zS V U h h1) : ∀ b j, isPl b j → b ≠ 51 → mh_r h b j ≠ none → mh_r h1 b j ≠ none := q.2.2.2.2.2.2.2.1
theorem zS.pz {V U : Nat → Nat → Prop} {h h1 : mh_H} (q : zS V U h h1) : ∀ b j, isPl b j → ¬ V b j → mh_r h b j = none → mh_r h1 b j = none := q.2.2.2.2.2.2.2.2
section ASs
variable {V U V' U' : Nat → Nat → Prop} {h h1 h2 : mh_H} {Y C E TT UU SC SP nC nE nS : Nat}
theorem zS_g (x : zS V U h h1) {b c : Nat} (g : mg h b c) : mg h1 b c := ⟨by rw [(x.kk b g.2).1]; exact g.1, Nat.lt_of_lt_of_le g.2 x.nn⟩
theorem zS_l (x : zS V U h h1) {b c : Nat} (g : mg h b c) : mh_l h1 b = mh_l h b := (x.kk b g.2).2
theorem zS_id : zS V U h h := zS.of ⟨Nat.le_refl _, fun _ _ => ⟨rfl, rfl⟩, Int.le_refl _, Int.le_refl _, fun _ _ _ _ _ _ _ _ => rfl, fun _ _ _ _ _ _ _ _ => rfl, fun _ _ _ _ _ q => q, fun _ _ _ _ q => q, fun _ _ _ _ q => q⟩
theorem zS_t (x : zS V U h h1) (y : zS V U h1 h2) : zS V U h h2 := zS.of ⟨Nat.le_trans x.nn y.nn, fun b hb => ⟨((y.kk b (Nat.lt_of_lt_of_le hb x.nn)).1).trans (x.kk b hb).1, ((y.kk b (Nat.lt_of_lt_of_le hb x.nn)).2).trans (x.kk b hb).2⟩, Int.le_trans y.rN x.rN, Int.le_trans y.rS x.rS, fun b c j g c8 c1 e u => (y.ii b c j (zS_g x g) c8 c1 e u).trans (x.ii b c j g c8 c1 e u), fun b c j g c8 c1 e u => (y.rr b c j (zS_g x g) c8 c1 e u).trans (x.rr b c j g c8 c1 e u), fun b j v p w q => y.pp b j v p w (x.pp b j v p w q), fun b j p n q => y.pn b j p n (x.pn b j p n q), fun b j p w q => y.pz b j p w (x.pz b j p w q)⟩
theorem zS_w (x : zS V U h h1) (hV : ∀ b j, V b j → V' b j) (hU : ∀ b j, U b j → U' b j) : zS V' U' h h1 := zS.of ⟨x.nn, x.kk, x.rN, x.rS, fun b c j g c8 c1 e u => x.ii b c j g c8 c1 e (fun w => u (hU b j w)), x.rr, fun b j v p w q => x.pp b j v p (fun z => w (hV b j z)) q, x.pn, fun b j p w q => x.pz b j p (fun z => w (hV b j z)) q⟩
/-- an operation on the State at a place -/
theorem zS_q (B : BS h Y C E TT UU SC SP nC nE nS) {b j o : Nat} (hp : isPl b j) (e : mh_r h b j = some o) (f : fq (sW o 52) h h1) : zS (fun b' j' => b' = b ∧ j' = j) (fun _ _ => False) h h1 ∧ BS h1 Y C E TT UU SC SP nC nE nS := by
  have co : cs h o := ⟨b, j, hp, e⟩
  have so' := (cs_so B.S co).1
  have r52 : rw_ok h 52 := ⟨B.F.g 52 101 48 (by decide +kernel), B.F.l 52 101 48 (by decide +kernel)⟩
  have c52 := r52.k.1
  have x := fG_fq f
  have kY := so_k so' B.q.gY (by omega) (by omega)
  have nY := B.q.n Y (by simp)
  obtain ⟨q1, q2⟩ := c_same f.2.2.2.1 f.2.2.2.2.1 f.2.2.1 f.2.1 (fun Z hZ => by
    rw [B.y] at hZ
    cases hZ
    exact (f.2.2.2.2.2 Y (by unfold sW; omega)).1 5)
  refine ⟨zS.of ⟨Nat.le_of_eq f.2.2.2.1.symm, fun b' _ => ⟨by rw [f.1], by rw [f.2.1]⟩, Int.le_of_eq q1, Int.le_of_eq q2, fun b' c j' g c8 c1 _ _ => ?_, fun b' c j' _ _ _ _ _ => by rw [f.2.2.1], fun b' j' v hp' w ⟨o', e', k'⟩ => ⟨o', by rw [f.2.2.1]; exact e', ?_⟩, fun b' j' _ _ q => by rw [f.2.2.1]; exact q, fun b' j' _ _ q => by rw [f.2.2.1]; exact q⟩, BS_fG x B⟩
  · have k1 := so_k so' g c8 c1
    have n52 : b' ≠ 52 := fun z => by have a := g.1; rw [z] at a; omega
    exact (f.2.2.2.2.2 b' (by unfold sW; omega)).1 j'
  · exact RS_o f so' r52 (fun z => w (by
      rw [z] at e'
      exact B.S.i b' j' b j o hp' hp e' e)) k'
/-- ints of the analysis -/
theorem zS_i (B : BS h Y C E TT UU SC SP nC nE nS) {b k : Nat} {v : Int32} (hb : b = 53 ∨ b = 55 ∨ b = 59 ∨ b = 60 ∨ b = 65 ∨ b = 66) : zS (fun _ _ => False) (fun b' j' => b' = b ∧ j' = k) h (mh_si h b k v) ∧ BS (mh_si h b k v) Y C E TT UU SC SP nC nE nS := by
  have x : fG (fun b' j' => b' = b ∧ j' = k) h (mh_si h b k v) := fG_si ⟨rfl, rfl⟩
  have nY := B.q.n Y (by simp)
  obtain ⟨q1, q2⟩ := c_same (h := h) (h1 := mh_si h b k v) hn_si hs_si hr_si hl_si (fun Z hZ => by
    rw [B.y] at hZ
    cases hZ
    rw [hi_si, if_neg (by omega)])
  refine ⟨zS.of ⟨Nat.le_refl _, fun _ _ => ⟨rfl, rfl⟩, Int.le_of_eq q1, Int.le_of_eq q2, fun b' c j' _ _ _ _ u => by rw [hi_si, if_neg u], fun _ _ _ _ _ _ _ _ => rfl, fun b' j' w hp _ ⟨o, e, k'⟩ => ⟨o, e, RS_fz (fG_z x) (fun y hy j'' w' => ?_) k'⟩, fun _ _ _ _ q => q, fun _ _ _ _ q => q⟩, BS_fG x B⟩
  have a := (B.S.o b' j' o hp e).2
  unfold cAd at a
  omega
/-- a step of Effect -/
theorem zS_e (B : BS h Y C E TT UU SC SP nC nE nS) (x : sE h h1) (B1 : BS h1 Y C E TT UU SC SP nC nE nS) : zS (fun b _ => b = 34 ∨ b = 51) (fun _ _ => False) h h1 := by
  have keep : ∀ b j, isPl b j → ¬ (b = 34 ∨ b = 51) → mh_r h1 b j = mh_r h b j := fun b j hp w => by
    have hb : b = 53 ∨ b = 54 ∨ b = 61 ∨ b = 62 ∨ b = 63 ∨ b = 64 ∨ b = 73 := by unfold isPl at hp; omega
    rcases hb with e | e | e | e | e | e | e <;> subst e
    · exact (sE_i B x (B.F.g 53 0 17 (by decide +kernel)) (by omega) (by omega) (by omega) j).2
    · exact (sE_i B x (B.F.g 54 104 250 (by decide +kernel)) (by omega) (by omega) (by omega) j).2
    · exact (sE_i B x (B.F.g 61 104 250 (by decide +kernel)) (by omega) (by omega) (by omega) j).2
    · exact (sE_i B x (B.F.g 62 104 250 (by decide +kernel)) (by omega) (by omega) (by omega) j).2
    · exact (sE_i B x (B.F.g 63 104 250 (by decide +kernel)) (by omega) (by omega) (by omega) j).2
    · exact (sE_i B x (B.F.g 64 104 250 (by decide +kernel)) (by omega) (by omega) (by omega) j).2
    · exact (sE_i B x (B.F.g 73 104 250 (by decide +kernel)) (by omega) (by omega) (by omega) j).2
  refine zS.of ⟨x.1.1.1, x.1.1.2.1, x.1.2.1, x.1.2.2, fun b c j g c8 c1 e _ => (sE_i B x g c8 c1 e j).1, fun b c j g c8 c1 e _ => (sE_i B x g c8 c1 e j).2, fun b j v hp w ⟨o, e, k⟩ => ⟨o, by rw [keep b j hp w]; exact e, sE_k B x ⟨b, j, hp, e⟩ (fun m => w ?_) k⟩, fun b j hp n51 q => ?_, fun b j hp w q => by rw [keep b j hp w]; exact q⟩
  · rcases m with m | m | m | ⟨i, -, m⟩
    · exact Or.inl (B.S.i b j 34 2 o hp (Or.inl ⟨rfl, by omega⟩) e m).1
    · exact Or.inl (B.S.i b j 34 3 o hp (Or.inl ⟨rfl, by omega⟩) e m).1
    · exact Or.inl (B.S.i b j 34 4 o hp (Or.inl ⟨rfl, by omega⟩) e m).1
    · exact Or.inr (B.S.i b j 51 i o hp (Or.inr (Or.inl rfl)) e m).1
  · by_cases w : b = 34
    · subst w
      obtain ⟨Ho, Fa, Be, r2, r3, r4⟩ := B1.o
      have hj : j = 2 ∨ j = 3 ∨ j = 4 := by unfold isPl at hp; omega
      rcases hj with e | e | e <;> subst e
      · rw [r2]; exact fun z => by cases z
      · rw [r3]; exact fun z => by cases z
      · rw [r4]; exact fun z => by cases z
    · rw [keep b j hp (by omega)]; exact q
end ASs
