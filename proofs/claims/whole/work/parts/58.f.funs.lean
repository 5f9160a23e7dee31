set_option maxRecDepth 100000
/-! functions, as the reference knows them: RLC -/
section RCs
variable {h : mh_H} {K : Nat → Int32} {m n : Nat} {Bt : Nat → Int32} {P U : Nat → Nat} {sp : Nat → Nat → Bool} {Sc : cps} {T : tr} {N g k : Nat} {NL : List Nat} {nm : Nat → Nat} {KN : Nat → Prop} {o : Int32} {H H' : Nat → Int32}
theorem trR_C : ∀ r u k, trR h nm (tC r u) k o → trR h nm r k o ∧ trR h nm u (k + ts r) o := by
  intro r
  induction r with
  | leaf x => exact fun u k w => ⟨trivial, w⟩
  | branch a cs r _ ih =>
    intro u k w
    obtain ⟨w1, w2, w3⟩ := w
    obtain ⟨i1, i2⟩ := ih u _ w3
    refine ⟨⟨w1, w2, i1⟩, ?_⟩
    rw [ts_B, show k + (1 + ts cs + ts r) = k + 1 + ts cs + ts r from by omega]
    exact i2
theorem poZ_k : ∀ T k g, k ≤ poZ T k g := by
  intro T
  induction T with
  | leaf x => exact fun k g => Nat.le_refl _
  | branch a cs r _ ih =>
    intro k g
    cases g with
    | zero => exact Nat.le_refl _
    | succ g => exact Nat.le_trans (by omega) (ih (k + 1 + ts cs) g)
theorem trR_at : ∀ T k, trR h nm T k o → ∀ g, g < tlc T → (∃ n, trR h nm (.branch n (fnA T g) (.leaf ())) (poZ T k g) o) ∧ poZ T k g + 1 + ts (fnA T g) ≤ k + ts T ∧ (poZ T k g + 1 + ts (fnA T g) = k + ts T ↔ g + 1 = tlc T) := by
  intro T
  induction T with
  | leaf x => exact fun k _ g hg => absurd hg (Nat.not_lt_zero _)
  | branch a cs r _ ih =>
    intro k w g hg
    obtain ⟨w1, w2, w3⟩ := w
    have et : tlc (.branch a cs r) = tlc r + 1 := rfl
    rw [et] at hg ⊢
    rw [ts_B]
    cases g with
    | zero =>
      refine ⟨⟨a, w1, w2, trivial⟩, ?_, ?_⟩
      · show k + 1 + ts cs ≤ _
        omega
      · show k + 1 + ts cs = _ ↔ _
        cases r with
        | leaf x => exact ⟨fun _ => rfl, fun _ => by show k + 1 + ts cs = k + (1 + ts cs + 0); omega⟩
        | branch a' cs' r' => exact ⟨fun z => by rw [ts_B] at z; omega, fun z => by have : tlc (.branch a' cs' r') = tlc r' + 1 := rfl; omega⟩
    | succ g =>
      obtain ⟨i1, i2, i3⟩ := ih (k + 1 + ts cs) w3 g (by omega)
      refine ⟨i1, ?_, ?_⟩
      · show poZ r (k + 1 + ts cs) g + 1 + ts (fnA r g) ≤ _
        omega
      · show poZ r (k + 1 + ts cs) g + 1 + ts (fnA r g) = _ ↔ _
        rw [show k + (1 + ts cs + ts r) = k + 1 + ts cs + ts r from by omega, i3]
        omega
theorem pm_R : ∀ r i k, pmT K P r i → trR h nm r k o → ts r = tlc r ∧ ∀ j, j < tlc r → mh_i h 93 (k + j) = 13 := by
  intro r
  induction r with
  | leaf x => exact fun i k _ _ => ⟨rfl, fun j hj => absurd hj (Nat.not_lt_zero _)⟩
  | branch a cs r _ ih =>
    intro i k p w
    obtain ⟨⟨p1, p2, p3, p4, p5⟩, p6⟩ := p
    subst p3
    obtain ⟨⟨w1, -⟩, w2, w3⟩ := w
    obtain ⟨i1, i2⟩ := ih _ _ p6 w3
    have et : tlc (.branch a (.leaf ()) r) = tlc r + 1 := rfl
    rw [et, ts_B]
    refine ⟨by show 1 + 0 + ts r = _; omega, fun j hj => ?_⟩
    cases j with
    | zero => rw [Nat.add_zero, w1, p1]; rfl
    | succ j =>
      have := i2 j (by omega)
      rw [show k + 1 + ts (Lean.RArray.leaf () : tr) + j = k + (j + 1) from by show k + 1 + 0 + j = _; omega] at this
      exact this
theorem pr_R {fk : Nat} (hz : ∀ i, K i = 2 → i < 100000) : ∀ r i k L, pmT K P r i → trR h nm r k o → nmK KN r → k = fk + 2 + L.length → prR h nm KN P fk L → prR h nm KN P fk (prL r L) := by
  intro r
  induction r with
  | leaf x => exact fun i k L _ _ _ _ w => w
  | branch a cs r _ ih =>
    intro i k L p w nk hk q
    obtain ⟨⟨p1, p2, p3, p4, p5⟩, p6⟩ := p
    subst p3
    obtain ⟨⟨w1, w2, w3, w4, w5, w6⟩, -, w7⟩ := w
    obtain ⟨n1, -, n3⟩ := nk
    have ta : (tV a).toNat = i := by rw [p2]; exact Int.toNat_natCast i
    have e : prL (.branch a (.leaf ()) r) L = prL r (((tV a).toNat, 0) :: L) := rfl
    rw [e, ta]
    refine ih (i + 2) _ ((i, 0) :: L) p6 w7 n3 (by show k + 1 + 0 = fk + 2 + (L.length + 1); omega) ⟨⟨rfl, ?_, ?_, ?_, hz i p4⟩, q⟩
    · have := n1 p1
      rw [ta] at this
      exact this
    · have := w3 p1
      rw [ta, hk] at this
      exact this
    · rw [p5, hk] at w2
      exact w2
theorem knT_K : ∀ t, knT sp NL t → nmK (fun a => nix sp NL a < NL.length) t := by
  intro t
  induction t with
  | leaf x => exact fun _ => trivial
  | branch a cs r ih1 ih2 => exact fun w => ⟨w.1, ih1 w.2.1, ih2 w.2.2⟩
theorem nmK_C : ∀ r u, nmK KN (tC r u) → nmK KN r ∧ nmK KN u := by
  intro r
  induction r with
  | leaf x => exact fun u w => ⟨trivial, w⟩
  | branch a cs r _ ih => exact fun u w => ⟨⟨w.1, w.2.1, (ih u w.2.2).1⟩, (ih u w.2.2).2⟩
theorem fnS_of : ∀ T, fgZ K P T → fnS T := by
  intro T
  induction T with
  | leaf x => exact fun _ => trivial
  | branch n cs r _ ih =>
    intro w
    obtain ⟨⟨a, r', b0, bs, i, ec, ka, -⟩, w2⟩ := w
    exact ⟨⟨a, _, _, ec, ka⟩, ih w2⟩
theorem lsI_p : ∀ T k, 0 < tlc T → lsI T k = some (poZ T k (tlc T - 1)) := by
  intro T
  induction T with
  | leaf x => exact fun k hk => absurd hk (Nat.lt_irrefl _)
  | branch a cs r _ ih =>
    intro k _
    have e : lsI (.branch a cs r) k = if ts r = 0 then some k else lsI r (k + 1 + ts cs) := rfl
    have et : tlc (.branch a cs r) = tlc r + 1 := rfl
    rw [e, et, Nat.add_sub_cancel]
    cases r with
    | leaf x => rfl
    | branch a' cs' r' =>
      rw [if_neg (by rw [ts_B]; omega), ih _ (Nat.succ_pos _)]
      rfl
theorem fsq_c {p q : Nat → Bool} {g0 : Nat} : ∀ c, (∀ g, g0 ≤ g → g < g0 + c → p g = q g) → fsq p g0 c = fsq q g0 c := by
  intro c
  induction c with
  | zero => exact fun _ => rfl
  | succ c ih =>
    intro w
    show (if p (g0 + c) = true then some (g0 + c) else fsq p g0 c) = (if q (g0 + c) = true then some (g0 + c) else fsq q g0 c)
    rw [w (g0 + c) (by omega) (by omega), ih (fun g h1 h2 => w g h1 (by omega))]
theorem fsq_r {p : Nat → Bool} : ∀ c, fsq p 0 c = fsr p c := by
  intro c
  induction c with
  | zero => rfl
  | succ c ih =>
    show (if p (0 + c) = true then some (0 + c) else fsq p 0 c) = (if p c = true then some c else fsr p c)
    rw [Nat.zero_add, ih]
theorem fnV_of : ∀ T g0, (∀ g, g < tlc T → (H (6 * (g0 + g))).toNatClampNeg = (tV (hd1 (fnA T g))).toNat) → fnV H T g0 := by
  intro T
  induction T with
  | leaf x => exact fun _ _ => trivial
  | branch n cs r _ ih =>
    intro g0 w
    refine ⟨w 0 (Nat.succ_pos _), ih (g0 + 1) (fun g hg => ?_)⟩
    have := w (g + 1) (Nat.succ_lt_succ hg)
    rw [show g0 + (g + 1) = g0 + 1 + g from by omega] at this
    exact this
/-- a name's number -/
theorem nix_w {a v : Nat} (ka : nix (spe Bt n P U) NL a < NL.length) : nix (spe Bt n P U) NL a = nix (spe Bt n P U) NL v ↔ spe Bt n P U a v = true := by
  by_cases kv : nix (spe Bt n P U) NL v < NL.length
  · exact nix_q ka kv
  · exact ⟨fun e => absurd (e ▸ ka) kv, fun e => nix_sp e NL⟩
theorem FNq_m {D : lyD} {fk cnt i x y : Nat} {cs bs : tr} {L : cen} (eFP : D.FP g = L) (eFT : D.FT g = bs) (eB : D.B g = fk + 2 + L.length) (eH : D.H = Sc.2 15) (eP : D.P = P) (es : D.sp = sp) (F : FPK K P sp Sc N L bs cs g i x y) (hy : y < 100000) (s5 : mh_i h 96 fk = Int32.ofNat 0) (s6 : mh_i h 97 fk = Int32.ofNat (1 + ts cs)) (s7 : trR h nm cs (fk + 1) (Int32.ofNat fk)) (hk : 1 ≤ fk) (t2 : fk + 1 + ts cs ≤ cnt) (t3 : fk + 1 + ts cs = cnt ↔ g + 1 = D.c) (knc : nmK KN cs) (tvb : tvT K m bs) (syb : syT bs) (hz : ∀ i, K i = 2 → i < 100000) : FNq h nm KN D K m cnt g fk := by
  obtain ⟨a, r, b0, ec, ka, ti, pm, kb0, eL, pa⟩ := F.c
  subst ec
  have f1 := F.h1
  have f2 := F.h2
  have f5 := F.h5
  obtain ⟨⟨y1, y2, y3, -⟩, -, y7⟩ := s7
  have y7' : trR h nm (tC r (tNd b0 bs)) (fk + 2) (Int32.ofNat fk) := y7
  obtain ⟨z1, z2⟩ := trR_C _ _ _ y7'
  obtain ⟨p1, p2⟩ := pm_R r _ _ pm z1
  have ll : L.length = tlc r := by
    have := (pm_z (K := K) (P := P) (i0 := i + 2) r (i + 2) [] pm rfl rfl rfl (fun j hj => absurd hj (Nat.not_lt_zero _)) (fun a z q => absurd q (by simp))).1.1
    rw [← eL] at this
    have l0 : ([] : cen).length = 0 := rfl
    omega
  rw [p1, ← ll] at z2
  obtain ⟨⟨b1, -, -, -, b5, b6⟩, b7, -⟩ := z2
  have tsc : ts (.branch a (.leaf ()) (tC r (tNd b0 bs))) = 2 + L.length + ts bs := by
    rw [ts_B, ts_C, p1, ts_N, ← ll]
    show 1 + 0 + _ = _
    omega
  rw [tsc] at t2 t3 s6
  obtain ⟨nk1, -, nk2⟩ := knc
  obtain ⟨nk3, nk4⟩ := nmK_C _ _ nk2
  refine FNq.of ⟨by rw [eB, eFP], fun j hj => ?_, ?_, ?_, ?_, ?_, ?_, ?_, ⟨?_, s5, by omega⟩, by rw [eFT]; exact tvb, ⟨by rw [eFT]; exact nk4.2.1, by rw [eFT]; exact syb⟩, ?_, ⟨by rw [eH, eFP]; exact f1, ?_, by rw [eH, eFP, es]; exact f2⟩⟩
  · rw [eFP] at hj
    cases j with
    | zero => rw [Nat.add_zero, y1, ka]; rfl
    | succ j =>
      have := p2 j (by omega)
      rw [show fk + 1 + (j + 1) = fk + 2 + j from by omega]
      exact this
  · rw [eB, b1, kb0]; rfl
  · rw [eB, eFT, s6, show fk + 2 + L.length + 1 + ts bs - fk = 1 + (2 + L.length + ts bs) from by omega]
  · rw [eB, eFT]; omega
  · rw [eB, eFT, ← t3]; omega
  · rw [eB, eFT]; exact b6
  · rw [eB, eFT]; exact b7
  · rw [eB]; exact b5
  · rw [eFP, eP, eL]
    exact pr_R hz r (i + 2) (fk + 2) [] pm z1 nk3 rfl trivial
  · rw [eH, eFT, f5]
    by_cases gv : gvT bs = true
    · rw [if_pos gv, gv]
      have e' : (Int32.ofNat (y - 1) = -1) = False := nn_m2 (by omega)
      exact ⟨fun z => absurd (e' ▸ z) (fun q => q), fun z => by cases z⟩
    · rw [if_neg gv]
      exact ⟨fun _ => by simpa using gv, fun _ => rfl⟩
theorem RLC_m {sp : Nat → Nat → Bool} (hsp : sp = spe Bt n P U) (nd1 : nd (mh_i h 93) (mh_i h 95) (mh_i h 97) 1 (rn sp NL T)) (pw1 : pw (mh_i h 96) (mh_i h 94) T 1 (Int32.ofNat 0)) (kn : knT sp NL T) (e24 : mh_i h 81 24 = Int32.ofNat (1 + ts T)) (Z : fnZ sp Sc N T 0 0 (Sc.1 9) (Sc.1 8)) (G : fgZ K P T) (tv : tvT K m T) (sy : syT T) (hz : ∀ i, K i = 2 → i < m) (hm : m ≤ 20000) (hT : 1 + ts T ≤ 25000) (h8 : Sc.1 8 < 20000) (hL : NL.length < 100000) (hc : 0 < Sc.1 9) : RLC h (fun a => nix sp NL a) (fun a => nix sp NL a < NL.length) (lyDs sp (Sc.2 15) P T (Sc.1 9)) K m (1 + ts T) (poZ T 1) T := by
  obtain ⟨⟨zc, -⟩, xs, ys, atz⟩ := fnZ_at T 0 0 _ _ Z
  rw [Nat.zero_add] at zc
  have pk : ∀ g, g < Sc.1 9 → ∃ i, FPK K P sp Sc N (prX (tT (fnA T g)) []) (blX (tT (fnA T g))) (fnA T g) g i (xs g) (ys g) := fun g hg => by
    obtain ⟨-, fnn, -⟩ := atz g (by omega)
    rw [Nat.zero_add] at fnn
    exact FP_of fnn (fgZ_at T G g (by omega))
  have tR := trR_of hL T 1 (Int32.ofNat 0) nd1 pw1
  have qq : ∀ a v, nix sp NL a < NL.length → (nix sp NL a = nix sp NL v ↔ sp a v = true) := fun a v ka => by
    subst hsp
    exact nix_w ka
  have knf : ∀ g, nmK (fun a => nix sp NL a < NL.length) (fnA T g) := fun g => knT_K _ (sub_fn (Φ := knT sp NL) (fun _ => trivial) (fun n cs r w => ⟨w.2.1, w.2.2⟩) T kn g)
  refine RLC.of ⟨fun v => Nat.lt_of_le_of_lt (nix_le NL) hL, qq, ⟨e24, hT⟩, ⟨tR, rfl, fnS_of T G⟩, fun g hg => ?_, fun fu v hfu hv kv => ?_⟩
  · have hg' : g < Sc.1 9 := hg
    obtain ⟨i, F⟩ := pk g hg'
    obtain ⟨⟨nn, t1⟩, t2, t3⟩ := trR_at T 1 tR g (by omega)
    obtain ⟨⟨-, -, -, -, s5, s6⟩, s7, -⟩ := t1
    have hk := poZ_k T 1 g
    have knc := knf g
    have tvb : tvT K m (blX (tT (fnA T g))) := sub_bl (Φ := tvT K m) (fun _ => trivial) (fun n cs r w => ⟨w.2.1, w.2.2⟩) T tv g
    have syb : syT (blX (tT (fnA T g))) := sub_bl (Φ := syT) (fun _ => trivial) (fun n cs r w => ⟨w.2.1, w.2.2⟩) T sy g
    obtain ⟨⟨x1, x2, x3⟩, -, -, -⟩ := atz g (by omega)
    exact FNq_m (D := lyDs sp (Sc.2 15) P T (Sc.1 9)) rfl rfl rfl rfl rfl rfl F (by omega) s5 s6 s7 hk t2 (by rw [t3]; show g + 1 = tlc T ↔ g + 1 = Sc.1 9; omega) knc tvb syb (fun i hi => by have := hz i hi; omega)
  · have hfu' : fu < Sc.1 9 := hfu
    have nmf : ∀ g, g < Sc.1 9 → (Sc.2 15 (6 * g)).toNatClampNeg = (tV (hd1 (fnA T g))).toNat ∧ nix sp NL (Sc.2 15 (6 * g)).toNatClampNeg < NL.length := fun g hg => by
      obtain ⟨i, F⟩ := pk g hg
      obtain ⟨a, r, b0, ec, ka, ti, pm, kb0, eL, pa⟩ := F.c
      have ki := hz i F.k
      have kk := knf g
      rw [ec] at kk ⊢
      have k1 := kk.1 ka
      rw [ti] at k1
      rw [F.h0, nn_clamp (by omega)]
      exact ⟨ti.symm, k1⟩
    have f0 := fnO_f (nm := fun a => nix sp NL a) (sp := sp) (H := fun x => if x < 6 * Sc.1 9 then Sc.2 15 x else Sc.2 15 0) (v := v) T 1 0 fu (-1) (fnV_of T 0 (fun g hg => by
      rw [Nat.zero_add]
      show (if 6 * g < 6 * Sc.1 9 then Sc.2 15 (6 * g) else Sc.2 15 0).toNatClampNeg = _
      rw [if_pos (by omega)]
      exact (nmf g (by omega)).1)) (fun g => by
      show nix sp NL (if 6 * g < 6 * Sc.1 9 then Sc.2 15 (6 * g) else Sc.2 15 0).toNatClampNeg = _ ↔ sp (if 6 * g < 6 * Sc.1 9 then Sc.2 15 (6 * g) else Sc.2 15 0).toNatClampNeg v = true
      by_cases c : 6 * g < 6 * Sc.1 9
      · rw [if_pos c]
        exact qq _ _ (nmf g (by omega)).2
      · rw [if_neg c]
        exact qq _ _ (nmf 0 hc).2)
    rw [show min fu (tlc T) = fu from by omega, fsq_c (q := fun g => sp (Sc.2 15 (6 * g)).toNatClampNeg v) fu (fun g _ h2 => by
      show sp (if 6 * g < 6 * Sc.1 9 then Sc.2 15 (6 * g) else Sc.2 15 0).toNatClampNeg v = _
      rw [if_pos (by omega)]), fsq_r] at f0
    show fnO (fun a => nix sp NL a) v (poZ T 1 fu) T 1 (-1) = match fsr (fun f => sp (Sc.2 15 (6 * f)).toNatClampNeg v) fu with | some y => Int32.ofNat (poZ T 1 y) | none => -1
    rw [f0]
    cases fsr (fun f => sp (Sc.2 15 (6 * f)).toNatClampNeg v) fu <;> rfl
end RCs
