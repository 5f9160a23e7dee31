set_option maxRecDepth 100000
/-! what stays of a program where ints of the desk, of the machine and of rows of bytes change too -/
def aX (h : mh_H) (b : Nat) : Prop := aI b ∨ b = 0 ∨ (67 ≤ b ∧ b ≤ 72) ∨ mh_k h b = 102
section AXs
variable {V U : Nat → Nat → Prop} {d : Nat} {h h1 : mh_H} {Y C E TT UU SC SP nC nE nS : Nat} {G : pgm} {cnt k p q : Nat}
theorem st_neX (B : BS h Y C E TT UU SC SP nC nE nS) {St : Nat} (g : mg h St 9) : ¬ eff St ∧ ¬ aX h St := by
  have F := B.F
  obtain ⟨w1, w2⟩ := st_ne B g
  refine ⟨w1, ?_⟩
  have a6 := g.1
  have c0 := (F.g 0 11 15 (by decide +kernel)).1
  have b1 := (F.g 67 2 13 (by decide +kernel)).1
  have b2 := (F.g 68 100 1000 (by decide +kernel)).1
  have b3 := (F.g 69 100 12 (by decide +kernel)).1
  have b4 := (F.g 70 100 384 (by decide +kernel)).1
  have b5 := (F.g 71 100 6 (by decide +kernel)).1
  have b6 := (F.g 72 100 124 (by decide +kernel)).1
  rintro (e | e | e | e)
  · exact w2 e
  · rw [e] at a6; omega
  · have e' : St = 67 ∨ St = 68 ∨ St = 69 ∨ St = 70 ∨ St = 71 ∨ St = 72 := by omega
    rcases e' with e | e | e | e | e | e <;> (rw [e] at a6; omega)
  · omega
theorem PH_sX (B : BS h Y C E TT UU SC SP nC nE nS) (x : zS V U h h1) (hU : ∀ b j, U b j → aX h b) (H : PH h G cnt) : PH h1 G cnt := by
  have F := B.F
  have g2 := F.g 2 4 20 (by decide +kernel)
  have g20 := F.g 20 105 250 (by decide +kernel)
  have i1 : ∀ b c j, mg h b c → c ≠ 8 → c ≠ 101 → ¬ eff b → ¬ aX h b → mh_i h1 b j = mh_i h b j := fun b c j g c8 c1 e a => x.ii b c j g c8 c1 e (fun u => a (hU b j u))
  have ir : ∀ b j, mg h b 100 → 20 ≤ b → b ≤ 26 → mh_i h1 b j = mh_i h b j := fun b j g h1' h2' => i1 b 100 j g (by omega) (by omega) (by unfold eff; omega) (by have := g.1; unfold aX aI; omega)
  have g21 := F.g 21 100 250 (by decide +kernel)
  have g22 := F.g 22 100 250 (by decide +kernel)
  have g25 := F.g 25 100 250 (by decide +kernel)
  have g26 := F.g 26 100 250 (by decide +kernel)
  refine ⟨?_, H.b, fun p hp => ?_, H.k, fun p hp k5 => ?_, fun p hp k4 k6 => ?_⟩
  · rw [i1 2 4 2 g2 (by omega) (by omega) (by unfold eff; omega) (by have := g2.1; unfold aX aI; omega)]; exact H.c
  · obtain ⟨St, nb, nm, na, nx, q1, q2, q3, q4, q5, q6, q7, q8, q9⟩ := H.s p hp
    obtain ⟨w1, w2⟩ := st_neX B q2
    have iS : ∀ j, mh_i h1 St j = mh_i h St j := fun j => i1 St 9 j q2 (by omega) (by omega) w1 w2
    exact ⟨St, nb, nm, na, nx, by rw [x.rr 20 105 p g20 (by omega) (by omega) (by unfold eff; omega) (by unfold isPl; omega)]; exact q1, zS_g x q2, by rw [iS]; exact q3, by rw [ir 21 p g21 (by omega) (by omega)]; exact q4, by rw [iS]; exact q5, q6, by rw [ir 22 p g22 (by omega) (by omega)]; exact q7, by rw [iS]; exact q8, q9⟩
  · rw [ir 25 p g25 (by omega) (by omega)]; exact H.m p hp k5
  · rw [ir 26 p g26 (by omega) (by omega)]; exact H.e p hp k4 k6
end AXs
section ICXs
variable {V U : Nat → Nat → Prop} {d : Nat} {h h1 : mh_H} {Y C E TT UU SC SP nC nE nS pa p St nb na nm n a : Nat} {rm : Nat → Nat} {sN : Int → Prop} {en : Int → Nat} {c : Nat} {t : tr} {x sz : Nat} {tk : Option Nat} {A : ab}
theorem z_srcX (B : BS h Y C E TT UU SC SP nC nE nS) (z : zS V U h h1) (hU : ∀ b j, U b j → aX h b) {b : Nat} (g : mg h b 100) (hb : (9 ≤ b ∧ b ≤ 19) ∨ 2644 ≤ b) : mh_i h1 b = mh_i h b := funext fun j => z.ii b 100 j g (by decide) (by decide) (by unfold eff; omega) (fun u => by have := hU b j u; have := g.1; unfold aX aI at *; omega)
theorem SU_zX (B : BS h Y C E TT UU SC SP nC nE nS) (z : zS V U h h1) (hU : ∀ b j, U b j → aX h b) {lQ : Nat} {tu : Bool} {sum c0 p0 : Nat} (w : SU h C E TT UU SC SP nC nE nS lQ nb na sN en A t tu sum c0 p0) : SU h1 C E TT UU SC SP nC nE nS lQ nb na sN en A t tu sum c0 p0 := by
  have q := B.q
  have eC := z_srcX B z hU q.gC (q.n C (by simp))
  have eE := z_srcX B z hU q.gE (q.n E (by simp))
  have eT := z_srcX B z hU q.gT (q.n TT (by simp))
  have eU := z_srcX B z hU q.gU (q.n UU (by simp))
  have e6 := z_srcX B z hU q.g6 (q.n SC (by simp))
  have e7 := z_srcX B z hU q.g7 (q.n SP (by simp))
  exact ⟨w.s, by rw [e6]; exact w.c0, by rw [e6]; exact w.c1, by rw [e7]; exact w.p0, by rw [e7]; exact w.p1, by rw [eC]; exact w.c, w.w, w.z, w.m, by rw [eE]; exact w.e, by rw [eT, eU]; exact w.u, w.b1, w.b3, w.b4, w.b6⟩
theorem suA_zX (B : BS h Y C E TT UU SC SP nC nE nS) (z : zS V U h h1) (hU : ∀ b j, U b j → aX h b) {sum : Nat} (w : suA h C E TT UU SC SP nC nE nS pa nb na sN en n a rm t sum) : suA h1 C E TT UU SC SP nC nE nS pa nb na sN en n a rm t sum := by
  obtain ⟨c0, p0, w⟩ := w
  exact ⟨c0, p0, fun A e1 e2 e3 => SU_zX B z hU (w A e1 e2 e3)⟩
theorem suR_zX (B : BS h Y C E TT UU SC SP nC nE nS) (z : zS V U h h1) (hU : ∀ b j, U b j → aX h b) : ∀ t sum, suR h C E TT UU SC SP nC nE nS pa nb na sN en n a rm t sum → suR h1 C E TT UU SC SP nC nE nS pa nb na sN en n a rm t sum := by
  intro t
  induction t with
  | leaf _ => exact fun _ _ => trivial
  | branch m cs r _ ih => exact fun sum w => ⟨suA_zX B z hU w.1, ih (sum + 1) w.2⟩
theorem tkF_zX (B : BS h Y C E TT UU SC SP nC nE nS) (z : zS V U h h1) (hU : ∀ b j, U b j → aX h b) (w : tkF h p tk) : tkF h1 p tk := by
  have F := B.F
  have g23 := F.g 23 100 250 (by decide +kernel)
  have g20 := F.g 20 105 250 (by decide +kernel)
  have g21 := F.g 21 100 250 (by decide +kernel)
  have ir : ∀ b j, mg h b 100 → 20 ≤ b → b ≤ 26 → mh_i h1 b j = mh_i h b j := fun b j g h1' h2' => z.ii b 100 j g (by decide) (by decide) (by unfold eff; omega) (fun u => by have := hU b j u; have := g.1; unfold aX aI at *; omega)
  rcases w with ⟨w1, w2⟩ | ⟨q, Sq, hq, w1, w2, w3, w⟩
  · exact Or.inl ⟨by rw [ir 23 p g23 (by omega) (by omega)]; exact w1, w2⟩
  · obtain ⟨n1, n2⟩ := st_neX B w3
    have e8 : mh_i h1 Sq 8 = mh_i h Sq 8 := z.ii Sq 9 8 w3 (by decide) (by decide) n1 (fun u => n2 (hU _ _ u))
    refine Or.inr ⟨q, Sq, hq, by rw [ir 23 p g23 (by omega) (by omega)]; exact w1, by rw [z.rr 20 105 q g20 (by decide) (by decide) (by unfold eff; omega) (by unfold isPl; omega)]; exact w2, zS_g z w3, ?_⟩
    rcases w with ⟨w4, w5⟩ | ⟨sl, nq, w4, w5, w6, w7⟩
    · exact Or.inl ⟨by rw [e8]; exact w4, w5⟩
    · exact Or.inr ⟨sl, nq, by rw [e8]; exact w4, w5, by rw [ir 21 q g21 (by omega) (by omega)]; exact w6, w7⟩
theorem PTC_zX (B : BS h Y C E TT UU SC SP nC nE nS) (z : zS V U h h1) (hU : ∀ b j, U b j → aX h b) (gS : mg h St 9) (w : PTC h Y C E TT UU SC SP nC nE nS pa p St nb na nm n a rm sN en c t x sz tk) : PTC h1 Y C E TT UU SC SP nC nE nS pa p St nb na nm n a rm sN en c t x sz tk := by
  obtain ⟨n1, n2⟩ := st_neX B gS
  have iS : ∀ j, mh_i h1 St j = mh_i h St j := fun j => z.ii St 9 j gS (by decide) (by decide) n1 (fun u => n2 (hU _ _ u))
  obtain ⟨W1, W2, W3, W4, W5, W6, W7, W9⟩ := w
  refine ⟨fun e => ?_, fun e => ?_, fun e => ?_, fun e => ?_, fun e => ?_, fun e => ?_, fun e => ?_, fun e => ?_⟩
  · obtain ⟨u1, u2, u3, su, sum, u4, u5, u6, u7, u8⟩ := W1 e
    exact ⟨u1, u2, by rw [iS]; exact u3, su, sum, by rw [iS]; exact u4, u5, u6, by rw [iS]; exact u7, suA_zX B z hU u8⟩
  · obtain ⟨u1, u2, u3⟩ := W2 e
    exact ⟨u1, by rw [iS]; exact u2, by rw [iS]; exact u3⟩
  · obtain ⟨u1, u2, u3⟩ := W3 e
    exact ⟨u1, by rw [iS]; exact u2, u3⟩
  · obtain ⟨u1, sl, sum, u2, u3, u4, u5⟩ := W4 e
    exact ⟨u1, sl, sum, u2, by rw [iS]; exact u3, by rw [iS]; exact u4, suA_zX B z hU u5⟩
  · obtain ⟨u1, sl, sum, zz, u2, u3, u4, u5, u6, u7, u8, u9, u10⟩ := W5 e
    exact ⟨u1, sl, sum, zz, u2, by rw [iS]; exact u3, by rw [iS]; exact u4, u5, u6, u7, by rw [iS]; exact u8, suA_zX B z hU u9, suA_zX B z hU u10⟩
  · obtain ⟨u1, su, sum, u2, u3, u4, u5, u6, u7⟩ := W6 e
    exact ⟨u1, su, sum, by rw [iS]; exact u2, u3, u4, u5, by rw [iS]; exact u6, suR_zX B z hU t sum u7⟩
  · obtain ⟨u1, k0, ce, KA, WA, nK, KK, WW, u2, u3, u4⟩ := W7 e
    have eK := z_srcX B z hU u3.gK (u3.n KA (by simp))
    have eW := z_srcX B z hU u3.gW (u3.n WA (by simp))
    have gY := B.q.gY
    have nY := B.q.n Y (by simp)
    have rY : ∀ j, mh_r h1 Y j = mh_r h Y j := fun j => z.rr Y 7 j gY (by decide) (by decide) (by unfold eff; omega) (by unfold isPl; omega)
    refine ⟨u1, k0, ce, KA, WA, nK, KK, WW, by rw [iS]; exact u2, ⟨zS_g z u3.g, by rw [iS]; exact u3.s, by rw [rY]; exact u3.r9, zS_g z u3.gK, by rw [zS_l z u3.gK]; exact u3.lK, by rw [rY]; exact u3.r10, zS_g z u3.gW, by rw [zS_l z u3.gW]; exact u3.lW, u3.n, u3.c, u3.b, by rw [eK]; exact u3.k, by rw [eW]; exact u3.w, Nat.le_trans u3.N z.nn, fun A t tu sum c0 p0 w => w⟩, fun A e1 e2 e3 => ⟨(u4 A e1 e2 e3).1, fun lP hl => (cq_mono (fun cs k w => ?_) t).1 _ _ _ _ ((u4 A e1 e2 e3).2 lP hl)⟩⟩
    obtain ⟨sum, c0, c1, p0, w1, w2⟩ := w
    exact ⟨sum, c0, c1, p0, w1, fun A' a1 a2 a3 => ⟨SU_zX B z hU (w2 A' a1 a2 a3).1, SU_zX B z hU (w2 A' a1 a2 a3).2⟩⟩
  · obtain ⟨u1, u2, sum, u3, u4⟩ := W9 e
    exact ⟨u1, tkF_zX B z hU u2, sum, by rw [iS]; exact u3, suA_zX B z hU u4⟩
end ICXs
section IDXs
variable {Y C E TT UU SC SP nC nE nS pa cnt : Nat} {G : pgm} {J : pin}
theorem IC_pX {h h1 : mh_H} {V U : Nat → Nat → Prop} (B : BS h Y C E TT UU SC SP nC nE nS) (z : zS V U h h1) (hU : ∀ b j, U b j → aX h b) (w : IC Y C E TT UU SC SP nC nE nS pa G J cnt h) : IC Y C E TT UU SC SP nC nE nS pa G J cnt h1 := by
  have F := B.F
  have nY := B.q.n Y (by simp)
  have g20 := F.g 20 105 250 (by decide +kernel)
  have g21 := F.g 21 100 250 (by decide +kernel)
  have g22 := F.g 22 100 250 (by decide +kernel)
  refine ⟨⟨by rw [z.ii Y 7 5 B.q.gY (by decide) (by decide) (by unfold eff; omega) (fun u => by have := hU _ _ u; have := B.q.gY.1; have := g21.1; have := g22.1; unfold aX aI at *; omega)]; exact w.1.1, w.1.2⟩, fun p hp => ?_⟩
  obtain ⟨St, nb, na, nm, q1, q2, q3, q4, q5, q6, q7⟩ := w.2 p hp
  obtain ⟨n1, n2⟩ := st_neX B q2
  exact ⟨St, nb, na, nm, by rw [z.rr 20 105 p g20 (by decide) (by decide) (by unfold eff; omega) (by unfold isPl; omega)]; exact q1, zS_g z q2, by rw [z.ii 21 100 p g21 (by decide) (by decide) (by unfold eff; omega) (fun u => by have := hU _ _ u; have := B.q.gY.1; have := g21.1; have := g22.1; unfold aX aI at *; omega)]; exact q3, by rw [z.ii 22 100 p g22 (by decide) (by decide) (by unfold eff; omega) (fun u => by have := hU _ _ u; have := B.q.gY.1; have := g21.1; have := g22.1; unfold aX aI at *; omega)]; exact q4, by rw [z.ii St 9 3 q2 (by decide) (by decide) n1 (fun u => n2 (hU _ _ u))]; exact q5, q6, PTC_zX B z hU q2 q7⟩
end IDXs
