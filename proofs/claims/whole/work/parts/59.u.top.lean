set_option maxRecDepth 100000
/-! each point of the program, in the reference's rows -/
section TRs
variable {h : mh_H} {sp : Nat → Nat → Bool} {NL : List Nat} {D : lyD} {Pt : Nat → lpt} {FK : Nat → Nat} {K : Nat → Int32} {T : tr} {m cnt f e : Nat} {KN : Nat → Prop}
theorem RHp_of (C : RLC h (fun a => nix sp NL a) KN D K m cnt FK T) (H : PGH sp NL D) (hc : 0 < D.c) (ly : LYR D Pt f true (D.FT (D.c - 1)) (D.B (D.c - 1) + 1) (D.B (D.c - 1)) (D.S (D.c - 1)) 0 e [] 0 (lyX0 D)) (he : e ≤ 249) (PZ : PTz h (fun a => nix sp NL a) Pt 0 e) (hN : NL.length < 100000) : RHp h sp NL K m Pt (E00 (pD sp NL D FK)) D cnt e := by
  have hM : D.c - 1 < D.c := by omega
  have FQ := C.f (D.c - 1) hM
  have u := FQ.u
  have P := PT_top (FK := FK) H hc ly he
  refine RHp.of ⟨⟨he, C.c.2⟩, H.s, H.q, hN, fun q hq => ?_, PZ, ow_top ly, fun q hq => LYR_bd ly (Nat.zero_le q) hq, P, fun q hq => ?_, fun q hq k11 => ?_, fun q hq => ?_⟩
  · exact LYR_nd C f true _ _ _ _ 0 e [] 0 (lyX0 D) ly hM FQ.t ⟨1 + ts (D.FT (D.c - 1)), FQ.s, by omega, by omega, by omega⟩ q (Nat.zero_le _) hq
  · exact LYR_sub (Φ := tvT K m) (fun n cs r w => ⟨w.2.1, w.2.2⟩) (fun g hg => (C.f g hg).v) f true _ _ _ _ 0 e [] 0 (lyX0 D) ly hM FQ.v q (Nat.zero_le _) hq
  · exact LYR_ret f true _ _ _ _ 0 e [] 0 (lyX0 D) ly (fun _ => Or.inl (show D.c - 1 + 1 = D.c by omega)) q (Nat.zero_le _) hq k11
  · obtain ⟨-, f', fb', r, b', y⟩ := LYR_at f true _ _ _ _ 0 e [] 0 (lyX0 D) ly q (Nat.zero_le _) hq
    exact ⟨f', r, b', fb', y⟩
end TRs
