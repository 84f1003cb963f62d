/-! ===== LAW: all of it ===== -/
section L93
variable {X : Nat × (Int → Int)} {d : Nat} {R : Nat → Nat → Option Nat} {I : Nat → Int → Int}
theorem m188 (hX : X.1 ≤ 2560) {bc bs : Nat} (hb : 100 ≤ bc ∧ 70000 ≤ bs) : WPM X (d + 10) 188 [.inr (some SCR)] ([], R, I) bc bs (fun r _ => r = .inl 1) := by
  show WP X (d + 10) 188 0 [.inr (some SCR), .inr none, .inr none, .inr none] [] ([], R, I) bc bs _
  refine w_new (pc' := 3) (q := 0) k188_0 rfl rfl ⟨by omega, by omega, by decide⟩ ?_
  refine w_dup (pc' := 4) k188_3 rfl ?_
  refine w_callM (pc' := 7) (as := [.inr (some 0)]) k188_4 rfl rfl (co_i (Or.inl rfl) rfl rfl) ⟨by omega, by omega⟩ (m68) (fun r_4 h_4 hq => ?_)
  obtain ⟨stE, sh1, R1, I1, rfl, rd, w2, g1⟩ := hq
  show WP X (d + 10) 188 7 [.inr (some SCR), .inr none, .inr none, .inr none] [.inr (some 0)] (sh1, R1, I1) _ _ _
  obtain rfl : sT6 = stE := (readR_fn 300 300 rdT rd).2 rfl (Int.le_refl _)
  have hL := g1.1
  refine w_astore (pc' := 8) (ls' := [_, _, _, _]) k188_7 rfl rfl rfl ?_
  refine w_new (pc' := 11) (q := 57) k188_8 rfl w2 ⟨by omega, by omega, by decide⟩ ?_
  refine w_dup (pc' := 12) k188_11 rfl ?_
  refine w_callM (pc' := 15) (as := [.inr (some 57)]) k188_12 rfl rfl (co_i (Or.inl rfl) rfl rfl) ⟨by omega, by omega⟩ (m114 w2 upA_s) (fun r_12 h_12 hq => ?_)
  obtain ⟨sh2, R2, I2, rfl, l2, x2, o2, g2⟩ := hq
  show WP X (d + 10) 188 15 [.inr (some SCR), .inr (some 0), .inr none, .inr none] [.inr (some 57)] (sh2, R2, I2) _ _ _
  have hR2 : ∀ a k, a < 53 → R2 a k = R1 a k := fun a k q => by rw [(o2 a (by omega)).1, upR_n (by omega)]
  have hG2 : CG sh2 R2 I2 4 2 8 16 20 32 1 (rotL ro0) (gaL ro0 ga0 53 1) 640 (layA sT6) (layA sT6) (layA sT6) 0 TXT 0 := g1.cells (hL.ext x2 hR2) x2 hR2 (fun a q1 q2 => by rw [(o2 a (by omega)).2, upA_n (by omega)]) (by omega)
  have hM := g2.1.1
  refine w_astore (pc' := 16) (ls' := [_, _, _, _]) k188_15 rfl rfl rfl ?_
  refine w_c1 (pc' := 17) k188_16 rfl ?_
  refine w_istore (pc' := 18) (ls' := [_, _, _, _]) k188_17 rfl rfl rfl ?_
  exact law_l hX 512 0 _ _ _ 4 2 8 16 20 32 1 _ _ _ (layA sT6, layA sT6, layA sT6, 0) TXT 0 _ _ ⟨hG2, g2, by decide, Or.inl ⟨rfl, l2, by omega, by omega⟩⟩ (by decide) (by omega)
end L93
