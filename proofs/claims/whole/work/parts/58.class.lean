/-! ===== CLASS: made and laid ===== -/
theorem readR_go {tx : Int → Int} {len : Int} {n : Nat} {st st' stE : PS} {p p' r : Int} (h1 : p < len) (hi : itemR tx len st p st' p') (h2 : readR tx len n st' p' r stE) : readR tx len (n + 1) st p r stE := Or.inr (Or.inr ⟨h1, st', p', hi, h2⟩)
def sT1 : PS := (fg TXT 67 (0 + 1), ps0.2)
def sT2 : PS := psF TXT 67 sT1 3
def sT3 : PS := psF TXT 67 sT2 18
def sT4 : PS := psF TXT 67 sT3 33
def sT5 : PS := psF TXT 67 sT4 48
def sT6 : PS := psX TXT 67 sT5 64
theorem iT1 : itemR TXT 67 ps0 0 sT1 3 := Or.inl ⟨by decide, ⟨by decide, by decide⟩, by decide, rfl, by decide⟩
theorem iT2 : itemR TXT 67 sT1 3 sT2 18 := Or.inr (Or.inl ⟨by decide, by decide, ⟨by decide, by decide, by decide, by decide, by decide, by decide, by decide⟩, by decide, rfl, by decide⟩)
theorem iT3 : itemR TXT 67 sT2 18 sT3 33 := Or.inr (Or.inl ⟨by decide, by decide, ⟨by decide, by decide, by decide, by decide, by decide, by decide, by decide⟩, by decide, rfl, by decide⟩)
theorem iT4 : itemR TXT 67 sT3 33 sT4 48 := Or.inr (Or.inl ⟨by decide, by decide, ⟨by decide, by decide, by decide, by decide, by decide, by decide, by decide⟩, by decide, rfl, by decide⟩)
theorem iT5 : itemR TXT 67 sT4 48 sT5 64 := Or.inr (Or.inl ⟨by decide, by decide, ⟨by decide, by decide, by decide, by decide, by decide, by decide, by decide⟩, by decide, rfl, by decide⟩)
theorem iT6 : itemR TXT 67 sT5 64 sT6 67 := Or.inr (Or.inr ⟨by decide, by decide, ⟨by decide, by decide, by decide⟩, by decide, rfl, by decide⟩)
theorem rdT : readR TXT 67 300 ps0 0 (-4) sT6 := readR_go (n := 299) (by decide) iT1 (readR_go (n := 298) (by decide) iT2 (readR_go (n := 297) (by decide) iT3 (readR_go (n := 296) (by decide) iT4 (readR_go (n := 295) (by decide) iT5 (readR_go (n := 294) (by decide) iT6 (Or.inl ⟨by decide, rfl, rfl⟩))))))
theorem rdT_x (v : Int) (stE : PS) (h : readR TXT 67 300 ps0 0 v stE) : v = -4 ∧ stE.1 = 4 := by
  have h1 := readR_fn 300 300 rdT h
  have h2 := h1.2 rfl (Int.le_refl _)
  exact ⟨h1.1.symm, by rw [← h2]; decide⟩
def ro0 (k : Nat) : Nat := 25 + 7 * (k - 7)
def ga0 (s : Nat) : Nat := s + 6
section C58
variable {X : Nat × (Int → Int)} {d : Nat} {R : Nat → Nat → Option Nat} {I : Nat → Int → Int}
theorem m68 : WPM X (d + 8) 68 [.inr (some 0)] ([(10, 12)], R, I) 56 21613 (fun _ h' => ∃ stE sh' R' I', h' = (sh', R', I') ∧ readR TXT 67 300 ps0 0 (-4) stE ∧ sh'.length = 57 ∧ CG sh' R' I' 4 2 8 16 20 32 1 (rotL ro0) (gaL ro0 ga0 53 1) 640 (layA stE) (layA stE) (layA stE) 0 TXT 0) := by
  show WP X (d + 8) 68 0 [.inr (some 0), .inr none] [] ([(10, 12)], R, I) 56 21613 _
  refine m68a ⟨by omega, by omega⟩ (fun R_1 I_1 bc bs hL h0 hs h11 hbc hbs => ?_)
  have hP : ∀ I2, TX I2 TXT 67 → PW ([(10, 12), (4, 4), (1, 200), (5, 14), (0, 45), (0, 45), (0, 45), (0, 45), (0, 108), (0, 108), (0, 54), (0, 54), (3, 5), (0, 5), (0, 5), (8, 2), (0, 45), (9, 3), (2, 5), (0, 108), (0, 108), (6, 5), (0, 96), (0, 16), (0, 324), (7, 9), (0, 108), (0, 16), (0, 16), (0, 16), (0, 16), (0, 0), (7, 9), (0, 108), (0, 16), (0, 16), (0, 16), (0, 16), (0, 0), (7, 9), (0, 108), (0, 16), (0, 16), (0, 16), (0, 16), (0, 0), (7, 9), (0, 108), (0, 16), (0, 16), (0, 16), (0, 16), (0, 0)]) R_1 I2 ro0 ga0 0 TXT 67 := fun I2 ht => by
    refine ⟨hL, fun k q1 q2 => ?_, fun i j q1 q2 q3 q4 e => by unfold ro0 at e; omega, fun s h => ⟨hs s h, ?_, Or.inr rfl⟩, fun s t _ _ e => by unfold ga0 at e; omega, by omega, ht⟩
    · rcases (show k = 7 ∨ k = 8 ∨ k = 9 ∨ k = 10 by omega) with rfl | rfl | rfl | rfl
      · exact ⟨Or.inl rfl, h0.1⟩
      · exact ⟨Or.inr (Or.inl rfl), h0.2.1⟩
      · exact ⟨Or.inr (Or.inr (Or.inl rfl)), h0.2.2.1⟩
      · exact ⟨Or.inr (Or.inr (Or.inr rfl)), h0.2.2.2⟩
    · rcases h with rfl | rfl | rfl | rfl <;> rfl
  have hK4 : KP 4 2 8 16 20 32 := Or.inr (Or.inl ⟨rfl, rfl, rfl, rfl, rfl, rfl⟩)
  refine w_c1 (pc' := 154) k68_153 rfl ?_
  refine w_istore (pc' := 155) (ls' := [_, _]) k68_154 rfl rfl rfl ?_
  refine m68l hL (fun I_2 ht => ?_) 67 0 _ _ rfl rfl ⟨h11, by omega, fun j q1 q2 => by omega⟩
  refine w_aload (pc' := 185) k68_184 rfl rfl ?_
  refine w_callM (pc' := 188) (as := [.inr (some 0)]) k68_185 rfl rfl (co_v rfl rfl (hL.1 0 (10, 12) rfl)) ⟨by omega, by omega⟩ (m106s (c := 1) (hP I_2 ht) hK4 rdT_x (fun stE h => lay_AB hK4 (rdT_x _ _ h).2 h) (Or.inr ⟨by decide, rfl⟩) ⟨by decide, fun _ => Or.inl rfl⟩) (fun r_1 h_1 hq => ?_)
  obtain ⟨rfl, stE, sh_1, R_2, I_3, rfl, w1, w2, w3, w4, w5, w6⟩ := hq
  have hL := w6.1
  show WP X (d + 8) 68 188 [.inr (some 0), .inl 67] [.inl 1] (sh_1, R_2, I_3) _ _ _
  refine w_pop (pc' := 189) k68_188 rfl ?_
  refine w_aload (pc' := 190) k68_189 rfl rfl ?_
  refine w_getR (pc' := 193) (v := 1) k68_190 rfl (hL.1 0 (10, 12) rfl) (hL.2 0 0 1 rfl) ?_
  refine w_c1 (pc' := 194) k68_193 rfl ?_
  refine w_putI (pc' := 197) (ki := 1) k68_194 rfl (hL.1 1 (4, 4) rfl) rfl ?_
  refine w_retv k68_197 ⟨stE, _, _, _, rfl, w1, by rw [w2]; rfl, w6.txt (fun a q1 q2 => upA_n q1) ⟨by rw [upA_s, upF_s], by omega, fun j q1 q2 => by omega⟩⟩
end C58
