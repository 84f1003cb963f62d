/-! ===== REFERENCE: its facts, leaves ===== -/
/-- the reference holds A -/
def MS (I : Nat → Int → Int) (S L : Int) (A : AS) : Prop := I 57 7 = aNf A ∧ (∀ l, 0 ≤ l → l < L → I 59 l = aAg A l) ∧ (∀ n l, 0 ≤ n → n < S → 0 ≤ l → l < L → I 60 (108 * n + l) = aMk A n l) ∧ (∀ f, 0 ≤ f → f < aNf A → I 62 (4 * f) = aFr A f ∧ I 62 (4 * f + 1) = aTo A f ∧ I 62 (4 * f + 2) = aSz A f ∧ I 62 (4 * f + 3) = aSh A f)
def MF (sh : List (Nat × Nat)) (R : Nat → Nat → Option Nat) (I : Nat → Int → Int) (K H E HO S L B : Int) (A : AS) : Prop := LM sh R ∧ KP K H E HO S L ∧ I 57 2 = K ∧ I 57 3 = H ∧ MS I S L A ∧ AB H HO S L B A ∧ B ≤ 1000000
section M60
variable {X : Nat × (Int → Int)} {d : Nat} {sh : List (Nat × Nat)} {R : Nat → Nat → Option Nat} {I : Nat → Int → Int} {K H E HO S L B : Int} {A : AS}
theorem m117 {x a b : Int} : BV X (d + 1) 117 [.inl x, .inl a, .inl b] (sh, R, I) (a ≤ x ∧ x ≤ b) := by
  show WP X (d + 1) 117 0 [.inl x, .inl a, .inl b] [] (sh, R, I) 0 0 _
  refine w_iload (pc' := 1) k117_0 rfl rfl ?_
  refine w_iload (pc' := 2) k117_1 rfl rfl ?_
  refine w_ic_lt (pc' := 5) k117_2 rfl (fun c_2 => ?_) (fun c_2 => ?_)
  · refine w_c1 (pc' := 15) k117_14 rfl ?_
    exact w_retz k117_15 (Or.inl rfl) ⟨rfl, Or.inr ⟨rfl, by omega⟩⟩
  · refine w_iload (pc' := 6) k117_5 rfl rfl ?_
    refine w_iload (pc' := 7) k117_6 rfl rfl ?_
    refine w_ic_gt (pc' := 10) k117_7 rfl (fun c_7 => ?_) (fun c_7 => ?_)
    · refine w_c1 (pc' := 15) k117_14 rfl ?_
      exact w_retz k117_15 (Or.inl rfl) ⟨rfl, Or.inr ⟨rfl, by omega⟩⟩
    · refine w_c1 (pc' := 11) k117_10 rfl ?_
      refine w_goto k117_11 ?_
      exact w_retz k117_15 (Or.inr rfl) ⟨rfl, Or.inl ⟨rfl, by omega⟩⟩
theorem m129 (hF : MF sh R I K H E HO S L B A)  : RV X (d + 1) 129 [.inr (some 57)] (sh, R, I) (HO) := by
  have hF0 := hF
  obtain ⟨hM, hK, hpo, hha, hms, hab, hB⟩ := hF
  have hr := hK.r
  show WP X (d + 1) 129 0 [.inr (some 57)] [] (sh, R, I) 0 0 _
  refine w_aload (pc' := 1) k129_0 rfl rfl ?_
  refine w_getI (pc' := 4) (ki := 2) (v := K) k129_1 rfl (hM.1 57 (11, 30) rfl) rfl hpo ?_
  refine w_aload (pc' := 5) k129_4 rfl rfl ?_
  refine w_getI (pc' := 8) (ki := 3) (v := H) k129_5 rfl (hM.1 57 (11, 30) rfl) rfl hha ?_
  refine w_imul (pc' := 9) k129_8 rfl (by first | omega | (rcases hK with ⟨rfl, rfl, rfl, rfl, rfl, rfl⟩ | ⟨rfl, rfl, rfl, rfl, rfl, rfl⟩ | ⟨rfl, rfl, rfl, rfl, rfl, rfl⟩ <;> omega)) ?_
  refine w_aload (pc' := 10) k129_9 rfl rfl ?_
  refine w_getI (pc' := 13) (ki := 3) (v := H) k129_10 rfl (hM.1 57 (11, 30) rfl) rfl hha ?_
  refine w_imul (pc' := 14) k129_13 rfl (by first | omega | (rcases hK with ⟨rfl, rfl, rfl, rfl, rfl, rfl⟩ | ⟨rfl, rfl, rfl, rfl, rfl, rfl⟩ | ⟨rfl, rfl, rfl, rfl, rfl, rfl⟩ <;> omega)) ?_
  exact w_reti k129_14 ⟨congrArg Sum.inl (show K * H * H = HO by first | omega | (rcases hK with ⟨rfl, rfl, rfl, rfl, rfl, rfl⟩ | ⟨rfl, rfl, rfl, rfl, rfl, rfl⟩ | ⟨rfl, rfl, rfl, rfl, rfl, rfl⟩ <;> omega)), rfl⟩
theorem m130 (hF : MF sh R I K H E HO S L B A)  : RV X (d + 1) 130 [.inr (some 57)] (sh, R, I) (E) := by
  have hF0 := hF
  obtain ⟨hM, hK, hpo, hha, hms, hab, hB⟩ := hF
  have hr := hK.r
  show WP X (d + 1) 130 0 [.inr (some 57)] [] (sh, R, I) 0 0 _
  refine w_aload (pc' := 1) k130_0 rfl rfl ?_
  refine w_getI (pc' := 4) (ki := 2) (v := K) k130_1 rfl (hM.1 57 (11, 30) rfl) rfl hpo ?_
  refine w_aload (pc' := 5) k130_4 rfl rfl ?_
  refine w_getI (pc' := 8) (ki := 3) (v := H) k130_5 rfl (hM.1 57 (11, 30) rfl) rfl hha ?_
  refine w_imul (pc' := 9) k130_8 rfl (by first | omega | (rcases hK with ⟨rfl, rfl, rfl, rfl, rfl, rfl⟩ | ⟨rfl, rfl, rfl, rfl, rfl, rfl⟩ | ⟨rfl, rfl, rfl, rfl, rfl, rfl⟩ <;> omega)) ?_
  exact w_reti k130_9 ⟨congrArg Sum.inl (show K * H = E by first | omega | (rcases hK with ⟨rfl, rfl, rfl, rfl, rfl, rfl⟩ | ⟨rfl, rfl, rfl, rfl, rfl, rfl⟩ | ⟨rfl, rfl, rfl, rfl, rfl, rfl⟩ <;> omega)), rfl⟩
theorem m131 (hF : MF sh R I K H E HO S L B A)  : RV X (d + 1) 131 [.inr (some 57)] (sh, R, I) (S) := by
  have hF0 := hF
  obtain ⟨hM, hK, hpo, hha, hms, hab, hB⟩ := hF
  have hr := hK.r
  show WP X (d + 1) 131 0 [.inr (some 57)] [] (sh, R, I) 0 0 _
  refine w_c1 (pc' := 1) k131_0 rfl ?_
  refine w_aload (pc' := 2) k131_1 rfl rfl ?_
  refine w_getI (pc' := 5) (ki := 2) (v := K) k131_2 rfl (hM.1 57 (11, 30) rfl) rfl hpo ?_
  refine w_imul (pc' := 6) k131_5 rfl (by first | omega | (rcases hK with ⟨rfl, rfl, rfl, rfl, rfl, rfl⟩ | ⟨rfl, rfl, rfl, rfl, rfl, rfl⟩ | ⟨rfl, rfl, rfl, rfl, rfl, rfl⟩ <;> omega)) ?_
  refine w_aload (pc' := 7) k131_6 rfl rfl ?_
  refine w_getI (pc' := 10) (ki := 3) (v := H) k131_7 rfl (hM.1 57 (11, 30) rfl) rfl hha ?_
  refine w_imul (pc' := 11) k131_10 rfl (by first | omega | (rcases hK with ⟨rfl, rfl, rfl, rfl, rfl, rfl⟩ | ⟨rfl, rfl, rfl, rfl, rfl, rfl⟩ | ⟨rfl, rfl, rfl, rfl, rfl, rfl⟩ <;> omega)) ?_
  refine w_aload (pc' := 12) k131_11 rfl rfl ?_
  refine w_getI (pc' := 15) (ki := 3) (v := H) k131_12 rfl (hM.1 57 (11, 30) rfl) rfl hha ?_
  refine w_aload (pc' := 16) k131_15 rfl rfl ?_
  refine w_getI (pc' := 19) (ki := 3) (v := H) k131_16 rfl (hM.1 57 (11, 30) rfl) rfl hha ?_
  refine w_imul (pc' := 20) k131_19 rfl (by first | omega | (rcases hK with ⟨rfl, rfl, rfl, rfl, rfl, rfl⟩ | ⟨rfl, rfl, rfl, rfl, rfl, rfl⟩ | ⟨rfl, rfl, rfl, rfl, rfl, rfl⟩ <;> omega)) ?_
  refine w_iadd (pc' := 21) k131_20 rfl (by first | omega | (rcases hK with ⟨rfl, rfl, rfl, rfl, rfl, rfl⟩ | ⟨rfl, rfl, rfl, rfl, rfl, rfl⟩ | ⟨rfl, rfl, rfl, rfl, rfl, rfl⟩ <;> omega)) ?_
  exact w_reti k131_21 ⟨congrArg Sum.inl (show 2 * K * H + H * H = S by first | omega | (rcases hK with ⟨rfl, rfl, rfl, rfl, rfl, rfl⟩ | ⟨rfl, rfl, rfl, rfl, rfl, rfl⟩ | ⟨rfl, rfl, rfl, rfl, rfl, rfl⟩ <;> omega)), rfl⟩
theorem m132 (hF : MF sh R I K H E HO S L B A)  : RV X (d + 1) 132 [.inr (some 57)] (sh, R, I) (L) := by
  have hF0 := hF
  obtain ⟨hM, hK, hpo, hha, hms, hab, hB⟩ := hF
  have hr := hK.r
  show WP X (d + 1) 132 0 [.inr (some 57)] [] (sh, R, I) 0 0 _
  refine w_c1 (pc' := 1) k132_0 rfl ?_
  refine w_aload (pc' := 2) k132_1 rfl rfl ?_
  refine w_getI (pc' := 5) (ki := 2) (v := K) k132_2 rfl (hM.1 57 (11, 30) rfl) rfl hpo ?_
  refine w_imul (pc' := 6) k132_5 rfl (by first | omega | (rcases hK with ⟨rfl, rfl, rfl, rfl, rfl, rfl⟩ | ⟨rfl, rfl, rfl, rfl, rfl, rfl⟩ | ⟨rfl, rfl, rfl, rfl, rfl, rfl⟩ <;> omega)) ?_
  refine w_aload (pc' := 7) k132_6 rfl rfl ?_
  refine w_getI (pc' := 10) (ki := 3) (v := H) k132_7 rfl (hM.1 57 (11, 30) rfl) rfl hha ?_
  refine w_imul (pc' := 11) k132_10 rfl (by first | omega | (rcases hK with ⟨rfl, rfl, rfl, rfl, rfl, rfl⟩ | ⟨rfl, rfl, rfl, rfl, rfl, rfl⟩ | ⟨rfl, rfl, rfl, rfl, rfl, rfl⟩ <;> omega)) ?_
  refine w_aload (pc' := 12) k132_11 rfl rfl ?_
  refine w_getI (pc' := 15) (ki := 3) (v := H) k132_12 rfl (hM.1 57 (11, 30) rfl) rfl hha ?_
  refine w_imul (pc' := 16) k132_15 rfl (by first | omega | (rcases hK with ⟨rfl, rfl, rfl, rfl, rfl, rfl⟩ | ⟨rfl, rfl, rfl, rfl, rfl, rfl⟩ | ⟨rfl, rfl, rfl, rfl, rfl, rfl⟩ <;> omega)) ?_
  exact w_reti k132_16 ⟨congrArg Sum.inl (show 2 * K * H * H = L by first | omega | (rcases hK with ⟨rfl, rfl, rfl, rfl, rfl, rfl⟩ | ⟨rfl, rfl, rfl, rfl, rfl, rfl⟩ | ⟨rfl, rfl, rfl, rfl, rfl, rfl⟩ <;> omega)), rfl⟩
theorem m133 (hF : MF sh R I K H E HO S L B A) {n : Int} : BV X (d + 2) 133 [.inr (some 57), .inl n] (sh, R, I) (0 ≤ n ∧ n < HO) := by
  have hF0 := hF
  obtain ⟨hM, hK, hpo, hha, hms, hab, hB⟩ := hF
  have hr := hK.r
  show WP X (d + 2) 133 0 [.inr (some 57), .inl n] [] (sh, R, I) 0 0 _
  refine w_iload (pc' := 1) k133_0 rfl rfl ?_
  refine w_c1 (pc' := 2) k133_1 rfl ?_
  refine w_aload (pc' := 3) k133_2 rfl rfl ?_
  refine w_callE (pc' := 6) (as := [.inr (some 57)]) k133_3 rfl rfl (co_v rfl rfl (hM.1 57 (11, 30) rfl)) (by decide) (m129 hF0) ?_
  refine w_c1 (pc' := 7) k133_6 rfl ?_
  refine w_isub (pc' := 8) k133_7 rfl (by first | omega | (rcases hK with ⟨rfl, rfl, rfl, rfl, rfl, rfl⟩ | ⟨rfl, rfl, rfl, rfl, rfl, rfl⟩ | ⟨rfl, rfl, rfl, rfl, rfl, rfl⟩ <;> omega)) ?_
  refine w_callB (pc' := 11) (as := [.inl _, .inl _, .inl _]) k133_8 rfl rfl (co_s (Or.inl rfl) rfl rfl rfl) (by decide) (m117) (fun q_8 => ?_) (fun q_8 => ?_)
  · exact w_retz k133_11 (Or.inr rfl) ⟨rfl, Or.inl ⟨rfl, by omega⟩⟩
  · exact w_retz k133_11 (Or.inl rfl) ⟨rfl, Or.inr ⟨rfl, by omega⟩⟩
theorem m134 (hF : MF sh R I K H E HO S L B A) {n : Int} : BV X (d + 2) 134 [.inr (some 57), .inl n] (sh, R, I) (0 ≤ n ∧ n < S) := by
  have hF0 := hF
  obtain ⟨hM, hK, hpo, hha, hms, hab, hB⟩ := hF
  have hr := hK.r
  show WP X (d + 2) 134 0 [.inr (some 57), .inl n] [] (sh, R, I) 0 0 _
  refine w_iload (pc' := 1) k134_0 rfl rfl ?_
  refine w_c1 (pc' := 2) k134_1 rfl ?_
  refine w_aload (pc' := 3) k134_2 rfl rfl ?_
  refine w_callE (pc' := 6) (as := [.inr (some 57)]) k134_3 rfl rfl (co_v rfl rfl (hM.1 57 (11, 30) rfl)) (by decide) (m131 hF0) ?_
  refine w_c1 (pc' := 7) k134_6 rfl ?_
  refine w_isub (pc' := 8) k134_7 rfl (by first | omega | (rcases hK with ⟨rfl, rfl, rfl, rfl, rfl, rfl⟩ | ⟨rfl, rfl, rfl, rfl, rfl, rfl⟩ | ⟨rfl, rfl, rfl, rfl, rfl, rfl⟩ <;> omega)) ?_
  refine w_callB (pc' := 11) (as := [.inl _, .inl _, .inl _]) k134_8 rfl rfl (co_s (Or.inl rfl) rfl rfl rfl) (by decide) (m117) (fun q_8 => ?_) (fun q_8 => ?_)
  · exact w_retz k134_11 (Or.inr rfl) ⟨rfl, Or.inl ⟨rfl, by omega⟩⟩
  · exact w_retz k134_11 (Or.inl rfl) ⟨rfl, Or.inr ⟨rfl, by omega⟩⟩
theorem m135 (hF : MF sh R I K H E HO S L B A) {n : Int} : BV X (d + 2) 135 [.inr (some 57), .inl n] (sh, R, I) (0 ≤ n ∧ n < L) := by
  have hF0 := hF
  obtain ⟨hM, hK, hpo, hha, hms, hab, hB⟩ := hF
  have hr := hK.r
  show WP X (d + 2) 135 0 [.inr (some 57), .inl n] [] (sh, R, I) 0 0 _
  refine w_iload (pc' := 1) k135_0 rfl rfl ?_
  refine w_c1 (pc' := 2) k135_1 rfl ?_
  refine w_aload (pc' := 3) k135_2 rfl rfl ?_
  refine w_callE (pc' := 6) (as := [.inr (some 57)]) k135_3 rfl rfl (co_v rfl rfl (hM.1 57 (11, 30) rfl)) (by decide) (m132 hF0) ?_
  refine w_c1 (pc' := 7) k135_6 rfl ?_
  refine w_isub (pc' := 8) k135_7 rfl (by first | omega | (rcases hK with ⟨rfl, rfl, rfl, rfl, rfl, rfl⟩ | ⟨rfl, rfl, rfl, rfl, rfl, rfl⟩ | ⟨rfl, rfl, rfl, rfl, rfl, rfl⟩ <;> omega)) ?_
  refine w_callB (pc' := 11) (as := [.inl _, .inl _, .inl _]) k135_8 rfl rfl (co_s (Or.inl rfl) rfl rfl rfl) (by decide) (m117) (fun q_8 => ?_) (fun q_8 => ?_)
  · exact w_retz k135_11 (Or.inr rfl) ⟨rfl, Or.inl ⟨rfl, by omega⟩⟩
  · exact w_retz k135_11 (Or.inl rfl) ⟨rfl, Or.inr ⟨rfl, by omega⟩⟩
theorem m136 (hF : MF sh R I K H E HO S L B A) {n : Int} : BV X (d + 2) 136 [.inr (some 57), .inl n] (sh, R, I) (0 ≤ n ∧ n < H * H) := by
  have hF0 := hF
  obtain ⟨hM, hK, hpo, hha, hms, hab, hB⟩ := hF
  have hr := hK.r
  show WP X (d + 2) 136 0 [.inr (some 57), .inl n] [] (sh, R, I) 0 0 _
  refine w_iload (pc' := 1) k136_0 rfl rfl ?_
  refine w_c1 (pc' := 2) k136_1 rfl ?_
  refine w_aload (pc' := 3) k136_2 rfl rfl ?_
  refine w_getI (pc' := 6) (ki := 3) (v := H) k136_3 rfl (hM.1 57 (11, 30) rfl) rfl hha ?_
  refine w_aload (pc' := 7) k136_6 rfl rfl ?_
  refine w_getI (pc' := 10) (ki := 3) (v := H) k136_7 rfl (hM.1 57 (11, 30) rfl) rfl hha ?_
  refine w_imul (pc' := 11) k136_10 rfl (by first | omega | (rcases hK with ⟨rfl, rfl, rfl, rfl, rfl, rfl⟩ | ⟨rfl, rfl, rfl, rfl, rfl, rfl⟩ | ⟨rfl, rfl, rfl, rfl, rfl, rfl⟩ <;> omega)) ?_
  refine w_c1 (pc' := 12) k136_11 rfl ?_
  refine w_isub (pc' := 13) k136_12 rfl (by first | omega | (rcases hK with ⟨rfl, rfl, rfl, rfl, rfl, rfl⟩ | ⟨rfl, rfl, rfl, rfl, rfl, rfl⟩ | ⟨rfl, rfl, rfl, rfl, rfl, rfl⟩ <;> omega)) ?_
  refine w_callB (pc' := 16) (as := [.inl _, .inl _, .inl _]) k136_13 rfl rfl (co_s (Or.inl rfl) rfl rfl rfl) (by decide) (m117) (fun q_13 => ?_) (fun q_13 => ?_)
  · exact w_retz k136_16 (Or.inr rfl) ⟨rfl, Or.inl ⟨rfl, by omega⟩⟩
  · exact w_retz k136_16 (Or.inl rfl) ⟨rfl, Or.inr ⟨rfl, by omega⟩⟩
theorem m174 (hF : MF sh R I K H E HO S L B A) {n : Int} : BV X (d + 2) 174 [.inr (some 57), .inl n] (sh, R, I) (0 ≤ n ∧ n < aNf A) := by
  have hF0 := hF
  obtain ⟨hM, hK, hpo, hha, hms, hab, hB⟩ := hF
  have hr := hK.r
  have hnf := hab.2.2.1
  show WP X (d + 2) 174 0 [.inr (some 57), .inl n] [] (sh, R, I) 0 0 _
  refine w_iload (pc' := 1) k174_0 rfl rfl ?_
  refine w_c1 (pc' := 2) k174_1 rfl ?_
  refine w_aload (pc' := 3) k174_2 rfl rfl ?_
  refine w_getI (pc' := 6) (ki := 7) (v := aNf A) k174_3 rfl (hM.1 57 (11, 30) rfl) rfl hms.1 ?_
  refine w_c1 (pc' := 7) k174_6 rfl ?_
  refine w_isub (pc' := 8) k174_7 rfl (by first | omega | (rcases hK with ⟨rfl, rfl, rfl, rfl, rfl, rfl⟩ | ⟨rfl, rfl, rfl, rfl, rfl, rfl⟩ | ⟨rfl, rfl, rfl, rfl, rfl, rfl⟩ <;> omega)) ?_
  refine w_callB (pc' := 11) (as := [.inl _, .inl _, .inl _]) k174_8 rfl rfl (co_s (Or.inl rfl) rfl rfl rfl) (by decide) (m117) (fun q_8 => ?_) (fun q_8 => ?_)
  · exact w_retz k174_11 (Or.inr rfl) ⟨rfl, Or.inl ⟨rfl, by omega⟩⟩
  · exact w_retz k174_11 (Or.inl rfl) ⟨rfl, Or.inr ⟨rfl, by omega⟩⟩
theorem m164 (hF : MF sh R I K H E HO S L B A) {a b : Int} : BV X (d + 3) 164 [.inr (some 57), .inl a, .inl b] (sh, R, I) ((0 ≤ a ∧ a < HO) ∧ (0 ≤ b ∧ b < HO) ∧ a ≠ b) := by
  have hF0 := hF
  obtain ⟨hM, hK, hpo, hha, hms, hab, hB⟩ := hF
  have hr := hK.r
  show WP X (d + 3) 164 0 [.inr (some 57), .inl a, .inl b] [] (sh, R, I) 0 0 _
  refine w_aload (pc' := 1) k164_0 rfl rfl ?_
  refine w_iload (pc' := 2) k164_1 rfl rfl ?_
  refine w_callB (pc' := 5) (as := [.inr (some 57), .inl _]) k164_2 rfl rfl (co_v rfl rfl (hM.1 57 (11, 30) rfl)) (by decide) (m133 hF0) (fun q_2 => ?_) (fun q_2 => ?_)
  · refine w_if_eq (pc' := 8) k164_5 rfl (fun c_5 => absurd c_5 (by decide)) (fun _ => ?_)
    refine w_aload (pc' := 9) k164_8 rfl rfl ?_
    refine w_iload (pc' := 10) k164_9 rfl rfl ?_
    refine w_callB (pc' := 13) (as := [.inr (some 57), .inl _]) k164_10 rfl rfl (co_v rfl rfl (hM.1 57 (11, 30) rfl)) (by decide) (m133 hF0) (fun q_10 => ?_) (fun q_10 => ?_)
    · refine w_if_eq (pc' := 16) k164_13 rfl (fun c_13 => absurd c_13 (by decide)) (fun _ => ?_)
      refine w_iload (pc' := 17) k164_16 rfl rfl ?_
      refine w_iload (pc' := 18) k164_17 rfl rfl ?_
      refine w_ic_eq (pc' := 21) k164_18 rfl (fun c_18 => ?_) (fun c_18 => ?_)
      · refine w_c1 (pc' := 26) k164_25 rfl ?_
        exact w_retz k164_26 (Or.inl rfl) ⟨rfl, Or.inr ⟨rfl, by omega⟩⟩
      · refine w_c1 (pc' := 22) k164_21 rfl ?_
        refine w_goto k164_22 ?_
        exact w_retz k164_26 (Or.inr rfl) ⟨rfl, Or.inl ⟨rfl, by omega⟩⟩
    · refine w_if_eq (pc' := 16) k164_13 rfl (fun _ => ?_) (fun c_13 => absurd c_13 (by decide))
      refine w_c1 (pc' := 26) k164_25 rfl ?_
      exact w_retz k164_26 (Or.inl rfl) ⟨rfl, Or.inr ⟨rfl, by omega⟩⟩
  · refine w_if_eq (pc' := 8) k164_5 rfl (fun _ => ?_) (fun c_5 => absurd c_5 (by decide))
    refine w_c1 (pc' := 26) k164_25 rfl ?_
    exact w_retz k164_26 (Or.inl rfl) ⟨rfl, Or.inr ⟨rfl, by omega⟩⟩
theorem m137 (hF : MF sh R I K H E HO S L B A) {n : Int} : RV X (d + 2) 137 [.inr (some 57), .inl n] (sh, R, I) (tierS E n) := by
  have hF0 := hF
  obtain ⟨hM, hK, hpo, hha, hms, hab, hB⟩ := hF
  have hr := hK.r
  show WP X (d + 2) 137 0 [.inr (some 57), .inl n] [] (sh, R, I) 0 0 _
  refine w_iload (pc' := 1) k137_0 rfl rfl ?_
  refine w_aload (pc' := 2) k137_1 rfl rfl ?_
  refine w_callE (pc' := 5) (as := [.inr (some 57)]) k137_2 rfl rfl (co_v rfl rfl (hM.1 57 (11, 30) rfl)) (by decide) (m130 hF0) ?_
  refine w_ic_ge (pc' := 8) k137_5 rfl (fun c_5 => ?_) (fun c_5 => ?_)
  · refine w_iload (pc' := 13) k137_12 rfl rfl ?_
    refine w_c1 (pc' := 14) k137_13 rfl ?_
    refine w_aload (pc' := 15) k137_14 rfl rfl ?_
    refine w_callE (pc' := 18) (as := [.inr (some 57)]) k137_15 rfl rfl (co_v rfl rfl (hM.1 57 (11, 30) rfl)) (by decide) (m130 hF0) ?_
    refine w_imul (pc' := 19) k137_18 rfl (by first | omega | (rcases hK with ⟨rfl, rfl, rfl, rfl, rfl, rfl⟩ | ⟨rfl, rfl, rfl, rfl, rfl, rfl⟩ | ⟨rfl, rfl, rfl, rfl, rfl, rfl⟩ <;> omega)) ?_
    refine w_ic_ge (pc' := 22) k137_19 rfl (fun c_19 => ?_) (fun c_19 => ?_)
    · refine w_c1 (pc' := 27) k137_26 rfl ?_
      exact w_reti k137_27 ⟨by unfold tierS; rw [if_neg (by omega), if_neg (by omega)], rfl⟩
    · refine w_c1 (pc' := 23) k137_22 rfl ?_
      refine w_goto k137_23 ?_
      exact w_reti k137_27 ⟨by unfold tierS; rw [if_neg (by omega), if_pos c_19], rfl⟩
  · refine w_c1 (pc' := 9) k137_8 rfl ?_
    refine w_goto k137_9 ?_
    exact w_reti k137_27 ⟨by unfold tierS; rw [if_pos c_5], rfl⟩
theorem m140 (hF : MF sh R I K H E HO S L B A) {l : Int} (hl : 0 ≤ l ∧ l < L) : RV X (d + 2) 140 [.inr (some 57), .inl l] (sh, R, I) (l / H) := by
  have hF0 := hF
  obtain ⟨hM, hK, hpo, hha, hms, hab, hB⟩ := hF
  have hr := hK.r
  show WP X (d + 2) 140 0 [.inr (some 57), .inl l] [] (sh, R, I) 0 0 _
  refine w_iload (pc' := 1) k140_0 rfl rfl ?_
  refine w_aload (pc' := 2) k140_1 rfl rfl ?_
  refine w_callE (pc' := 5) (as := [.inr (some 57)]) k140_2 rfl rfl (co_v rfl rfl (hM.1 57 (11, 30) rfl)) (by decide) (m129 hF0) ?_
  refine w_ic_ge (pc' := 8) k140_5 rfl (fun c_5 => ?_) (fun c_5 => ?_)
  · refine w_aload (pc' := 18) k140_17 rfl rfl ?_
    refine w_callE (pc' := 21) (as := [.inr (some 57)]) k140_18 rfl rfl (co_v rfl rfl (hM.1 57 (11, 30) rfl)) (by decide) (m130 hF0) ?_
    refine w_iload (pc' := 22) k140_21 rfl rfl ?_
    refine w_aload (pc' := 23) k140_22 rfl rfl ?_
    refine w_callE (pc' := 26) (as := [.inr (some 57)]) k140_23 rfl rfl (co_v rfl rfl (hM.1 57 (11, 30) rfl)) (by decide) (m129 hF0) ?_
    refine w_isub (pc' := 27) k140_26 rfl (by first | omega | (rcases hK with ⟨rfl, rfl, rfl, rfl, rfl, rfl⟩ | ⟨rfl, rfl, rfl, rfl, rfl, rfl⟩ | ⟨rfl, rfl, rfl, rfl, rfl, rfl⟩ <;> omega)) ?_
    refine w_aload (pc' := 28) k140_27 rfl rfl ?_
    refine w_getI (pc' := 31) (ki := 3) (v := H) k140_28 rfl (hM.1 57 (11, 30) rfl) rfl hha ?_
    refine w_idiv (pc' := 32) k140_31 rfl (by first | omega | (rcases hK with ⟨rfl, rfl, rfl, rfl, rfl, rfl⟩ | ⟨rfl, rfl, rfl, rfl, rfl, rfl⟩ | ⟨rfl, rfl, rfl, rfl, rfl, rfl⟩ <;> omega)) ?_
    refine w_iadd (pc' := 33) k140_32 rfl (by first | omega | (rcases hK with ⟨rfl, rfl, rfl, rfl, rfl, rfl⟩ | ⟨rfl, rfl, rfl, rfl, rfl, rfl⟩ | ⟨rfl, rfl, rfl, rfl, rfl, rfl⟩ <;> omega)) ?_
    exact w_reti k140_33 ⟨congrArg Sum.inl (show E + (l - HO) / H = l / H by first | omega | (rcases hK with ⟨rfl, rfl, rfl, rfl, rfl, rfl⟩ | ⟨rfl, rfl, rfl, rfl, rfl, rfl⟩ | ⟨rfl, rfl, rfl, rfl, rfl, rfl⟩ <;> omega)), rfl⟩
  · refine w_iload (pc' := 9) k140_8 rfl rfl ?_
    refine w_aload (pc' := 10) k140_9 rfl rfl ?_
    refine w_getI (pc' := 13) (ki := 3) (v := H) k140_10 rfl (hM.1 57 (11, 30) rfl) rfl hha ?_
    refine w_idiv (pc' := 14) k140_13 rfl (by first | omega | (rcases hK with ⟨rfl, rfl, rfl, rfl, rfl, rfl⟩ | ⟨rfl, rfl, rfl, rfl, rfl, rfl⟩ | ⟨rfl, rfl, rfl, rfl, rfl, rfl⟩ <;> omega)) ?_
    refine w_goto k140_14 ?_
    exact w_reti k140_33 ⟨rfl, rfl⟩
theorem m141 (hF : MF sh R I K H E HO S L B A) {l : Int} (hl : 0 ≤ l ∧ l < L) : RV X (d + 2) 141 [.inr (some 57), .inl l] (sh, R, I) (upS H E l) := by
  have hF0 := hF
  obtain ⟨hM, hK, hpo, hha, hms, hab, hB⟩ := hF
  have hr := hK.r
  show WP X (d + 2) 141 0 [.inr (some 57), .inl l, .inr none] [] (sh, R, I) 0 0 _
  refine w_iload (pc' := 1) k141_0 rfl rfl ?_
  refine w_aload (pc' := 2) k141_1 rfl rfl ?_
  refine w_callE (pc' := 5) (as := [.inr (some 57)]) k141_2 rfl rfl (co_v rfl rfl (hM.1 57 (11, 30) rfl)) (by decide) (m129 hF0) ?_
  refine w_ic_ge (pc' := 8) k141_5 rfl (fun c_5 => ?_) (fun c_5 => ?_)
  · refine w_iload (pc' := 38) k141_37 rfl rfl ?_
    refine w_aload (pc' := 39) k141_38 rfl rfl ?_
    refine w_callE (pc' := 42) (as := [.inr (some 57)]) k141_39 rfl rfl (co_v rfl rfl (hM.1 57 (11, 30) rfl)) (by decide) (m129 hF0) ?_
    refine w_isub (pc' := 43) k141_42 rfl (by first | omega | (rcases hK with ⟨rfl, rfl, rfl, rfl, rfl, rfl⟩ | ⟨rfl, rfl, rfl, rfl, rfl, rfl⟩ | ⟨rfl, rfl, rfl, rfl, rfl, rfl⟩ <;> omega)) ?_
    refine w_istore (pc' := 44) (ls' := [_, _, _]) k141_43 rfl rfl rfl ?_
    refine w_c1 (pc' := 45) k141_44 rfl ?_
    refine w_aload (pc' := 46) k141_45 rfl rfl ?_
    refine w_callE (pc' := 49) (as := [.inr (some 57)]) k141_46 rfl rfl (co_v rfl rfl (hM.1 57 (11, 30) rfl)) (by decide) (m130 hF0) ?_
    refine w_imul (pc' := 50) k141_49 rfl (by first | omega | (rcases hK with ⟨rfl, rfl, rfl, rfl, rfl, rfl⟩ | ⟨rfl, rfl, rfl, rfl, rfl, rfl⟩ | ⟨rfl, rfl, rfl, rfl, rfl, rfl⟩ <;> omega)) ?_
    refine w_iload (pc' := 51) k141_50 rfl rfl ?_
    refine w_aload (pc' := 52) k141_51 rfl rfl ?_
    refine w_getI (pc' := 55) (ki := 3) (v := H) k141_52 rfl (hM.1 57 (11, 30) rfl) rfl hha ?_
    refine w_idiv (pc' := 56) k141_55 rfl (by first | omega | (rcases hK with ⟨rfl, rfl, rfl, rfl, rfl, rfl⟩ | ⟨rfl, rfl, rfl, rfl, rfl, rfl⟩ | ⟨rfl, rfl, rfl, rfl, rfl, rfl⟩ <;> omega)) ?_
    refine w_aload (pc' := 57) k141_56 rfl rfl ?_
    refine w_getI (pc' := 60) (ki := 3) (v := H) k141_57 rfl (hM.1 57 (11, 30) rfl) rfl hha ?_
    refine w_irem (pc' := 61) k141_60 rfl (by first | omega | (rcases hK with ⟨rfl, rfl, rfl, rfl, rfl, rfl⟩ | ⟨rfl, rfl, rfl, rfl, rfl, rfl⟩ | ⟨rfl, rfl, rfl, rfl, rfl, rfl⟩ <;> omega)) ?_
    refine w_aload (pc' := 62) k141_61 rfl rfl ?_
    refine w_getI (pc' := 65) (ki := 3) (v := H) k141_62 rfl (hM.1 57 (11, 30) rfl) rfl hha ?_
    refine w_imul (pc' := 66) k141_65 rfl (by first | omega | (rcases hK with ⟨rfl, rfl, rfl, rfl, rfl, rfl⟩ | ⟨rfl, rfl, rfl, rfl, rfl, rfl⟩ | ⟨rfl, rfl, rfl, rfl, rfl, rfl⟩ <;> omega)) ?_
    refine w_iadd (pc' := 67) k141_66 rfl (by first | omega | (rcases hK with ⟨rfl, rfl, rfl, rfl, rfl, rfl⟩ | ⟨rfl, rfl, rfl, rfl, rfl, rfl⟩ | ⟨rfl, rfl, rfl, rfl, rfl, rfl⟩ <;> omega)) ?_
    refine w_iload (pc' := 68) k141_67 rfl rfl ?_
    refine w_aload (pc' := 69) k141_68 rfl rfl ?_
    refine w_getI (pc' := 72) (ki := 3) (v := H) k141_69 rfl (hM.1 57 (11, 30) rfl) rfl hha ?_
    refine w_irem (pc' := 73) k141_72 rfl (by first | omega | (rcases hK with ⟨rfl, rfl, rfl, rfl, rfl, rfl⟩ | ⟨rfl, rfl, rfl, rfl, rfl, rfl⟩ | ⟨rfl, rfl, rfl, rfl, rfl, rfl⟩ <;> omega)) ?_
    refine w_iadd (pc' := 74) k141_73 rfl (by first | omega | (rcases hK with ⟨rfl, rfl, rfl, rfl, rfl, rfl⟩ | ⟨rfl, rfl, rfl, rfl, rfl, rfl⟩ | ⟨rfl, rfl, rfl, rfl, rfl, rfl⟩ <;> omega)) ?_
    exact w_reti k141_74 ⟨congrArg Sum.inl (by unfold upS; rw [if_neg (by rcases hK with ⟨rfl, rfl, rfl, rfl, rfl, rfl⟩ | ⟨rfl, rfl, rfl, rfl, rfl, rfl⟩ | ⟨rfl, rfl, rfl, rfl, rfl, rfl⟩ <;> omega)]; rcases hK with ⟨rfl, rfl, rfl, rfl, rfl, rfl⟩ | ⟨rfl, rfl, rfl, rfl, rfl, rfl⟩ | ⟨rfl, rfl, rfl, rfl, rfl, rfl⟩ <;> omega), rfl⟩
  · refine w_aload (pc' := 9) k141_8 rfl rfl ?_
    refine w_callE (pc' := 12) (as := [.inr (some 57)]) k141_9 rfl rfl (co_v rfl rfl (hM.1 57 (11, 30) rfl)) (by decide) (m130 hF0) ?_
    refine w_iload (pc' := 13) k141_12 rfl rfl ?_
    refine w_aload (pc' := 14) k141_13 rfl rfl ?_
    refine w_getI (pc' := 17) (ki := 3) (v := H) k141_14 rfl (hM.1 57 (11, 30) rfl) rfl hha ?_
    refine w_idiv (pc' := 18) k141_17 rfl (by first | omega | (rcases hK with ⟨rfl, rfl, rfl, rfl, rfl, rfl⟩ | ⟨rfl, rfl, rfl, rfl, rfl, rfl⟩ | ⟨rfl, rfl, rfl, rfl, rfl, rfl⟩ <;> omega)) ?_
    refine w_aload (pc' := 19) k141_18 rfl rfl ?_
    refine w_getI (pc' := 22) (ki := 3) (v := H) k141_19 rfl (hM.1 57 (11, 30) rfl) rfl hha ?_
    refine w_idiv (pc' := 23) k141_22 rfl (by first | omega | (rcases hK with ⟨rfl, rfl, rfl, rfl, rfl, rfl⟩ | ⟨rfl, rfl, rfl, rfl, rfl, rfl⟩ | ⟨rfl, rfl, rfl, rfl, rfl, rfl⟩ <;> omega)) ?_
    refine w_aload (pc' := 24) k141_23 rfl rfl ?_
    refine w_getI (pc' := 27) (ki := 3) (v := H) k141_24 rfl (hM.1 57 (11, 30) rfl) rfl hha ?_
    refine w_imul (pc' := 28) k141_27 rfl (by first | omega | (rcases hK with ⟨rfl, rfl, rfl, rfl, rfl, rfl⟩ | ⟨rfl, rfl, rfl, rfl, rfl, rfl⟩ | ⟨rfl, rfl, rfl, rfl, rfl, rfl⟩ <;> omega)) ?_
    refine w_iadd (pc' := 29) k141_28 rfl (by first | omega | (rcases hK with ⟨rfl, rfl, rfl, rfl, rfl, rfl⟩ | ⟨rfl, rfl, rfl, rfl, rfl, rfl⟩ | ⟨rfl, rfl, rfl, rfl, rfl, rfl⟩ <;> omega)) ?_
    refine w_iload (pc' := 30) k141_29 rfl rfl ?_
    refine w_aload (pc' := 31) k141_30 rfl rfl ?_
    refine w_getI (pc' := 34) (ki := 3) (v := H) k141_31 rfl (hM.1 57 (11, 30) rfl) rfl hha ?_
    refine w_irem (pc' := 35) k141_34 rfl (by first | omega | (rcases hK with ⟨rfl, rfl, rfl, rfl, rfl, rfl⟩ | ⟨rfl, rfl, rfl, rfl, rfl, rfl⟩ | ⟨rfl, rfl, rfl, rfl, rfl, rfl⟩ <;> omega)) ?_
    refine w_iadd (pc' := 36) k141_35 rfl (by first | omega | (rcases hK with ⟨rfl, rfl, rfl, rfl, rfl, rfl⟩ | ⟨rfl, rfl, rfl, rfl, rfl, rfl⟩ | ⟨rfl, rfl, rfl, rfl, rfl, rfl⟩ <;> omega)) ?_
    exact w_reti k141_36 ⟨by unfold upS; rw [if_pos (by rcases hK with ⟨rfl, rfl, rfl, rfl, rfl, rfl⟩ | ⟨rfl, rfl, rfl, rfl, rfl, rfl⟩ | ⟨rfl, rfl, rfl, rfl, rfl, rfl⟩ <;> omega)], rfl⟩
theorem m142 (hF : MF sh R I K H E HO S L B A) {l : Int} (hl : 0 ≤ l ∧ l < L) : BV X (d + 1) 142 [.inr (some 57), .inl l] (sh, R, I) (ev (aAg A l) = true) := by
  have hF0 := hF
  obtain ⟨hM, hK, hpo, hha, hms, hab, hB⟩ := hF
  have hr := hK.r
  have ha := hab.1 l hl.1 hl.2
  show WP X (d + 1) 142 0 [.inr (some 57), .inl l] [] (sh, R, I) 0 0 _
  refine w_aload (pc' := 1) k142_0 rfl rfl ?_
  refine w_getR (pc' := 4) (v := 59) k142_1 rfl (hM.1 57 (11, 30) rfl) (hM.2 57 4 59 rfl) ?_
  refine w_iload (pc' := 5) k142_4 rfl rfl ?_
  refine w_iald (pc' := 6) (v := aAg A l) k142_5 rfl (hM.1 59 (0, 108) rfl) (by first | omega | (rcases hK with ⟨rfl, rfl, rfl, rfl, rfl, rfl⟩ | ⟨rfl, rfl, rfl, rfl, rfl, rfl⟩ | ⟨rfl, rfl, rfl, rfl, rfl, rfl⟩ <;> omega)) (hms.2.1 l hl.1 hl.2) ?_
  refine w_c1 (pc' := 7) k142_6 rfl ?_
  refine w_irem (pc' := 8) k142_7 rfl (by first | omega | (rcases hK with ⟨rfl, rfl, rfl, rfl, rfl, rfl⟩ | ⟨rfl, rfl, rfl, rfl, rfl, rfl⟩ | ⟨rfl, rfl, rfl, rfl, rfl, rfl⟩ <;> omega)) ?_
  refine w_if_ne (pc' := 11) k142_8 rfl (fun c_8 => ?_) (fun c_8 => ?_)
  · refine w_c1 (pc' := 16) k142_15 rfl ?_
    exact w_retz k142_16 (Or.inl rfl) ⟨rfl, Or.inr ⟨rfl, fun z => c_8 (ev_t.mp z)⟩⟩
  · refine w_c1 (pc' := 12) k142_11 rfl ?_
    refine w_goto k142_12 ?_
    exact w_retz k142_16 (Or.inr rfl) ⟨rfl, Or.inl ⟨rfl, ev_t.mpr c_8⟩⟩
theorem m143 (hF : MF sh R I K H E HO S L B A) {n l : Int} (hl : 0 ≤ l ∧ l < L) : BV X (d + 3) 143 [.inr (some 57), .inl n, .inl l] (sh, R, I) (l / H = n ∨ upS H E l = n) := by
  have hF0 := hF
  obtain ⟨hM, hK, hpo, hha, hms, hab, hB⟩ := hF
  have hr := hK.r
  show WP X (d + 3) 143 0 [.inr (some 57), .inl n, .inl l] [] (sh, R, I) 0 0 _
  refine w_aload (pc' := 1) k143_0 rfl rfl ?_
  refine w_iload (pc' := 2) k143_1 rfl rfl ?_
  refine w_callE (pc' := 5) (as := [.inr (some 57), .inl _]) k143_2 rfl rfl (co_v rfl rfl (hM.1 57 (11, 30) rfl)) (by decide) (m140 hF0 hl) ?_
  refine w_iload (pc' := 6) k143_5 rfl rfl ?_
  refine w_ic_eq (pc' := 9) k143_6 rfl (fun c_6 => ?_) (fun c_6 => ?_)
  · refine w_c1 (pc' := 19) k143_18 rfl ?_
    refine w_goto k143_19 ?_
    exact w_retz k143_23 (Or.inr rfl) ⟨rfl, Or.inl ⟨rfl, by omega⟩⟩
  · refine w_aload (pc' := 10) k143_9 rfl rfl ?_
    refine w_iload (pc' := 11) k143_10 rfl rfl ?_
    refine w_callE (pc' := 14) (as := [.inr (some 57), .inl _]) k143_11 rfl rfl (co_v rfl rfl (hM.1 57 (11, 30) rfl)) (by decide) (m141 hF0 hl) ?_
    refine w_iload (pc' := 15) k143_14 rfl rfl ?_
    refine w_ic_ne (pc' := 18) k143_15 rfl (fun c_15 => ?_) (fun c_15 => ?_)
    · refine w_c1 (pc' := 23) k143_22 rfl ?_
      exact w_retz k143_23 (Or.inl rfl) ⟨rfl, Or.inr ⟨rfl, by omega⟩⟩
    · refine w_c1 (pc' := 19) k143_18 rfl ?_
      refine w_goto k143_19 ?_
      exact w_retz k143_23 (Or.inr rfl) ⟨rfl, Or.inl ⟨rfl, by omega⟩⟩
theorem m158 (hF : MF sh R I K H E HO S L B A) {n l : Int} (hn : 0 ≤ n ∧ n < S) (hl : 0 ≤ l ∧ l < L) : BV X (d + 1) 158 [.inr (some 57), .inl n, .inl l] (sh, R, I) (ev (aMk A n l) = true) := by
  have hF0 := hF
  obtain ⟨hM, hK, hpo, hha, hms, hab, hB⟩ := hF
  have hr := hK.r
  have ha := hab.2.1 n l hn.1 hn.2 hl.1 hl.2
  show WP X (d + 1) 158 0 [.inr (some 57), .inl n, .inl l] [] (sh, R, I) 0 0 _
  refine w_aload (pc' := 1) k158_0 rfl rfl ?_
  refine w_getR (pc' := 4) (v := 60) k158_1 rfl (hM.1 57 (11, 30) rfl) (hM.2 57 5 60 rfl) ?_
  refine w_c2 (pc' := 6) k158_4 rfl ?_
  refine w_iload (pc' := 7) k158_6 rfl rfl ?_
  refine w_imul (pc' := 8) k158_7 rfl (by first | omega | (rcases hK with ⟨rfl, rfl, rfl, rfl, rfl, rfl⟩ | ⟨rfl, rfl, rfl, rfl, rfl, rfl⟩ | ⟨rfl, rfl, rfl, rfl, rfl, rfl⟩ <;> omega)) ?_
  refine w_iload (pc' := 9) k158_8 rfl rfl ?_
  refine w_iadd (pc' := 10) k158_9 rfl (by first | omega | (rcases hK with ⟨rfl, rfl, rfl, rfl, rfl, rfl⟩ | ⟨rfl, rfl, rfl, rfl, rfl, rfl⟩ | ⟨rfl, rfl, rfl, rfl, rfl, rfl⟩ <;> omega)) ?_
  refine w_iald (pc' := 11) (v := aMk A n l) k158_10 rfl (hM.1 60 (0, 4860) rfl) (by first | omega | (rcases hK with ⟨rfl, rfl, rfl, rfl, rfl, rfl⟩ | ⟨rfl, rfl, rfl, rfl, rfl, rfl⟩ | ⟨rfl, rfl, rfl, rfl, rfl, rfl⟩ <;> omega)) (hms.2.2.1 n l hn.1 hn.2 hl.1 hl.2) ?_
  refine w_c1 (pc' := 12) k158_11 rfl ?_
  refine w_irem (pc' := 13) k158_12 rfl (by first | omega | (rcases hK with ⟨rfl, rfl, rfl, rfl, rfl, rfl⟩ | ⟨rfl, rfl, rfl, rfl, rfl, rfl⟩ | ⟨rfl, rfl, rfl, rfl, rfl, rfl⟩ <;> omega)) ?_
  refine w_if_ne (pc' := 16) k158_13 rfl (fun c_13 => ?_) (fun c_13 => ?_)
  · refine w_c1 (pc' := 21) k158_20 rfl ?_
    exact w_retz k158_21 (Or.inl rfl) ⟨rfl, Or.inr ⟨rfl, fun z => c_13 (ev_t.mp z)⟩⟩
  · refine w_c1 (pc' := 17) k158_16 rfl ?_
    refine w_goto k158_17 ?_
    exact w_retz k158_21 (Or.inr rfl) ⟨rfl, Or.inl ⟨rfl, ev_t.mpr c_13⟩⟩
theorem m156 (hF : MF sh R I K H E HO S L B A) {n l : Int} : RV X (d + 3) 156 [.inr (some 57), .inl n, .inl l] (sh, R, I) (markS S L A n l) := by
  have hF0 := hF
  obtain ⟨hM, hK, hpo, hha, hms, hab, hB⟩ := hF
  have hr := hK.r
  show WP X (d + 3) 156 0 [.inr (some 57), .inl n, .inl l] [] (sh, R, I) 0 0 _
  refine w_aload (pc' := 1) k156_0 rfl rfl ?_
  refine w_iload (pc' := 2) k156_1 rfl rfl ?_
  refine w_callB (pc' := 5) (as := [.inr (some 57), .inl _]) k156_2 rfl rfl (co_v rfl rfl (hM.1 57 (11, 30) rfl)) (by decide) (m134 hF0) (fun q_2 => ?_) (fun q_2 => ?_)
  · refine w_if_eq (pc' := 8) k156_5 rfl (fun c_5 => absurd c_5 (by decide)) (fun _ => ?_)
    refine w_aload (pc' := 9) k156_8 rfl rfl ?_
    refine w_iload (pc' := 10) k156_9 rfl rfl ?_
    refine w_callB (pc' := 13) (as := [.inr (some 57), .inl _]) k156_10 rfl rfl (co_v rfl rfl (hM.1 57 (11, 30) rfl)) (by decide) (m135 hF0) (fun q_10 => ?_) (fun q_10 => ?_)
    · refine w_if_eq (pc' := 16) k156_13 rfl (fun c_13 => absurd c_13 (by decide)) (fun _ => ?_)
      refine w_aload (pc' := 17) k156_16 rfl rfl ?_
      refine w_getR (pc' := 20) (v := 60) k156_17 rfl (hM.1 57 (11, 30) rfl) (hM.2 57 5 60 rfl) ?_
      refine w_c2 (pc' := 22) k156_20 rfl ?_
      refine w_iload (pc' := 23) k156_22 rfl rfl ?_
      refine w_imul (pc' := 24) k156_23 rfl (by first | omega | (rcases hK with ⟨rfl, rfl, rfl, rfl, rfl, rfl⟩ | ⟨rfl, rfl, rfl, rfl, rfl, rfl⟩ | ⟨rfl, rfl, rfl, rfl, rfl, rfl⟩ <;> omega)) ?_
      refine w_iload (pc' := 25) k156_24 rfl rfl ?_
      refine w_iadd (pc' := 26) k156_25 rfl (by first | omega | (rcases hK with ⟨rfl, rfl, rfl, rfl, rfl, rfl⟩ | ⟨rfl, rfl, rfl, rfl, rfl, rfl⟩ | ⟨rfl, rfl, rfl, rfl, rfl, rfl⟩ <;> omega)) ?_
      refine w_iald (pc' := 27) (v := aMk A n l) k156_26 rfl (hM.1 60 (0, 4860) rfl) (by first | omega | (rcases hK with ⟨rfl, rfl, rfl, rfl, rfl, rfl⟩ | ⟨rfl, rfl, rfl, rfl, rfl, rfl⟩ | ⟨rfl, rfl, rfl, rfl, rfl, rfl⟩ <;> omega)) (hms.2.2.1 n l q_2.1 q_2.2 q_10.1 q_10.2) ?_
      refine w_goto k156_27 ?_
      exact w_reti k156_31 ⟨by unfold markS; rw [if_pos ⟨q_2, q_10⟩], rfl⟩
    · refine w_if_eq (pc' := 16) k156_13 rfl (fun _ => ?_) (fun c_13 => absurd c_13 (by decide))
      refine w_c1 (pc' := 31) k156_30 rfl ?_
      exact w_reti k156_31 ⟨by unfold markS; rw [if_neg (fun z => q_10 z.2)], rfl⟩
  · refine w_if_eq (pc' := 8) k156_5 rfl (fun _ => ?_) (fun c_5 => absurd c_5 (by decide))
    refine w_c1 (pc' := 31) k156_30 rfl ?_
    exact w_reti k156_31 ⟨by unfold markS; rw [if_neg (fun z => q_2 z.1)], rfl⟩
end M60
