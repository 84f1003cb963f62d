/-! ===== REFERENCE: goes, onward ===== -/
section M67
variable {X : Nat × (Int → Int)} {d : Nat} {sh : List (Nat × Nat)} {R : Nat → Nat → Option Nat} {I : Nat → Int → Int} {K H E HO S L B : Int} {A : AS}
theorem core_n (hK : KP K H E HO S L) {n b : Int} (hn : 2 * E ≤ n ∧ n < S) (hb : 0 ≤ b ∧ b < HO) : (0 ≤ b / H / H ∧ b / H / H < 6) ∧ (0 ≤ (n - 2 * E) / H ∧ (n - 2 * E) / H < 3) ∧ (0 ≤ (n - 2 * E) % H ∧ (n - 2 * E) % H < 3) ∧ (HO + (b / H / H * H + (n - 2 * E) / H) * H + (n - 2 * E) % H = (E + b / H / H * H + (n - 2 * E) / H) * H + (n - 2 * E) % H ∧ 0 ≤ (E + b / H / H * H + (n - 2 * E) / H) * H + (n - 2 * E) % H ∧ (E + b / H / H * H + (n - 2 * E) / H) * H + (n - 2 * E) % H < L) := by
  refine ⟨⟨?_, ?_⟩, ⟨?_, ?_⟩, ⟨?_, ?_⟩, ?_, ?_, ?_⟩ <;> rcases hK with ⟨rfl, rfl, rfl, rfl, rfl, rfl⟩ | ⟨rfl, rfl, rfl, rfl, rfl, rfl⟩ | ⟨rfl, rfl, rfl, rfl, rfl, rfl⟩ <;> omega
theorem m161 (hF : MF sh R I K H E HO S L B A) {n b ss : Int} (hn : 0 ≤ n ∧ n < S) (hb : 0 ≤ b ∧ b < HO) (hss : 0 ≤ ss ∧ ss < H * H) : RV X (d + 4) 161 [.inr (some 57), .inl n, .inl b, .inl ss] (sh, R, I) (nl H E A n b ss) := by
  have hF0 := hF
  obtain ⟨hM, hK, hpo, hha, hms, hab, hB⟩ := hF
  have hr := hK.r
  have ht := rtier_c (E := E) (n := n)
  have hb9 := edge_r hK hb
  show WP X (d + 4) 161 0 [.inr (some 57), .inl n, .inl b, .inl ss, .inr none, .inr none, .inr none] [] (sh, R, I) 0 0 _
  refine w_aload (pc' := 1) k161_0 rfl rfl ?_
  refine w_iload (pc' := 2) k161_1 rfl rfl ?_
  refine w_callE (pc' := 5) (as := [.inr (some 57), .inl _]) k161_2 rfl rfl (co_v rfl rfl (hM.1 57 (11, 30) rfl)) (by decide) (m137 hF0) ?_
  refine w_istore (pc' := 7) (ls' := [_, _, _, _, _, _, _]) k161_5 rfl rfl rfl ?_
  refine w_iload (pc' := 8) k161_7 rfl rfl ?_
  refine w_iload (pc' := 9) k161_8 rfl rfl ?_
  refine w_aload (pc' := 10) k161_9 rfl rfl ?_
  refine w_getI (pc' := 13) (ki := 3) (v := H) k161_10 rfl (hM.1 57 (11, 30) rfl) rfl hha ?_
  refine w_idiv (pc' := 14) k161_13 rfl (by omega) ?_
  refine w_ic_ne (pc' := 17) k161_14 rfl (fun c_14 => ?_) (fun c_14 => ?_)
  · refine w_iload (pc' := 22) k161_20 rfl rfl ?_
    refine w_if_ne (pc' := 25) k161_22 rfl (fun c_22 => ?_) (fun c_22 => ?_)
    · refine w_iload (pc' := 35) k161_33 rfl rfl ?_
      refine w_c1 (pc' := 36) k161_35 rfl ?_
      refine w_ic_ne (pc' := 39) k161_36 rfl (fun c_36 => ?_) (fun c_36 => ?_)
      · have hco := core_n hK (n := n) (b := b) (by omega) hb
        refine w_iload (pc' := 48) k161_47 rfl rfl ?_
        refine w_c1 (pc' := 49) k161_48 rfl ?_
        refine w_aload (pc' := 50) k161_49 rfl rfl ?_
        refine w_callE (pc' := 53) (as := [.inr (some 57)]) k161_50 rfl rfl (co_v rfl rfl (hM.1 57 (11, 30) rfl)) (by decide) (m130 hF0) ?_
        refine w_imul (pc' := 54) k161_53 rfl (by omega) ?_
        refine w_isub (pc' := 55) k161_54 rfl (by omega) ?_
        refine w_istore (pc' := 57) (ls' := [_, _, _, _, _, _, _]) k161_55 rfl rfl rfl ?_
        refine w_aload (pc' := 58) k161_57 rfl rfl ?_
        refine w_iload (pc' := 59) k161_58 rfl rfl ?_
        refine w_aload (pc' := 60) k161_59 rfl rfl ?_
        refine w_getI (pc' := 63) (ki := 3) (v := H) k161_60 rfl (hM.1 57 (11, 30) rfl) rfl hha ?_
        refine w_idiv (pc' := 64) k161_63 rfl (by omega) ?_
        refine w_aload (pc' := 65) k161_64 rfl rfl ?_
        refine w_getI (pc' := 68) (ki := 3) (v := H) k161_65 rfl (hM.1 57 (11, 30) rfl) rfl hha ?_
        refine w_idiv (pc' := 69) k161_68 rfl (by omega) ?_
        refine w_iload (pc' := 71) k161_69 rfl rfl ?_
        refine w_aload (pc' := 72) k161_71 rfl rfl ?_
        refine w_getI (pc' := 75) (ki := 3) (v := H) k161_72 rfl (hM.1 57 (11, 30) rfl) rfl hha ?_
        refine w_idiv (pc' := 76) k161_75 rfl (by omega) ?_
        refine w_iload (pc' := 78) k161_76 rfl rfl ?_
        refine w_aload (pc' := 79) k161_78 rfl rfl ?_
        refine w_getI (pc' := 82) (ki := 3) (v := H) k161_79 rfl (hM.1 57 (11, 30) rfl) rfl hha ?_
        refine w_irem (pc' := 83) k161_82 rfl (by omega) ?_
        refine w_callE (pc' := 86) (as := [.inr (some 57), .inl _, .inl _, .inl _]) k161_83 rfl rfl (co_v rfl rfl (hM.1 57 (11, 30) rfl)) (by decide) (m139 hF0 hco.1 hco.2.1 hco.2.2.1 hco.2.2.2.1) ?_
        refine w_istore (pc' := 88) (ls' := [_, _, _, _, _, _, _]) k161_86 rfl rfl rfl ?_
        refine w_aload (pc' := 89) k161_88 rfl rfl ?_
        refine w_iload (pc' := 90) k161_89 rfl rfl ?_
        refine w_iload (pc' := 92) k161_90 rfl rfl ?_
        refine w_callB (pc' := 95) (as := [.inr (some 57), .inl _, .inl _]) k161_92 rfl rfl (co_v rfl rfl (hM.1 57 (11, 30) rfl)) (by decide) (m158 hF0 hn hco.2.2.2.2) (fun q_92 => ?_) (fun q_92 => ?_)
        · refine w_if_eq (pc' := 98) k161_95 rfl (fun c_95 => absurd c_95 (by decide)) (fun _ => ?_)
          refine w_iload (pc' := 100) k161_98 rfl rfl ?_
          refine w_goto k161_100 ?_
          exact w_reti k161_105 ⟨congrArg Sum.inl (by unfold nl; rw [if_neg c_14, if_neg (by omega), if_neg (by omega), if_pos q_92]), rfl⟩
        · refine w_if_eq (pc' := 98) k161_95 rfl (fun _ => ?_) (fun c_95 => absurd c_95 (by decide))
          refine w_c2 (pc' := 105) k161_103 rfl ?_
          exact w_reti k161_105 ⟨congrArg Sum.inl (by unfold nl; rw [if_neg c_14, if_neg (by omega), if_neg (by omega), if_neg q_92]), rfl⟩
      · refine w_aload (pc' := 40) k161_39 rfl rfl ?_
        refine w_iload (pc' := 41) k161_40 rfl rfl ?_
        refine w_iload (pc' := 42) k161_41 rfl rfl ?_
        refine w_iload (pc' := 43) k161_42 rfl rfl ?_
        refine w_callE (pc' := 46) (as := [.inr (some 57), .inl _, .inl _, .inl _]) k161_43 rfl rfl (co_v rfl rfl (hM.1 57 (11, 30) rfl)) (by decide) (m160 hF0 (by omega) hb hss) ?_
        exact w_reti k161_46 ⟨congrArg Sum.inl (by unfold nl; rw [if_neg c_14, if_neg (show ¬ n < E by omega), if_pos (show n < 2 * E by omega)]), rfl⟩
    · refine w_aload (pc' := 26) k161_25 rfl rfl ?_
      refine w_iload (pc' := 27) k161_26 rfl rfl ?_
      refine w_iload (pc' := 28) k161_27 rfl rfl ?_
      refine w_iload (pc' := 29) k161_28 rfl rfl ?_
      refine w_callE (pc' := 32) (as := [.inr (some 57), .inl _, .inl _, .inl _]) k161_29 rfl rfl (co_v rfl rfl (hM.1 57 (11, 30) rfl)) (by decide) (m159 hF0 (by omega) hb hss) ?_
      exact w_reti k161_32 ⟨congrArg Sum.inl (by unfold nl; rw [if_neg c_14, if_pos (by omega)]), rfl⟩
  · refine w_c2 (pc' := 19) k161_17 rfl ?_
    exact w_reti k161_19 ⟨congrArg Sum.inl (by unfold nl; rw [if_pos c_14]), rfl⟩
theorem m162 (hF : MF sh R I K H E HO S L B A) {n b t : Int} : RV X (d + 5) 162 [.inr (some 57), .inl n, .inl b, .inl t] (sh, R, I) (onwS H E HO S A n b t) := by
  have hF0 := hF
  obtain ⟨hM, hK, hpo, hha, hms, hab, hB⟩ := hF
  have hr := hK.r
  show WP X (d + 5) 162 0 [.inr (some 57), .inl n, .inl b, .inl t] [] (sh, R, I) 0 0 _
  refine w_aload (pc' := 1) k162_0 rfl rfl ?_
  refine w_iload (pc' := 2) k162_1 rfl rfl ?_
  refine w_callB (pc' := 5) (as := [.inr (some 57), .inl _]) k162_2 rfl rfl (co_v rfl rfl (hM.1 57 (11, 30) rfl)) (by decide) (m134 hF0) (fun q_2 => ?_) (fun q_2 => ?_)
  · refine w_if_eq (pc' := 8) k162_5 rfl (fun c_5 => absurd c_5 (by decide)) (fun _ => ?_)
    refine w_aload (pc' := 9) k162_8 rfl rfl ?_
    refine w_iload (pc' := 10) k162_9 rfl rfl ?_
    refine w_callB (pc' := 13) (as := [.inr (some 57), .inl _]) k162_10 rfl rfl (co_v rfl rfl (hM.1 57 (11, 30) rfl)) (by decide) (m133 hF0) (fun q_10 => ?_) (fun q_10 => ?_)
    · refine w_if_eq (pc' := 16) k162_13 rfl (fun c_13 => absurd c_13 (by decide)) (fun _ => ?_)
      refine w_aload (pc' := 17) k162_16 rfl rfl ?_
      refine w_iload (pc' := 18) k162_17 rfl rfl ?_
      refine w_callB (pc' := 21) (as := [.inr (some 57), .inl _]) k162_18 rfl rfl (co_v rfl rfl (hM.1 57 (11, 30) rfl)) (by decide) (m136 hF0) (fun q_18 => ?_) (fun q_18 => ?_)
      · refine w_if_eq (pc' := 24) k162_21 rfl (fun c_21 => absurd c_21 (by decide)) (fun _ => ?_)
        refine w_aload (pc' := 25) k162_24 rfl rfl ?_
        refine w_iload (pc' := 26) k162_25 rfl rfl ?_
        refine w_iload (pc' := 27) k162_26 rfl rfl ?_
        refine w_iload (pc' := 28) k162_27 rfl rfl ?_
        refine w_callE (pc' := 31) (as := [.inr (some 57), .inl _, .inl _, .inl _]) k162_28 rfl rfl (co_v rfl rfl (hM.1 57 (11, 30) rfl)) (by decide) (m161 hF0 q_2 q_10 q_18) ?_
        refine w_goto k162_31 ?_
        exact w_reti k162_35 ⟨by unfold onwS; rw [if_pos ⟨q_2, q_10, q_18⟩], rfl⟩
      · refine w_if_eq (pc' := 24) k162_21 rfl (fun _ => ?_) (fun c_21 => absurd c_21 (by decide))
        refine w_c1 (pc' := 35) k162_34 rfl ?_
        exact w_reti k162_35 ⟨by unfold onwS; rw [if_neg (fun z => q_18 z.2.2)], rfl⟩
    · refine w_if_eq (pc' := 16) k162_13 rfl (fun _ => ?_) (fun c_13 => absurd c_13 (by decide))
      refine w_c1 (pc' := 35) k162_34 rfl ?_
      exact w_reti k162_35 ⟨by unfold onwS; rw [if_neg (fun z => q_10 z.2.1)], rfl⟩
  · refine w_if_eq (pc' := 8) k162_5 rfl (fun _ => ?_) (fun c_5 => absurd c_5 (by decide))
    refine w_c1 (pc' := 35) k162_34 rfl ?_
    exact w_reti k162_35 ⟨by unfold onwS; rw [if_neg (fun z => q_2 z.1)], rfl⟩
end M67
