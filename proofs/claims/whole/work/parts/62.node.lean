/-! ===== REFERENCE: node, count, late ===== -/
section M62
variable {X : Nat × (Int → Int)} {d : Nat} {sh : List (Nat × Nat)} {R : Nat → Nat → Option Nat} {I : Nat → Int → Int} {K H E HO S L B : Int} {A : AS}
theorem rtier_c {n : Int} : (tierS E n = 0 ∧ n < E) ∨ (tierS E n = 1 ∧ ¬ n < E ∧ n < 2 * E) ∨ (tierS E n = 2 ∧ ¬ n < E ∧ ¬ n < 2 * E) := by
  unfold tierS
  by_cases h : n < E
  · rw [if_pos h]; exact Or.inl ⟨rfl, h⟩
  · rw [if_neg h]
    by_cases h2 : n < 2 * E
    · rw [if_pos h2]; exact Or.inr (Or.inl ⟨rfl, h, h2⟩)
    · rw [if_neg h2]; exact Or.inr (Or.inr ⟨rfl, h, h2⟩)
theorem rpod_e {n : Int} (h : tierS E n ≠ 2) : (n - tierS E n * E) / H = podS H E n := by
  unfold podS
  rcases rtier_c (E := E) (n := n) with ⟨e, h1⟩ | ⟨e, h1, h2⟩ | ⟨e, h1, h2⟩
  · rw [e, if_pos h1, show n - 0 * E = n by omega]
  · rw [e, if_neg h1, if_pos h2, show n - 1 * E = n - E by omega]
  · exact absurd e h
theorem rpod_2 {n : Int} (h : tierS E n = 2) : podS H E n = -4 := by
  unfold podS
  rcases rtier_c (E := E) (n := n) with ⟨e, h1⟩ | ⟨e, h1, h2⟩ | ⟨e, h1, h2⟩
  · omega
  · omega
  · rw [if_neg h1, if_neg h2]
theorem rplace_e {n : Int} (h : tierS E n ≠ 2) : (n - tierS E n * E) % H = placeS H E n := by
  unfold placeS
  rcases rtier_c (E := E) (n := n) with ⟨e, h1⟩ | ⟨e, h1, h2⟩ | ⟨e, h1, h2⟩
  · rw [e, if_pos h1, show n - 0 * E = n by omega]
  · rw [e, if_neg h1, if_pos h2, show n - 1 * E = n - E by omega]
  · exact absurd e h
theorem rplace_2 {n : Int} (h : tierS E n = 2) : (n - tierS E n * E) / H = placeS H E n := by
  unfold placeS
  rcases rtier_c (E := E) (n := n) with ⟨e, h1⟩ | ⟨e, h1, h2⟩ | ⟨e, h1, h2⟩
  · omega
  · omega
  · rw [e, if_neg h1, if_neg h2]
theorem rmemb_e {n : Int} (hE : 0 < E) (h : tierS E n ≠ 2) : membS H E n = -4 := by
  unfold membS
  rcases rtier_c (E := E) (n := n) with ⟨e, h1⟩ | ⟨e, h1, h2⟩ | ⟨e, h1, h2⟩
  · rw [if_pos (by omega)]
  · rw [if_pos h2]
  · exact absurd e h
theorem rmemb_2 {n : Int} (h : tierS E n = 2) : (n - tierS E n * E) % H = membS H E n := by
  unfold membS
  rcases rtier_c (E := E) (n := n) with ⟨e, h1⟩ | ⟨e, h1, h2⟩ | ⟨e, h1, h2⟩
  · omega
  · omega
  · rw [e, if_neg h2]
theorem m145 (hF : MF sh R I K H E HO S L B A) {n w : Int} : RV X (d + 4) 145 [.inr (some 57), .inl n, .inl w] (sh, R, I) (nodeS H E S L A n w) := by
  have hF0 := hF
  obtain ⟨hM, hK, hpo, hha, hms, hab, hB⟩ := hF
  have hr := hK.r
  have hte : n < S → 0 ≤ n → 0 ≤ tierS E n ∧ tierS E n ≤ 2 ∧ 0 ≤ tierS E n * E ∧ tierS E n * E ≤ 36 ∧ tierS E n * E ≤ n := by
    intro q1 q2
    rcases rtier_c (E := E) (n := n) with ⟨e, h1⟩ | ⟨e, h1, h2⟩ | ⟨e, h1, h2⟩ <;> rw [e] <;> omega
  show WP X (d + 4) 145 0 [.inr (some 57), .inl n, .inl w, .inr none, .inr none, .inr none, .inr none] [] (sh, R, I) 0 0 _
  refine w_aload (pc' := 1) k145_0 rfl rfl ?_
  refine w_iload (pc' := 2) k145_1 rfl rfl ?_
  refine w_callB (pc' := 5) (as := [.inr (some 57), .inl _]) k145_2 rfl rfl (co_v rfl rfl (hM.1 57 (11, 30) rfl)) (by decide) (m134 hF0) (fun q_2 => ?_) (fun q_2 => ?_)
  · refine w_if_eq (pc' := 8) k145_5 rfl (fun c_5 => absurd c_5 (by decide)) (fun _ => ?_)
    refine w_iload (pc' := 9) k145_8 rfl rfl ?_
    refine w_c1 (pc' := 10) k145_9 rfl ?_
    refine w_c1 (pc' := 11) k145_10 rfl ?_
    refine w_callB (pc' := 14) (as := [.inl _, .inl _, .inl _]) k145_11 rfl rfl (co_s (Or.inl rfl) rfl rfl rfl) (by decide) (m117) (fun q_11 => ?_) (fun q_11 => ?_)
    · refine w_if_ne (pc' := 17) k145_14 rfl (fun _ => ?_) (fun c_14 => absurd c_14 (by decide))
      refine w_aload (pc' := 20) k145_19 rfl rfl ?_
      refine w_iload (pc' := 21) k145_20 rfl rfl ?_
      refine w_callE (pc' := 24) (as := [.inr (some 57), .inl _]) k145_21 rfl rfl (co_v rfl rfl (hM.1 57 (11, 30) rfl)) (by decide) (m137 hF0) ?_
      refine w_istore (pc' := 25) (ls' := [_, _, _, _, _, _, _]) k145_24 rfl rfl rfl ?_
      refine w_iload (pc' := 26) k145_25 rfl rfl ?_
      refine w_iload (pc' := 27) k145_26 rfl rfl ?_
      refine w_aload (pc' := 28) k145_27 rfl rfl ?_
      refine w_callE (pc' := 31) (as := [.inr (some 57)]) k145_28 rfl rfl (co_v rfl rfl (hM.1 57 (11, 30) rfl)) (by decide) (m130 hF0) ?_
      refine w_imul (pc' := 32) k145_31 rfl (by have ht9 := hte q_2.2 q_2.1; omega) ?_
      refine w_isub (pc' := 33) k145_32 rfl (by have ht9 := hte q_2.2 q_2.1; omega) ?_
      refine w_istore (pc' := 35) (ls' := [_, _, _, _, _, _, _]) k145_33 rfl rfl rfl ?_
      refine w_iload (pc' := 36) k145_35 rfl rfl ?_
      refine w_swt k145_36 (fun i b hb e_36 => ?_) (fun e_36 => ?_)
      · match i, hb with
        | 0, hb =>
          obtain rfl : 68 = b := Option.some.inj hb
          refine w_iload (pc' := 69) k145_68 rfl rfl ?_
          exact w_reti k145_69 ⟨congrArg Sum.inl (by unfold nodeS; rw [if_pos q_2, if_pos (by omega)]), rfl⟩
        | 1, hb =>
          obtain rfl : 70 = b := Option.some.inj hb
          refine w_iload (pc' := 71) k145_70 rfl rfl ?_
          refine w_c1 (pc' := 72) k145_71 rfl ?_
          refine w_ic_ne (pc' := 75) k145_72 rfl (fun c_72 => ?_) (fun c_72 => ?_)
          · refine w_iload (pc' := 82) k145_80 rfl rfl ?_
            refine w_aload (pc' := 83) k145_82 rfl rfl ?_
            refine w_getI (pc' := 86) (ki := 3) (v := H) k145_83 rfl (hM.1 57 (11, 30) rfl) rfl hha ?_
            refine w_idiv (pc' := 87) k145_86 rfl (by have ht9 := hte q_2.2 q_2.1; omega) ?_
            exact w_reti k145_87 ⟨congrArg Sum.inl (by unfold nodeS; rw [if_pos q_2, if_neg (by omega), if_pos (by omega)]; exact rpod_e c_72), rfl⟩
          · refine w_c2 (pc' := 77) k145_75 rfl ?_
            refine w_goto k145_77 ?_
            exact w_reti k145_87 ⟨congrArg Sum.inl (by unfold nodeS; rw [if_pos q_2, if_neg (by omega), if_pos (by omega)]; exact (rpod_2 c_72).symm), rfl⟩
        | 2, hb =>
          obtain rfl : 88 = b := Option.some.inj hb
          refine w_iload (pc' := 89) k145_88 rfl rfl ?_
          refine w_c1 (pc' := 90) k145_89 rfl ?_
          refine w_ic_ne (pc' := 93) k145_90 rfl (fun c_90 => ?_) (fun c_90 => ?_)
          · refine w_iload (pc' := 105) k145_103 rfl rfl ?_
            refine w_aload (pc' := 106) k145_105 rfl rfl ?_
            refine w_getI (pc' := 109) (ki := 3) (v := H) k145_106 rfl (hM.1 57 (11, 30) rfl) rfl hha ?_
            refine w_irem (pc' := 110) k145_109 rfl (by have ht9 := hte q_2.2 q_2.1; omega) ?_
            exact w_reti k145_110 ⟨congrArg Sum.inl (by unfold nodeS; rw [if_pos q_2, if_neg (by omega), if_neg (by omega), if_pos (by omega)]; exact rplace_e c_90), rfl⟩
          · refine w_iload (pc' := 95) k145_93 rfl rfl ?_
            refine w_aload (pc' := 96) k145_95 rfl rfl ?_
            refine w_getI (pc' := 99) (ki := 3) (v := H) k145_96 rfl (hM.1 57 (11, 30) rfl) rfl hha ?_
            refine w_idiv (pc' := 100) k145_99 rfl (by have ht9 := hte q_2.2 q_2.1; omega) ?_
            refine w_goto k145_100 ?_
            exact w_reti k145_110 ⟨congrArg Sum.inl (by unfold nodeS; rw [if_pos q_2, if_neg (by omega), if_neg (by omega), if_pos (by omega)]; exact rplace_2 c_90), rfl⟩
        | 3, hb =>
          obtain rfl : 111 = b := Option.some.inj hb
          refine w_iload (pc' := 112) k145_111 rfl rfl ?_
          refine w_c1 (pc' := 113) k145_112 rfl ?_
          refine w_ic_ne (pc' := 116) k145_113 rfl (fun c_113 => ?_) (fun c_113 => ?_)
          · refine w_c2 (pc' := 128) k145_126 rfl ?_
            exact w_reti k145_128 ⟨congrArg Sum.inl (by unfold nodeS; rw [if_pos q_2, if_neg (by omega), if_neg (by omega), if_neg (by omega), if_pos (by omega)]; exact (rmemb_e (by omega) c_113).symm), rfl⟩
          · refine w_iload (pc' := 118) k145_116 rfl rfl ?_
            refine w_aload (pc' := 119) k145_118 rfl rfl ?_
            refine w_getI (pc' := 122) (ki := 3) (v := H) k145_119 rfl (hM.1 57 (11, 30) rfl) rfl hha ?_
            refine w_irem (pc' := 123) k145_122 rfl (by have ht9 := hte q_2.2 q_2.1; omega) ?_
            refine w_goto k145_123 ?_
            exact w_reti k145_128 ⟨congrArg Sum.inl (by unfold nodeS; rw [if_pos q_2, if_neg (by omega), if_neg (by omega), if_neg (by omega), if_pos (by omega)]; exact rmemb_2 c_113), rfl⟩
        | i + 4, hb => exact absurd hb (by simp)
      · refine w_c1 (pc' := 130) k145_129 rfl ?_
        refine w_istore (pc' := 132) (ls' := [_, _, _, _, _, _, _]) k145_130 rfl rfl rfl ?_
        refine w_c1 (pc' := 133) k145_132 rfl ?_
        refine w_istore (pc' := 135) (ls' := [_, _, _, _, _, _, _]) k145_133 rfl rfl rfl ?_
        have hw : w = 4 := by have e_36 := e_36; simp at e_36; omega
        rw [show nodeS H E S L A n w = lkC H E L A n 0 by unfold nodeS; rw [if_pos q_2, if_neg (by omega), if_neg (by omega), if_neg (by omega), if_neg (by omega), if_pos hw]]
        exact m145l hF0 (N := L.toNat) (by omega) L.toNat 0 _ _ (by omega) rfl rfl
    · refine w_if_ne (pc' := 17) k145_14 rfl (fun c_14 => absurd c_14 (by decide)) (fun _ => ?_)
      refine w_c1 (pc' := 18) k145_17 rfl ?_
      exact w_reti k145_18 ⟨by unfold nodeS; rw [if_pos q_2, if_neg (by omega), if_neg (by omega), if_neg (by omega), if_neg (by omega), if_neg (by omega)], rfl⟩
  · refine w_if_eq (pc' := 8) k145_5 rfl (fun _ => ?_) (fun c_5 => absurd c_5 (by decide))
    refine w_c1 (pc' := 18) k145_17 rfl ?_
    exact w_reti k145_18 ⟨by unfold nodeS; rw [if_neg q_2], rfl⟩
end M62
