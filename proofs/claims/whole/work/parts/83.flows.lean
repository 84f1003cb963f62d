/-! ===== REFERENCE: flow, drop, shift, write, wipe ===== -/
section M83
variable {X : Nat × (Int → Int)} {d : Nat} {sh : List (Nat × Nat)} {R : Nat → Nat → Option Nat} {I : Nat → Int → Int} {K H E HO S L B : Int} {A : AS}
variable {A1 A2 : AS} {u : Int} {tx : Int → Int} {len : Int}
theorem m175 (hG : MG sh R I K H E HO S L B (A, A1, A2, u) tx len) (hB1 : B + 2 ≤ 1000000) {a b c : Int} : QN X (d + 4) 175 [.inr (some 57), .inl a, .inl b, .inl c] sh R I K H E HO S L (B + 1) (flowV HO A a b c) (flowZ HO (A, A1, A2, u) a b c) tx len := by
  have hG0 := hG
  obtain ⟨hF, h9, hW, hT⟩ := hG
  have hF : MF sh R I K H E HO S L B A := hF
  have hF0 := hF
  obtain ⟨hM, hK, hpo, hha, hms, hab, hB⟩ := hF
  have hr := hK.r
  have h9' : I 57 9 = u := h9
  have hnf := hab.2.2.1
  show WP X (d + 4) 175 0 [.inr (some 57), .inl a, .inl b, .inl c] [] (sh, R, I) 0 0 _
  refine w_aload (pc' := 1) k175_0 rfl rfl ?_
  refine w_iload (pc' := 2) k175_1 rfl rfl ?_
  refine w_iload (pc' := 3) k175_2 rfl rfl ?_
  refine w_callB (pc' := 6) (as := [.inr (some 57), .inl _, .inl _]) k175_3 rfl rfl (co_v rfl rfl (hM.1 57 (11, 30) rfl)) (by decide) (m164 hF0) (fun q_3 => ?_) (fun q_3 => ?_)
  · refine w_if_eq (pc' := 9) k175_6 rfl (fun c_6 => absurd c_6 (by decide)) (fun _ => ?_)
    refine w_iload (pc' := 10) k175_9 rfl rfl ?_
    refine w_c1 (pc' := 11) k175_10 rfl ?_
    refine w_c2 (pc' := 13) k175_11 rfl ?_
    refine w_callB (pc' := 16) (as := [.inl _, .inl _, .inl _]) k175_13 rfl rfl (co_s (Or.inl rfl) rfl rfl rfl) (by decide) (m117) (fun q_13 => ?_) (fun q_13 => ?_)
    · refine w_if_ne (pc' := 19) k175_16 rfl (fun _ => ?_) (fun c_16 => absurd c_16 (by decide))
      refine w_aload (pc' := 22) k175_21 rfl rfl ?_
      refine w_getI (pc' := 25) (ki := 7) (v := aNf A) k175_22 rfl (hM.1 57 (11, 30) rfl) rfl hms.1 ?_
      refine w_c2 (pc' := 27) k175_25 rfl ?_
      refine w_ic_ne (pc' := 30) k175_27 rfl (fun c_27 => ?_) (fun c_27 => ?_)
      · refine w_aload (pc' := 34) k175_33 rfl rfl ?_
        refine w_callV (pc' := 37) (as := [.inr (some 57)]) k175_34 rfl rfl (co_v rfl rfl (hM.1 57 (11, 30) rfl)) (by decide) (m147 hM h9' hW.1) (fun r_34 h_34 hq => ?_)
        obtain ⟨I_1, rfl, kp⟩ := hq
        have hF1 := kp.mf hF0
        have g7 : I_1 57 7 = aNf A := hF1.2.2.2.2.1.1
        refine w_aload (pc' := 38) k175_37 rfl rfl ?_
        refine w_getR (pc' := 41) (v := 62) k175_38 rfl (hM.1 57 (11, 30) rfl) (hM.2 57 8 62 rfl) ?_
        refine w_c1 (pc' := 42) k175_41 rfl ?_
        refine w_aload (pc' := 43) k175_42 rfl rfl ?_
        refine w_getI (pc' := 46) (ki := 7) (v := aNf A) k175_43 rfl (hM.1 57 (11, 30) rfl) rfl (by exact g7) ?_
        refine w_imul (pc' := 47) k175_46 rfl (by omega) ?_
        refine w_iload (pc' := 48) k175_47 rfl rfl ?_
        refine w_iast (pc' := 49) k175_48 rfl (hM.1 62 (0, 64) rfl) (by omega) ?_
        refine w_aload (pc' := 50) k175_49 rfl rfl ?_
        refine w_getR (pc' := 53) (v := 62) k175_50 rfl (hM.1 57 (11, 30) rfl) (hM.2 57 8 62 rfl) ?_
        refine w_c1 (pc' := 54) k175_53 rfl ?_
        refine w_aload (pc' := 55) k175_54 rfl rfl ?_
        refine w_getI (pc' := 58) (ki := 7) (v := aNf A) k175_55 rfl (hM.1 57 (11, 30) rfl) rfl (by rw [upA_n (by decide)]; exact g7) ?_
        refine w_imul (pc' := 59) k175_58 rfl (by omega) ?_
        refine w_c1 (pc' := 60) k175_59 rfl ?_
        refine w_iadd (pc' := 61) k175_60 rfl (by omega) ?_
        refine w_iload (pc' := 62) k175_61 rfl rfl ?_
        refine w_iast (pc' := 63) k175_62 rfl (hM.1 62 (0, 64) rfl) (by omega) ?_
        refine w_aload (pc' := 64) k175_63 rfl rfl ?_
        refine w_getR (pc' := 67) (v := 62) k175_64 rfl (hM.1 57 (11, 30) rfl) (hM.2 57 8 62 rfl) ?_
        refine w_c1 (pc' := 68) k175_67 rfl ?_
        refine w_aload (pc' := 69) k175_68 rfl rfl ?_
        refine w_getI (pc' := 72) (ki := 7) (v := aNf A) k175_69 rfl (hM.1 57 (11, 30) rfl) rfl (by rw [upA_n (by decide)]; rw [upA_n (by decide)]; exact g7) ?_
        refine w_imul (pc' := 73) k175_72 rfl (by omega) ?_
        refine w_c1 (pc' := 74) k175_73 rfl ?_
        refine w_iadd (pc' := 75) k175_74 rfl (by omega) ?_
        refine w_iload (pc' := 76) k175_75 rfl rfl ?_
        refine w_iast (pc' := 77) k175_76 rfl (hM.1 62 (0, 64) rfl) (by omega) ?_
        refine w_aload (pc' := 78) k175_77 rfl rfl ?_
        refine w_getR (pc' := 81) (v := 62) k175_78 rfl (hM.1 57 (11, 30) rfl) (hM.2 57 8 62 rfl) ?_
        refine w_c1 (pc' := 82) k175_81 rfl ?_
        refine w_aload (pc' := 83) k175_82 rfl rfl ?_
        refine w_getI (pc' := 86) (ki := 7) (v := aNf A) k175_83 rfl (hM.1 57 (11, 30) rfl) rfl (by rw [upA_n (by decide)]; rw [upA_n (by decide)]; rw [upA_n (by decide)]; exact g7) ?_
        refine w_imul (pc' := 87) k175_86 rfl (by omega) ?_
        refine w_c1 (pc' := 88) k175_87 rfl ?_
        refine w_iadd (pc' := 89) k175_88 rfl (by omega) ?_
        refine w_c1 (pc' := 90) k175_89 rfl ?_
        refine w_iast (pc' := 91) k175_90 rfl (hM.1 62 (0, 64) rfl) (by omega) ?_
        refine w_aload (pc' := 92) k175_91 rfl rfl ?_
        refine w_dup (pc' := 93) k175_92 rfl ?_
        refine w_getI (pc' := 96) (ki := 7) (v := aNf A) k175_93 rfl (hM.1 57 (11, 30) rfl) rfl (by rw [upA_n (by decide)]; rw [upA_n (by decide)]; rw [upA_n (by decide)]; rw [upA_n (by decide)]; exact g7) ?_
        refine w_c1 (pc' := 97) k175_96 rfl ?_
        refine w_iadd (pc' := 98) k175_97 rfl (by omega) ?_
        refine w_putI (pc' := 101) (ki := 7) k175_98 rfl (hM.1 57 (11, 30) rfl) rfl ?_
        refine w_aload (pc' := 102) k175_101 rfl rfl ?_
        refine w_getI (pc' := 105) (ki := 7) (v := aNf A + 1) k175_102 rfl (hM.1 57 (11, 30) rfl) rfl (by rw [upA_s, upF_s]) ?_
        refine w_c1 (pc' := 106) k175_105 rfl ?_
        refine w_isub (pc' := 107) k175_106 rfl (by omega) ?_
        generalize h_9 : upA _ 57 _ = I_9
        have e62 : I_9 62 = upF (upF (upF (upF (I 62) (4 * aNf A) a) (4 * aNf A + 1) b) (4 * aNf A + 2) c) (4 * aNf A + 3) 0 := by rw [← h_9, upA_n (by decide), upA_s, upA_s, upA_s, upA_s, kp.1 62 (by decide) (by decide)]
        have eo : ∀ x, x ≠ 57 → x ≠ 62 → I_9 x = I_1 x := fun x q1 q2 => by rw [← h_9, upA_n q1, upA_n q2, upA_n q2, upA_n q2, upA_n q2]
        have e57 : I_9 57 = upF (I_1 57) 7 (aNf A + 1) := by rw [← h_9, upA_s, upA_n (by decide), upA_n (by decide), upA_n (by decide), upA_n (by decide)]
        have e7 : aNf (addA A a b c) = aNf A + 1 := rfl
        refine w_reti k175_107 ⟨?_, _, rfl, fun x q => by rw [eo x (by omega) (by omega), kp.1 x (by omega) (by omega)], ?_⟩
        · unfold flowV; rw [if_pos (show ((0 ≤ a ∧ a < HO) ∧ (0 ≤ b ∧ b < HO) ∧ a ≠ b) ∧ 1 ≤ c ∧ c ≤ 99 from ⟨q_3, q_13⟩), if_pos (by omega), show aNf A + 1 - 1 = aNf A by omega]
        · unfold flowZ
          rw [if_pos (show ((0 ≤ a ∧ a < HO) ∧ (0 ≤ b ∧ b < HO) ∧ a ≠ b) ∧ 1 ≤ c ∧ c ≤ 99 from ⟨q_3, q_13⟩), if_pos (show aNf A < 16 by omega)]
          refine hG0.push kp (show B ≤ B + 1 by omega) ⟨hM, hK, by rw [e57, upF_n (by decide)]; exact hF1.2.2.1, by rw [e57, upF_n (by decide)]; exact hF1.2.2.2.1, ⟨by rw [e57, upF_s]; rfl, fun l q1 q2 => by rw [eo 59 (by decide) (by decide)]; exact hF1.2.2.2.2.1.2.1 l q1 q2, fun n l q1 q2 q3 q4 => by rw [eo 60 (by decide) (by decide)]; exact hF1.2.2.2.2.1.2.2.1 n l q1 q2 q3 q4, fun f q1 q2 => ?_⟩, (add_AB hab q_3.1 q_3.2.1 q_3.2.2 q_13 (by omega) (Int.mul_pos (by omega) (by omega))).mono (by omega), by omega⟩ (fun x q => eo x (by omega) (by omega)) (fun j q => by rw [e57, upF_n (by omega)])
          rw [e7] at q2
          rw [e62]
          show _ = upF (aFr A) (aNf A) a f ∧ _ = upF (aTo A) (aNf A) b f ∧ _ = upF (aSz A) (aNf A) c f ∧ _ = upF (aSh A) (aNf A) 0 f
          by_cases cf : f = aNf A
          · subst cf
            rw [upF_s, upF_s, upF_s, upF_s]
            refine ⟨?_, ?_, ?_, ?_⟩
            · rw [upF_n (by omega), upF_n (by omega), upF_n (by omega), upF_s]
            · rw [upF_n (by omega), upF_n (by omega), upF_s]
            · rw [upF_n (by omega), upF_s]
            · rw [upF_s]
          · have h8 := hms.2.2.2 f q1 (by omega)
            rw [upF_n cf, upF_n cf, upF_n cf, upF_n cf]
            refine ⟨?_, ?_, ?_, ?_⟩
            · rw [upF_n (by omega), upF_n (by omega), upF_n (by omega), upF_n (by omega)]; exact h8.1
            · rw [upF_n (by omega), upF_n (by omega), upF_n (by omega), upF_n (by omega)]; exact h8.2.1
            · rw [upF_n (by omega), upF_n (by omega), upF_n (by omega), upF_n (by omega)]; exact h8.2.2.1
            · rw [upF_n (by omega), upF_n (by omega), upF_n (by omega), upF_n (by omega)]; exact h8.2.2.2
      · refine w_c2 (pc' := 32) k175_30 rfl ?_
        exact w_reti k175_32 ⟨by unfold flowV; rw [if_pos (show ((0 ≤ a ∧ a < HO) ∧ (0 ≤ b ∧ b < HO) ∧ a ≠ b) ∧ 1 ≤ c ∧ c ≤ 99 from ⟨q_3, q_13⟩), if_neg (by omega)], _, rfl, fun _ _ => rfl, by unfold flowZ; rw [if_pos (show ((0 ≤ a ∧ a < HO) ∧ (0 ≤ b ∧ b < HO) ∧ a ≠ b) ∧ 1 ≤ c ∧ c ≤ 99 from ⟨q_3, q_13⟩), if_neg (show ¬ aNf A < 16 by omega)]; exact hG0.mono (by omega) (by omega)⟩
    · refine w_if_ne (pc' := 19) k175_16 rfl (fun c_16 => absurd c_16 (by decide)) (fun _ => ?_)
      refine w_c1 (pc' := 20) k175_19 rfl ?_
      exact w_reti k175_20 ⟨by unfold flowV; rw [if_neg (fun z => q_13 z.2)], _, rfl, fun _ _ => rfl, by unfold flowZ; rw [if_neg (fun z => q_13 z.2)]; exact hG0.mono (by omega) (by omega)⟩
  · refine w_if_eq (pc' := 9) k175_6 rfl (fun _ => ?_) (fun c_6 => absurd c_6 (by decide))
    refine w_c1 (pc' := 20) k175_19 rfl ?_
    exact w_reti k175_20 ⟨by unfold flowV; rw [if_neg (fun z => q_3 z.1)], _, rfl, fun _ _ => rfl, by unfold flowZ; rw [if_neg (fun z => q_3 z.1)]; exact hG0.mono (by omega) (by omega)⟩
theorem m177 (hG : MG sh R I K H E HO S L B (A, A1, A2, u) tx len) (hB1 : B + 2 ≤ 1000000) {f t : Int} : QN X (d + 4) 177 [.inr (some 57), .inl f, .inl t] sh R I K H E HO S L (B + 1) (shifV H A f t) (shifZ H (A, A1, A2, u) f t) tx len := by
  have hG0 := hG
  obtain ⟨hF, h9, hW, hT⟩ := hG
  have hF : MF sh R I K H E HO S L B A := hF
  have hF0 := hF
  obtain ⟨hM, hK, hpo, hha, hms, hab, hB⟩ := hF
  have hr := hK.r
  have h9' : I 57 9 = u := h9
  have hnf := hab.2.2.1
  show WP X (d + 4) 177 0 [.inr (some 57), .inl f, .inl t, .inr none] [] (sh, R, I) 0 0 _
  refine w_aload (pc' := 1) k177_0 rfl rfl ?_
  refine w_iload (pc' := 2) k177_1 rfl rfl ?_
  refine w_callB (pc' := 5) (as := [.inr (some 57), .inl _]) k177_2 rfl rfl (co_v rfl rfl (hM.1 57 (11, 30) rfl)) (by decide) (m174 hF0) (fun q_2 => ?_) (fun q_2 => ?_)
  · refine w_if_eq (pc' := 8) k177_5 rfl (fun c_5 => absurd c_5 (by decide)) (fun _ => ?_)
    refine w_aload (pc' := 9) k177_8 rfl rfl ?_
    refine w_iload (pc' := 10) k177_9 rfl rfl ?_
    refine w_callB (pc' := 13) (as := [.inr (some 57), .inl _]) k177_10 rfl rfl (co_v rfl rfl (hM.1 57 (11, 30) rfl)) (by decide) (m136 hF0) (fun q_10 => ?_) (fun q_10 => ?_)
    · refine w_if_ne (pc' := 16) k177_13 rfl (fun _ => ?_) (fun c_13 => absurd c_13 (by decide))
      refine w_aload (pc' := 19) k177_18 rfl rfl ?_
      refine w_getR (pc' := 22) (v := 62) k177_19 rfl (hM.1 57 (11, 30) rfl) (hM.2 57 8 62 rfl) ?_
      refine w_c1 (pc' := 23) k177_22 rfl ?_
      refine w_iload (pc' := 24) k177_23 rfl rfl ?_
      refine w_imul (pc' := 25) k177_24 rfl (by omega) ?_
      refine w_c1 (pc' := 26) k177_25 rfl ?_
      refine w_iadd (pc' := 27) k177_26 rfl (by omega) ?_
      refine w_iald (pc' := 28) (v := aSh A f) k177_27 rfl (hM.1 62 (0, 64) rfl) (by omega) (hms.2.2.2 f q_2.1 q_2.2).2.2.2 ?_
      refine w_istore (pc' := 29) (ls' := [_, _, _, _]) k177_28 rfl rfl rfl ?_
      refine w_iload (pc' := 30) k177_29 rfl rfl ?_
      refine w_iload (pc' := 31) k177_30 rfl rfl ?_
      refine w_ic_ne (pc' := 34) k177_31 rfl (fun c_31 => ?_) (fun c_31 => ?_)
      · refine w_aload (pc' := 38) k177_37 rfl rfl ?_
        refine w_callV (pc' := 41) (as := [.inr (some 57)]) k177_38 rfl rfl (co_v rfl rfl (hM.1 57 (11, 30) rfl)) (by decide) (m147 hM h9' hW.1) (fun r_38 h_38 hq => ?_)
        obtain ⟨I_1, rfl, kp⟩ := hq
        have hF1 := kp.mf hF0
        have g7 : I_1 57 7 = aNf A := hF1.2.2.2.2.1.1
        refine w_aload (pc' := 42) k177_41 rfl rfl ?_
        refine w_getR (pc' := 45) (v := 62) k177_42 rfl (hM.1 57 (11, 30) rfl) (hM.2 57 8 62 rfl) ?_
        refine w_c1 (pc' := 46) k177_45 rfl ?_
        refine w_iload (pc' := 47) k177_46 rfl rfl ?_
        refine w_imul (pc' := 48) k177_47 rfl (by omega) ?_
        refine w_c1 (pc' := 49) k177_48 rfl ?_
        refine w_iadd (pc' := 50) k177_49 rfl (by omega) ?_
        refine w_iload (pc' := 51) k177_50 rfl rfl ?_
        refine w_iast (pc' := 52) k177_51 rfl (hM.1 62 (0, 64) rfl) (by omega) ?_
        refine w_iload (pc' := 53) k177_52 rfl rfl ?_
        exact w_reti k177_53 ⟨by unfold shifV; rw [if_pos (show (0 ≤ f ∧ f < aNf A) ∧ 0 ≤ t ∧ t < H * H from ⟨q_2, q_10⟩), if_neg c_31], _, rfl, fun x q => by rw [upA_n (by omega), kp.1 x (by omega) (by omega)], by unfold shifZ; rw [if_pos (show (0 ≤ f ∧ f < aNf A) ∧ 0 ≤ t ∧ t < H * H from ⟨q_2, q_10⟩), if_neg c_31]; exact hG0.push kp (show B ≤ B + 1 by omega) ((hF1.shw q_2 q_10).mono (by omega) (by omega)) (fun x q => by rw [upA_n (by omega)]) (fun j q => by rw [upA_n (by decide)])⟩
      · refine w_c2 (pc' := 36) k177_34 rfl ?_
        exact w_reti k177_36 ⟨by unfold shifV; rw [if_pos (show (0 ≤ f ∧ f < aNf A) ∧ 0 ≤ t ∧ t < H * H from ⟨q_2, q_10⟩), if_pos c_31], _, rfl, fun _ _ => rfl, by unfold shifZ; rw [if_pos (show (0 ≤ f ∧ f < aNf A) ∧ 0 ≤ t ∧ t < H * H from ⟨q_2, q_10⟩), if_pos c_31]; exact hG0.mono (by omega) (by omega)⟩
    · refine w_if_ne (pc' := 16) k177_13 rfl (fun c_13 => absurd c_13 (by decide)) (fun _ => ?_)
      refine w_c1 (pc' := 17) k177_16 rfl ?_
      exact w_reti k177_17 ⟨by unfold shifV; rw [if_neg (fun z => q_10 z.2)], _, rfl, fun _ _ => rfl, by unfold shifZ; rw [if_neg (fun z => q_10 z.2)]; exact hG0.mono (by omega) (by omega)⟩
  · refine w_if_eq (pc' := 8) k177_5 rfl (fun _ => ?_) (fun c_5 => absurd c_5 (by decide))
    refine w_c1 (pc' := 17) k177_16 rfl ?_
    exact w_reti k177_17 ⟨by unfold shifV; rw [if_neg (fun z => q_2 z.1)], _, rfl, fun _ _ => rfl, by unfold shifZ; rw [if_neg (fun z => q_2 z.1)]; exact hG0.mono (by omega) (by omega)⟩
theorem m176l (hG : MG sh R I K H E HO S L B (A, A1, A2, u) tx len) (hB1 : B + 2 ≤ 1000000) {f : Int} (hf : 0 ≤ f ∧ f < aNf A) {I1 : Nat → Int → Int} (kp : KPT I I1 u) {N : Nat} (hN : 4 * (aNf A - 1 - f) = (N : Int)) : ∀ (k m : Nat) (i : Int) (I2 : Nat → Int → Int), m + k = N → i = 4 * f + (m : Int) → I2 = upA (upA I1 57 (upF (I1 57) 7 (aNf A - 1))) 62 (cqF (I1 62) (I1 62) (4 * f) (4 * f + 4) m) → WP X (d + 4) 176 28 [.inr (some 57), .inl f, .inl i] [] (sh, R, I2) 0 0 (fun r h' => r = .inl (dropV A f) ∧ ∃ I', h' = (sh, R, I') ∧ (∀ a, a < 57 ∨ 77 < a → I' a = I a) ∧ MG sh R I' K H E HO S L (B + 1) (dropZ (A, A1, A2, u) f) tx len) := by
  have hG0 := hG
  obtain ⟨hF, h9, hW, hT⟩ := hG
  have hF : MF sh R I K H E HO S L B A := hF
  have hF0 := hF
  obtain ⟨hM, hK, hpo, hha, hms, hab, hB⟩ := hF
  have hr := hK.r
  have h9' : I 57 9 = u := h9
  have hnf := hab.2.2.1
  have hF1 := kp.mf hF0
  intro k
  induction k with
  | zero =>
    rintro m i I2 hk rfl e2
    have e : m = N := by omega
    subst e
    have e57 : I2 57 = upF (I1 57) 7 (aNf A - 1) := by rw [e2, upA_n (by decide), upA_s]
    have g7 : I2 57 7 = aNf A - 1 := by rw [e57, upF_s]
    have e62 : I2 62 = cqF (I1 62) (I1 62) (4 * f) (4 * f + 4) m := by rw [e2, upA_s]
    have eo : ∀ x, x ≠ 57 → x ≠ 62 → I2 x = I1 x := fun x q1 q2 => by rw [e2, upA_n q2, upA_n q1]
    refine w_iload (pc' := 29) k176_28 rfl rfl ?_
    refine w_c1 (pc' := 30) k176_29 rfl ?_
    refine w_aload (pc' := 31) k176_30 rfl rfl ?_
    refine w_getI (pc' := 34) (ki := 7) (v := aNf A - 1) k176_31 rfl (hM.1 57 (11, 30) rfl) rfl g7 ?_
    refine w_imul (pc' := 35) k176_34 rfl (by omega) ?_
    refine w_ic_ge (pc' := 38) k176_35 rfl (fun c_35 => ?_) (fun c_35 => absurd c_35 (by omega))
    refine w_aload (pc' := 59) k176_58 rfl rfl ?_
    refine w_getI (pc' := 62) (ki := 7) (v := aNf A - 1) k176_59 rfl (hM.1 57 (11, 30) rfl) rfl g7 ?_
    refine w_reti k176_62 ⟨?_, _, rfl, fun x q => by rw [eo x (by omega) (by omega), kp.1 x (by omega) (by omega)], ?_⟩
    · unfold dropV; rw [if_pos hf]
    · unfold dropZ
      rw [if_pos (show 0 ≤ f ∧ f < aNf A from hf)]
      refine hG0.push kp (show B ≤ B + 1 by omega) ⟨hM, hK, by rw [e57, upF_n (by decide)]; exact hF1.2.2.1, by rw [e57, upF_n (by decide)]; exact hF1.2.2.2.1, ⟨by rw [e57, upF_s]; rfl, fun l q1 q2 => by rw [eo 59 (by decide) (by decide)]; exact hF1.2.2.2.2.1.2.1 l q1 q2, fun n l q1 q2 q3 q4 => by rw [eo 60 (by decide) (by decide)]; exact hF1.2.2.2.2.1.2.2.1 n l q1 q2 q3 q4, fun g q1 q2 => ?_⟩, (drop_AB hab hf).mono (by omega), by omega⟩ (fun x q => eo x (by omega) (by omega)) (fun j q => by rw [e57, upF_n (by omega)])
      have q3 : g < aNf A - 1 := q2
      rw [e62]
      show _ = dnF (aFr A) f g ∧ _ = dnF (aTo A) f g ∧ _ = dnF (aSz A) f g ∧ _ = dnF (aSh A) f g
      unfold dnF
      by_cases cg : g < f
      · rw [if_pos cg, if_pos cg, if_pos cg, if_pos cg, cqF_out (by omega), cqF_out (by omega), cqF_out (by omega), cqF_out (by omega)]
        exact hF1.2.2.2.2.1.2.2.2 g q1 (by omega)
      · have h8 := hF1.2.2.2.2.1.2.2.2 (g + 1) (by omega) (by omega)
        have rd : ∀ i : Int, 0 ≤ i → i < 4 → cqF (I1 62) (I1 62) (4 * f) (4 * f + 4) m (4 * g + i) = I1 62 (4 * (g + 1) + i) := by
          intro i i0 i1
          rw [show 4 * g + i = 4 * f + (4 * g + i - 4 * f) by omega, cqF_in (by omega), show 4 * f + 4 + (4 * g + i - 4 * f) = 4 * (g + 1) + i by omega]
        rw [if_neg cg, if_neg cg, if_neg cg, if_neg cg, rd 1 (by omega) (by omega), rd 2 (by omega) (by omega), rd 3 (by omega) (by omega)]
        have r0 := rd 0 (by omega) (by omega)
        rw [Int.add_zero, Int.add_zero] at r0
        rw [r0]
        exact h8
  | succ k ih =>
    rintro m i I2 hk rfl e2
    have g7 : I2 57 7 = aNf A - 1 := by rw [e2, upA_n (by decide), upA_s, upF_s]
    refine w_iload (pc' := 29) k176_28 rfl rfl ?_
    refine w_c1 (pc' := 30) k176_29 rfl ?_
    refine w_aload (pc' := 31) k176_30 rfl rfl ?_
    refine w_getI (pc' := 34) (ki := 7) (v := aNf A - 1) k176_31 rfl (hM.1 57 (11, 30) rfl) rfl g7 ?_
    refine w_imul (pc' := 35) k176_34 rfl (by omega) ?_
    refine w_ic_ge (pc' := 38) k176_35 rfl (fun c_35 => absurd c_35 (by omega)) (fun c_35 => ?_)
    refine w_aload (pc' := 39) k176_38 rfl rfl ?_
    refine w_getR (pc' := 42) (v := 62) k176_39 rfl (hM.1 57 (11, 30) rfl) (hM.2 57 8 62 rfl) ?_
    refine w_iload (pc' := 43) k176_42 rfl rfl ?_
    refine w_aload (pc' := 44) k176_43 rfl rfl ?_
    refine w_getR (pc' := 47) (v := 62) k176_44 rfl (hM.1 57 (11, 30) rfl) (hM.2 57 8 62 rfl) ?_
    refine w_iload (pc' := 48) k176_47 rfl rfl ?_
    refine w_c1 (pc' := 49) k176_48 rfl ?_
    refine w_iadd (pc' := 50) k176_49 rfl (by omega) ?_
    refine w_iald (pc' := 51) (v := I1 62 (4 * f + 4 + (m : Int))) k176_50 rfl (hM.1 62 (0, 64) rfl) (by omega) (by rw [e2, upA_s, cqF_out (by omega)]; congr 1; omega) ?_
    refine w_iast (pc' := 52) k176_51 rfl (hM.1 62 (0, 64) rfl) (by omega) ?_
    refine w_iinc (pc' := 55) (ls' := [_, _, _]) k176_52 rfl rfl (by omega) rfl ?_
    refine w_goto k176_55 ?_
    exact ih (m + 1) _ _ (by omega) (by omega) (by rw [e2, upA_s, upA_uu, cqF_s (by omega) rfl])
theorem m176 (hG : MG sh R I K H E HO S L B (A, A1, A2, u) tx len) (hB1 : B + 2 ≤ 1000000) {f : Int} : QN X (d + 4) 176 [.inr (some 57), .inl f] sh R I K H E HO S L (B + 1) (dropV A f) (dropZ (A, A1, A2, u) f) tx len := by
  have hG0 := hG
  obtain ⟨hF, h9, hW, hT⟩ := hG
  have hF : MF sh R I K H E HO S L B A := hF
  have hF0 := hF
  obtain ⟨hM, hK, hpo, hha, hms, hab, hB⟩ := hF
  have hr := hK.r
  have h9' : I 57 9 = u := h9
  have hnf := hab.2.2.1
  show WP X (d + 4) 176 0 [.inr (some 57), .inl f, .inr none] [] (sh, R, I) 0 0 _
  refine w_aload (pc' := 1) k176_0 rfl rfl ?_
  refine w_iload (pc' := 2) k176_1 rfl rfl ?_
  refine w_callB (pc' := 5) (as := [.inr (some 57), .inl _]) k176_2 rfl rfl (co_v rfl rfl (hM.1 57 (11, 30) rfl)) (by decide) (m174 hF0) (fun q_2 => ?_) (fun q_2 => ?_)
  · refine w_if_ne (pc' := 8) k176_5 rfl (fun _ => ?_) (fun c_5 => absurd c_5 (by decide))
    refine w_aload (pc' := 11) k176_10 rfl rfl ?_
    refine w_callV (pc' := 14) (as := [.inr (some 57)]) k176_11 rfl rfl (co_v rfl rfl (hM.1 57 (11, 30) rfl)) (by decide) (m147 hM h9' hW.1) (fun r_11 h_11 hq => ?_)
    obtain ⟨I_1, rfl, kp⟩ := hq
    have hF1 := kp.mf hF0
    have g7 : I_1 57 7 = aNf A := hF1.2.2.2.2.1.1
    refine w_aload (pc' := 15) k176_14 rfl rfl ?_
    refine w_dup (pc' := 16) k176_15 rfl ?_
    refine w_getI (pc' := 19) (ki := 7) (v := aNf A) k176_16 rfl (hM.1 57 (11, 30) rfl) rfl g7 ?_
    refine w_c1 (pc' := 20) k176_19 rfl ?_
    refine w_isub (pc' := 21) k176_20 rfl (by omega) ?_
    refine w_putI (pc' := 24) (ki := 7) k176_21 rfl (hM.1 57 (11, 30) rfl) rfl ?_
    refine w_c1 (pc' := 25) k176_24 rfl ?_
    refine w_iload (pc' := 26) k176_25 rfl rfl ?_
    refine w_imul (pc' := 27) k176_26 rfl (by omega) ?_
    refine w_istore (pc' := 28) (ls' := [_, _, _]) k176_27 rfl rfl rfl ?_
    exact m176l hG0 hB1 q_2 kp (N := (4 * (aNf A - 1 - f)).toNat) (by omega) (4 * (aNf A - 1 - f)).toNat 0 _ _ (by omega) (by omega) (by rw [cqF_0, ← upA_n (I := I_1) (a := 57) (b := 62) (f := upF (I_1 57) 7 (aNf A - 1)) (by decide), upA_id])
  · refine w_if_ne (pc' := 8) k176_5 rfl (fun c_5 => absurd c_5 (by decide)) (fun _ => ?_)
    refine w_c1 (pc' := 9) k176_8 rfl ?_
    exact w_reti k176_9 ⟨by unfold dropV; rw [if_neg q_2], _, rfl, fun _ _ => rfl, by unfold dropZ; rw [if_neg (show ¬ (0 ≤ f ∧ f < aNf A) from q_2)]; exact hG0.mono (by omega) (by omega)⟩
theorem m125 (hG : MG sh R I K H E HO S L B (A, A1, A2, u) tx len) (hB1 : B + 2 ≤ 1000000) {c : Int} : QN X (d + 2) 125 [.inr (some 57), .inl c] sh R I K H E HO S L (B + 1) (wrV len c) (A, A1, A2, u) (wrT tx len c) (wrL len c) := by
  have hG0 := hG
  obtain ⟨hF, h9, hW, hT⟩ := hG
  have hF : MF sh R I K H E HO S L B A := hF
  have hF0 := hF
  obtain ⟨hM, hK, hpo, hha, hms, hab, hB⟩ := hF
  have hr := hK.r
  have h9' : I 57 9 = u := h9
  have hnf := hab.2.2.1
  have h0 : I 57 0 = len := hT.1
  have hl := hT.2.1
  show WP X (d + 2) 125 0 [.inr (some 57), .inl c] [] (sh, R, I) 0 0 _
  refine w_iload (pc' := 1) k125_0 rfl rfl ?_
  refine w_c2 (pc' := 3) k125_1 rfl ?_
  refine w_ic_lt (pc' := 6) k125_3 rfl (fun c_3 => ?_) (fun c_3 => ?_)
  · refine w_c1 (pc' := 13) k125_12 rfl ?_
    exact w_reti k125_13 ⟨by unfold wrV; rw [if_neg (by omega)], _, rfl, fun _ _ => rfl, by unfold wrT wrL; rw [if_neg (by omega), if_neg (by omega)]; exact hG0.mono (by omega) (by omega)⟩
  · refine w_iload (pc' := 7) k125_6 rfl rfl ?_
    refine w_c2 (pc' := 9) k125_7 rfl ?_
    refine w_ic_le (pc' := 12) k125_9 rfl (fun c_9 => ?_) (fun c_9 => ?_)
    · refine w_aload (pc' := 15) k125_14 rfl rfl ?_
      refine w_getI (pc' := 18) (ki := 0) (v := len) k125_15 rfl (hM.1 57 (11, 30) rfl) rfl h0 ?_
      refine w_c3 (pc' := 21) k125_18 rfl ?_
      refine w_ic_ne (pc' := 24) k125_21 rfl (fun c_21 => ?_) (fun c_21 => ?_)
      · refine w_aload (pc' := 28) k125_27 rfl rfl ?_
        refine w_getR (pc' := 31) (v := 58) k125_28 rfl (hM.1 57 (11, 30) rfl) (hM.2 57 1 58 rfl) ?_
        refine w_aload (pc' := 32) k125_31 rfl rfl ?_
        refine w_getI (pc' := 35) (ki := 0) (v := len) k125_32 rfl (hM.1 57 (11, 30) rfl) rfl h0 ?_
        refine w_iload (pc' := 36) k125_35 rfl rfl ?_
        refine w_iast (pc' := 37) k125_36 rfl (hM.1 58 (0, 200) rfl) (by omega) ?_
        refine w_aload (pc' := 38) k125_37 rfl rfl ?_
        refine w_dup (pc' := 39) k125_38 rfl ?_
        refine w_getI (pc' := 42) (ki := 0) (v := len) k125_39 rfl (hM.1 57 (11, 30) rfl) rfl (by rw [upA_n (by decide)]; exact h0) ?_
        refine w_c1 (pc' := 43) k125_42 rfl ?_
        refine w_iadd (pc' := 44) k125_43 rfl (by omega) ?_
        refine w_putI (pc' := 47) (ki := 0) k125_44 rfl (hM.1 57 (11, 30) rfl) rfl ?_
        refine w_aload (pc' := 48) k125_47 rfl rfl ?_
        refine w_getI (pc' := 51) (ki := 0) (v := len + 1) k125_48 rfl (hM.1 57 (11, 30) rfl) rfl (by rw [upA_s, upF_s]) ?_
        refine w_reti k125_51 ⟨by unfold wrV; rw [if_pos (by omega), if_pos (by omega)], _, rfl, fun x q => by rw [upA_n (by omega), upA_n (by omega)], ?_⟩
        unfold wrT wrL
        rw [if_pos (by omega), if_pos (by omega)]
        refine ⟨(hF0.mono (B' := B + 1) (by omega) (by omega)).keep (fun x q => by rw [upA_n (by omega), upA_n (by omega)]) (fun j q => by rw [upA_s, upF_n (by omega), upA_n (by decide)]), by rw [upA_s, upF_n (by decide), upA_n (by decide)]; exact h9, (hW.mono (by omega)).keep (fun x q1 q2 => by rw [upA_n (by omega), upA_n (by omega)]), by rw [upA_s, upF_s], by omega, fun j q1 q2 => ?_⟩
        rw [upA_n (by decide), upA_s]
        by_cases c9 : j = len
        · subst c9; rw [upF_s, upF_s]; exact ⟨rfl, by omega⟩
        · rw [upF_n c9, upF_n c9]; exact hT.2.2 j q1 (by omega)
      · refine w_c2 (pc' := 26) k125_24 rfl ?_
        exact w_reti k125_26 ⟨by unfold wrV; rw [if_pos (by omega), if_neg (by omega)], _, rfl, fun _ _ => rfl, by unfold wrT wrL; rw [if_neg (by omega), if_neg (by omega)]; exact hG0.mono (by omega) (by omega)⟩
    · refine w_c1 (pc' := 13) k125_12 rfl ?_
      exact w_reti k125_13 ⟨by unfold wrV; rw [if_neg (by omega)], _, rfl, fun _ _ => rfl, by unfold wrT wrL; rw [if_neg (by omega), if_neg (by omega)]; exact hG0.mono (by omega) (by omega)⟩
theorem m126 (hG : MG sh R I K H E HO S L B (A, A1, A2, u) tx len) (hB1 : B + 2 ≤ 1000000) : QN X (d + 2) 126 [.inr (some 57)] sh R I K H E HO S L (B + 1) len (A, A1, A2, u) tx 0 := by
  have hG0 := hG
  obtain ⟨hF, h9, hW, hT⟩ := hG
  have hF : MF sh R I K H E HO S L B A := hF
  have hF0 := hF
  obtain ⟨hM, hK, hpo, hha, hms, hab, hB⟩ := hF
  have hr := hK.r
  have h9' : I 57 9 = u := h9
  have hnf := hab.2.2.1
  have h0 : I 57 0 = len := hT.1
  show WP X (d + 2) 126 0 [.inr (some 57), .inr none] [] (sh, R, I) 0 0 _
  refine w_aload (pc' := 1) k126_0 rfl rfl ?_
  refine w_getI (pc' := 4) (ki := 0) (v := len) k126_1 rfl (hM.1 57 (11, 30) rfl) rfl h0 ?_
  refine w_istore (pc' := 5) (ls' := [_, _]) k126_4 rfl rfl rfl ?_
  refine w_aload (pc' := 6) k126_5 rfl rfl ?_
  refine w_c1 (pc' := 7) k126_6 rfl ?_
  refine w_putI (pc' := 10) (ki := 0) k126_7 rfl (hM.1 57 (11, 30) rfl) rfl ?_
  refine w_iload (pc' := 11) k126_10 rfl rfl ?_
  refine w_reti k126_11 ⟨rfl, _, rfl, fun x q => by rw [upA_n (by omega)], (hF0.mono (B' := B + 1) (by omega) (by omega)).keep (fun x q => by rw [upA_n (by omega)]) (fun j q => by rw [upA_s, upF_n (by omega)]), by rw [upA_s, upF_n (by decide)]; exact h9, (hW.mono (by omega)).keep (fun x q1 q2 => by rw [upA_n (by omega)]), by rw [upA_s, upF_s], by omega, fun j q1 q2 => absurd q1 (by omega)⟩
end M83
