/-! ===== REFERENCE: places ===== -/
section M61
variable {X : Nat × (Int → Int)} {d : Nat} {sh : List (Nat × Nat)} {R : Nat → Nat → Option Nat} {I : Nat → Int → Int} {K H E HO S L B : Int} {A : AS}
theorem m144 (hF : MF sh R I K H E HO S L B A) {a i j : Int} : RV X (d + 2) 144 [.inr (some 57), .inl a, .inl i, .inl j] (sh, R, I) (if (0 ≤ a ∧ a < K) ∧ (0 ≤ i ∧ i < K / 2) ∧ (0 ≤ j ∧ j < K / 2) then (a * (K / 2) + i) * (K / 2) + j else -1) := by
  have hF0 := hF
  obtain ⟨hM, hK, hpo, hha, hms, hab, hB⟩ := hF
  have hr := hK.r
  have eh : K / 2 = H := by first | omega | (rcases hK with ⟨rfl, rfl, rfl, rfl, rfl, rfl⟩ | ⟨rfl, rfl, rfl, rfl, rfl, rfl⟩ | ⟨rfl, rfl, rfl, rfl, rfl, rfl⟩ <;> omega)
  show WP X (d + 2) 144 0 [.inr (some 57), .inl a, .inl i, .inl j] [] (sh, R, I) 0 0 _
  refine w_iload (pc' := 1) k144_0 rfl rfl ?_
  refine w_c1 (pc' := 2) k144_1 rfl ?_
  refine w_aload (pc' := 3) k144_2 rfl rfl ?_
  refine w_getI (pc' := 6) (ki := 2) (v := K) k144_3 rfl (hM.1 57 (11, 30) rfl) rfl hpo ?_
  refine w_c1 (pc' := 7) k144_6 rfl ?_
  refine w_isub (pc' := 8) k144_7 rfl (by first | omega | (rcases hK with ⟨rfl, rfl, rfl, rfl, rfl, rfl⟩ | ⟨rfl, rfl, rfl, rfl, rfl, rfl⟩ | ⟨rfl, rfl, rfl, rfl, rfl, rfl⟩ <;> omega)) ?_
  refine w_callB (pc' := 11) (as := [.inl _, .inl _, .inl _]) k144_8 rfl rfl (co_s (Or.inl rfl) rfl rfl rfl) (by decide) (m117) (fun q_8 => ?_) (fun q_8 => ?_)
  · refine w_if_eq (pc' := 14) k144_11 rfl (fun c_11 => absurd c_11 (by decide)) (fun _ => ?_)
    refine w_iload (pc' := 15) k144_14 rfl rfl ?_
    refine w_c1 (pc' := 16) k144_15 rfl ?_
    refine w_aload (pc' := 17) k144_16 rfl rfl ?_
    refine w_getI (pc' := 20) (ki := 3) (v := H) k144_17 rfl (hM.1 57 (11, 30) rfl) rfl hha ?_
    refine w_c1 (pc' := 21) k144_20 rfl ?_
    refine w_isub (pc' := 22) k144_21 rfl (by first | omega | (rcases hK with ⟨rfl, rfl, rfl, rfl, rfl, rfl⟩ | ⟨rfl, rfl, rfl, rfl, rfl, rfl⟩ | ⟨rfl, rfl, rfl, rfl, rfl, rfl⟩ <;> omega)) ?_
    refine w_callB (pc' := 25) (as := [.inl _, .inl _, .inl _]) k144_22 rfl rfl (co_s (Or.inl rfl) rfl rfl rfl) (by decide) (m117) (fun q_22 => ?_) (fun q_22 => ?_)
    · refine w_if_eq (pc' := 28) k144_25 rfl (fun c_25 => absurd c_25 (by decide)) (fun _ => ?_)
      refine w_iload (pc' := 29) k144_28 rfl rfl ?_
      refine w_c1 (pc' := 30) k144_29 rfl ?_
      refine w_aload (pc' := 31) k144_30 rfl rfl ?_
      refine w_getI (pc' := 34) (ki := 3) (v := H) k144_31 rfl (hM.1 57 (11, 30) rfl) rfl hha ?_
      refine w_c1 (pc' := 35) k144_34 rfl ?_
      refine w_isub (pc' := 36) k144_35 rfl (by first | omega | (rcases hK with ⟨rfl, rfl, rfl, rfl, rfl, rfl⟩ | ⟨rfl, rfl, rfl, rfl, rfl, rfl⟩ | ⟨rfl, rfl, rfl, rfl, rfl, rfl⟩ <;> omega)) ?_
      refine w_callB (pc' := 39) (as := [.inl _, .inl _, .inl _]) k144_36 rfl rfl (co_s (Or.inl rfl) rfl rfl rfl) (by decide) (m117) (fun q_36 => ?_) (fun q_36 => ?_)
      · refine w_if_eq (pc' := 42) k144_39 rfl (fun c_39 => absurd c_39 (by decide)) (fun _ => ?_)
        refine w_iload (pc' := 43) k144_42 rfl rfl ?_
        refine w_aload (pc' := 44) k144_43 rfl rfl ?_
        refine w_getI (pc' := 47) (ki := 3) (v := H) k144_44 rfl (hM.1 57 (11, 30) rfl) rfl hha ?_
        refine w_imul (pc' := 48) k144_47 rfl (by first | omega | (rcases hK with ⟨rfl, rfl, rfl, rfl, rfl, rfl⟩ | ⟨rfl, rfl, rfl, rfl, rfl, rfl⟩ | ⟨rfl, rfl, rfl, rfl, rfl, rfl⟩ <;> omega)) ?_
        refine w_iload (pc' := 49) k144_48 rfl rfl ?_
        refine w_iadd (pc' := 50) k144_49 rfl (by first | omega | (rcases hK with ⟨rfl, rfl, rfl, rfl, rfl, rfl⟩ | ⟨rfl, rfl, rfl, rfl, rfl, rfl⟩ | ⟨rfl, rfl, rfl, rfl, rfl, rfl⟩ <;> omega)) ?_
        refine w_aload (pc' := 51) k144_50 rfl rfl ?_
        refine w_getI (pc' := 54) (ki := 3) (v := H) k144_51 rfl (hM.1 57 (11, 30) rfl) rfl hha ?_
        refine w_imul (pc' := 55) k144_54 rfl (by first | omega | (rcases hK with ⟨rfl, rfl, rfl, rfl, rfl, rfl⟩ | ⟨rfl, rfl, rfl, rfl, rfl, rfl⟩ | ⟨rfl, rfl, rfl, rfl, rfl, rfl⟩ <;> omega)) ?_
        refine w_iload (pc' := 56) k144_55 rfl rfl ?_
        refine w_iadd (pc' := 57) k144_56 rfl (by first | omega | (rcases hK with ⟨rfl, rfl, rfl, rfl, rfl, rfl⟩ | ⟨rfl, rfl, rfl, rfl, rfl, rfl⟩ | ⟨rfl, rfl, rfl, rfl, rfl, rfl⟩ <;> omega)) ?_
        refine w_goto k144_57 ?_
        exact w_reti k144_61 ⟨by rw [eh, if_pos (by omega)], rfl⟩
      · refine w_if_eq (pc' := 42) k144_39 rfl (fun _ => ?_) (fun c_39 => absurd c_39 (by decide))
        refine w_c1 (pc' := 61) k144_60 rfl ?_
        exact w_reti k144_61 ⟨by rw [eh, if_neg (by omega)], rfl⟩
    · refine w_if_eq (pc' := 28) k144_25 rfl (fun _ => ?_) (fun c_25 => absurd c_25 (by decide))
      refine w_c1 (pc' := 61) k144_60 rfl ?_
      exact w_reti k144_61 ⟨by rw [eh, if_neg (by omega)], rfl⟩
  · refine w_if_eq (pc' := 14) k144_11 rfl (fun _ => ?_) (fun c_11 => absurd c_11 (by decide))
    refine w_c1 (pc' := 61) k144_60 rfl ?_
    exact w_reti k144_61 ⟨by rw [eh, if_neg (by omega)], rfl⟩
theorem m146 (hF : MF sh R I K H E HO S L B A) {l w : Int} : RV X (d + 3) 146 [.inr (some 57), .inl l, .inl w] (sh, R, I) (linkS H E L A l w) := by
  have hF0 := hF
  obtain ⟨hM, hK, hpo, hha, hms, hab, hB⟩ := hF
  have hr := hK.r
  show WP X (d + 3) 146 0 [.inr (some 57), .inl l, .inl w] [] (sh, R, I) 0 0 _
  refine w_aload (pc' := 1) k146_0 rfl rfl ?_
  refine w_iload (pc' := 2) k146_1 rfl rfl ?_
  refine w_callB (pc' := 5) (as := [.inr (some 57), .inl _]) k146_2 rfl rfl (co_v rfl rfl (hM.1 57 (11, 30) rfl)) (by decide) (m135 hF0) (fun q_2 => ?_) (fun q_2 => ?_)
  · refine w_if_eq (pc' := 8) k146_5 rfl (fun c_5 => absurd c_5 (by decide)) (fun _ => ?_)
    refine w_iload (pc' := 9) k146_8 rfl rfl ?_
    refine w_c1 (pc' := 10) k146_9 rfl ?_
    refine w_c1 (pc' := 11) k146_10 rfl ?_
    refine w_callB (pc' := 14) (as := [.inl _, .inl _, .inl _]) k146_11 rfl rfl (co_s (Or.inl rfl) rfl rfl rfl) (by decide) (m117) (fun q_11 => ?_) (fun q_11 => ?_)
    · refine w_if_ne (pc' := 17) k146_14 rfl (fun _ => ?_) (fun c_14 => absurd c_14 (by decide))
      refine w_iload (pc' := 20) k146_19 rfl rfl ?_
      refine w_if_ne (pc' := 23) k146_20 rfl (fun c_20 => ?_) (fun c_20 => ?_)
      · refine w_iload (pc' := 32) k146_31 rfl rfl ?_
        refine w_c1 (pc' := 33) k146_32 rfl ?_
        refine w_ic_ne (pc' := 36) k146_33 rfl (fun c_33 => ?_) (fun c_33 => ?_)
        · refine w_iload (pc' := 45) k146_44 rfl rfl ?_
          refine w_c1 (pc' := 46) k146_45 rfl ?_
          refine w_ic_ne (pc' := 49) k146_46 rfl (fun c_46 => ?_) (fun c_46 => ?_)
          · refine w_aload (pc' := 61) k146_60 rfl rfl ?_
            refine w_getR (pc' := 64) (v := 59) k146_61 rfl (hM.1 57 (11, 30) rfl) (hM.2 57 4 59 rfl) ?_
            refine w_iload (pc' := 65) k146_64 rfl rfl ?_
            refine w_iald (pc' := 66) (v := aAg A l) k146_65 rfl (hM.1 59 (0, 108) rfl) (by first | omega | (rcases hK with ⟨rfl, rfl, rfl, rfl, rfl, rfl⟩ | ⟨rfl, rfl, rfl, rfl, rfl, rfl⟩ | ⟨rfl, rfl, rfl, rfl, rfl, rfl⟩ <;> omega)) (hms.2.1 l q_2.1 q_2.2) ?_
            exact w_reti k146_66 ⟨by unfold linkS; rw [if_pos q_2, if_neg c_20, if_neg c_33, if_neg c_46, if_pos (by omega)], rfl⟩
          · refine w_aload (pc' := 50) k146_49 rfl rfl ?_
            refine w_getR (pc' := 53) (v := 59) k146_50 rfl (hM.1 57 (11, 30) rfl) (hM.2 57 4 59 rfl) ?_
            refine w_iload (pc' := 54) k146_53 rfl rfl ?_
            refine w_iald (pc' := 55) (v := aAg A l) k146_54 rfl (hM.1 59 (0, 108) rfl) (by first | omega | (rcases hK with ⟨rfl, rfl, rfl, rfl, rfl, rfl⟩ | ⟨rfl, rfl, rfl, rfl, rfl, rfl⟩ | ⟨rfl, rfl, rfl, rfl, rfl, rfl⟩ <;> omega)) (hms.2.1 l q_2.1 q_2.2) ?_
            refine w_c1 (pc' := 56) k146_55 rfl ?_
            refine w_irem (pc' := 57) k146_56 rfl (by have ha := hab.1 l q_2.1 q_2.2; omega) ?_
            refine w_goto k146_57 ?_
            exact w_reti k146_66 ⟨congrArg Sum.inl (by unfold linkS; rw [if_pos q_2, if_neg c_20, if_neg c_33, if_pos c_46]; by_cases h9 : aAg A l % 2 = 0; rw [if_pos (ev_t.mpr h9), h9]; rw [if_neg (fun z => h9 (ev_t.mp z))]; omega), rfl⟩
        · refine w_aload (pc' := 37) k146_36 rfl rfl ?_
          refine w_iload (pc' := 38) k146_37 rfl rfl ?_
          refine w_callE (pc' := 41) (as := [.inr (some 57), .inl _]) k146_38 rfl rfl (co_v rfl rfl (hM.1 57 (11, 30) rfl)) (by decide) (m141 hF0 q_2) ?_
          refine w_goto k146_41 ?_
          exact w_reti k146_66 ⟨by unfold linkS; rw [if_pos q_2, if_neg c_20, if_pos c_33], rfl⟩
      · refine w_aload (pc' := 24) k146_23 rfl rfl ?_
        refine w_iload (pc' := 25) k146_24 rfl rfl ?_
        refine w_callE (pc' := 28) (as := [.inr (some 57), .inl _]) k146_25 rfl rfl (co_v rfl rfl (hM.1 57 (11, 30) rfl)) (by decide) (m140 hF0 q_2) ?_
        refine w_goto k146_28 ?_
        exact w_reti k146_66 ⟨by unfold linkS; rw [if_pos q_2, if_pos c_20], rfl⟩
    · refine w_if_ne (pc' := 17) k146_14 rfl (fun c_14 => absurd c_14 (by decide)) (fun _ => ?_)
      refine w_c1 (pc' := 18) k146_17 rfl ?_
      exact w_reti k146_18 ⟨by unfold linkS; rw [if_pos q_2, if_neg (by omega), if_neg (by omega), if_neg (by omega), if_neg (by omega)], rfl⟩
  · refine w_if_eq (pc' := 8) k146_5 rfl (fun _ => ?_) (fun c_5 => absurd c_5 (by decide))
    refine w_c1 (pc' := 18) k146_17 rfl ?_
    exact w_reti k146_18 ⟨by unfold linkS; rw [if_neg q_2], rfl⟩
theorem m145l (hF : MF sh R I K H E HO S L B A) {n w : Int} {v3 v4 : VV} {N : Nat} (hN : L = (N : Int)) : ∀ (k m : Nat) (c i : Int), m + k = N → c = cnt (lkP H E A n 0) m → i = (m : Int) → WP X (d + 4) 145 135 [.inr (some 57), .inl n, .inl w, v3, v4, .inl c, .inl i] [] (sh, R, I) 0 0 (fun r h' => r = .inl (cnt (lkP H E A n 0) N) ∧ h' = (sh, R, I)) := by
  have hF0 := hF
  obtain ⟨hM, hK, hpo, hha, hms, hab, hB⟩ := hF
  have hr := hK.r
  intro k
  induction k with
  | zero =>
    rintro m c i hk rfl rfl
    have e : m = N := by omega
    subst e
    refine w_iload (pc' := 137) k145_135 rfl rfl ?_
    refine w_aload (pc' := 138) k145_137 rfl rfl ?_
    refine w_callE (pc' := 141) (as := [.inr (some 57)]) k145_138 rfl rfl (co_v rfl rfl (hM.1 57 (11, 30) rfl)) (by decide) (m132 hF0) ?_
    refine w_ic_ge (pc' := 144) k145_141 rfl (fun c_141 => ?_) (fun c_141 => absurd c_141 (by omega))
    refine w_iload (pc' := 181) k145_179 rfl rfl ?_
    exact w_reti k145_181 ⟨rfl, rfl⟩
  | succ k ih =>
    rintro m c i hk rfl rfl
    have hc := cnt_le (lkP H E A n 0) m
    have hm : (0 : Int) ≤ (m : Int) ∧ (m : Int) < L := by omega
    refine w_iload (pc' := 137) k145_135 rfl rfl ?_
    refine w_aload (pc' := 138) k145_137 rfl rfl ?_
    refine w_callE (pc' := 141) (as := [.inr (some 57)]) k145_138 rfl rfl (co_v rfl rfl (hM.1 57 (11, 30) rfl)) (by decide) (m132 hF0) ?_
    refine w_ic_ge (pc' := 144) k145_141 rfl (fun c_141 => absurd c_141 (by omega)) (fun c_141 => ?_)
    refine w_iload (pc' := 146) k145_144 rfl rfl ?_
    refine w_aload (pc' := 147) k145_146 rfl rfl ?_
    refine w_iload (pc' := 148) k145_147 rfl rfl ?_
    refine w_iload (pc' := 150) k145_148 rfl rfl ?_
    refine w_callB (pc' := 153) (as := [.inr (some 57), .inl _, .inl _]) k145_150 rfl rfl (co_v rfl rfl (hM.1 57 (11, 30) rfl)) (by decide) (m143 hF0 hm) (fun q_150 => ?_) (fun q_150 => ?_)
    · refine w_if_eq (pc' := 156) k145_153 rfl (fun c_153 => absurd c_153 (by decide)) (fun _ => ?_)
      refine w_aload (pc' := 157) k145_156 rfl rfl ?_
      refine w_iload (pc' := 159) k145_157 rfl rfl ?_
      refine w_callB (pc' := 162) (as := [.inr (some 57), .inl _]) k145_159 rfl rfl (co_v rfl rfl (hM.1 57 (11, 30) rfl)) (by decide) (m142 hF0 hm) (fun q_159 => ?_) (fun q_159 => ?_)
      · refine w_if_eq (pc' := 165) k145_162 rfl (fun c_162 => absurd c_162 (by decide)) (fun _ => ?_)
        refine w_c1 (pc' := 166) k145_165 rfl ?_
        refine w_goto k145_166 ?_
        refine w_iadd (pc' := 171) k145_170 rfl (by omega) ?_
        refine w_istore (pc' := 173) (ls' := [_, _, _, _, _, _, _]) k145_171 rfl rfl rfl ?_
        refine w_iinc (pc' := 176) (ls' := [_, _, _, _, _, _, _]) k145_173 rfl rfl (by omega) rfl ?_
        refine w_goto k145_176 ?_
        exact ih (m + 1) _ _ (by omega) (cnt_t (P := lkP H E A n 0) (decide_eq_true ⟨q_150, by rw [if_pos q_159]; decide⟩)).symm (by omega)
      · refine w_if_eq (pc' := 165) k145_162 rfl (fun _ => ?_) (fun c_162 => absurd c_162 (by decide))
        refine w_c1 (pc' := 170) k145_169 rfl ?_
        refine w_iadd (pc' := 171) k145_170 rfl (by omega) ?_
        refine w_istore (pc' := 173) (ls' := [_, _, _, _, _, _, _]) k145_171 rfl rfl rfl ?_
        refine w_iinc (pc' := 176) (ls' := [_, _, _, _, _, _, _]) k145_173 rfl rfl (by omega) rfl ?_
        refine w_goto k145_176 ?_
        exact ih (m + 1) _ _ (by omega) (by rw [Int.add_zero]; exact (cnt_f (P := lkP H E A n 0) (decide_eq_false (fun z => z.2 (if_neg q_159)))).symm) (by omega)
    · refine w_if_eq (pc' := 156) k145_153 rfl (fun _ => ?_) (fun c_153 => absurd c_153 (by decide))
      refine w_c1 (pc' := 170) k145_169 rfl ?_
      refine w_iadd (pc' := 171) k145_170 rfl (by omega) ?_
      refine w_istore (pc' := 173) (ls' := [_, _, _, _, _, _, _]) k145_171 rfl rfl rfl ?_
      refine w_iinc (pc' := 176) (ls' := [_, _, _, _, _, _, _]) k145_173 rfl rfl (by omega) rfl ?_
      refine w_goto k145_176 ?_
      exact ih (m + 1) _ _ (by omega) (by rw [Int.add_zero]; exact (cnt_f (P := lkP H E A n 0) (decide_eq_false (fun z => q_150 z.1))).symm) (by omega)
end M61
