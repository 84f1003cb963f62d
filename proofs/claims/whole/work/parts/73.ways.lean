/-! ===== REFERENCE: ways, outer ===== -/
section M73
variable {X : Nat × (Int → Int)} {d : Nat} {sh : List (Nat × Nat)} {R : Nat → Nat → Option Nat} {I : Nat → Int → Int} {K H E HO S L B : Int} {A : AS}
theorem m167l (hF : MF sh R I K H E HO S L B A) {a b : Int} (ha : 0 ≤ a ∧ a < HO) (hb : 0 ≤ b ∧ b < HO) {N : Nat} (hN : H = (N : Int)) : ∀ (k m : Nat) (T j : Int) (v7 v8 : VV), m + k = N → T = sumN (wJ H E (opC A (-4)) (a / H) (b / H)) m → (0 ≤ T ∧ T ≤ 3 * m) → j = (m : Int) → WP X (d + 3) 167 48 [.inr (some 57), .inl a, .inl b, .inl (a / H / H), .inl (b / H / H), .inl T, .inl j, v7, v8] [] (sh, R, I) 0 0 (fun r h' => r = .inl (sumN (wJ H E (opC A (-4)) (a / H) (b / H)) N) ∧ h' = (sh, R, I)) := by
  have hF0 := hF
  obtain ⟨hM, hK, hpo, hha, hms, hab, hB⟩ := hF
  have hr := hK.r
  intro k
  induction k with
  | zero =>
    rintro m T j v7 v8 hk rfl hT2 rfl
    have e : m = N := by omega
    subst e
    refine w_iload (pc' := 50) k167_48 rfl rfl ?_
    refine w_aload (pc' := 51) k167_50 rfl rfl ?_
    refine w_getI (pc' := 54) (ki := 3) (v := H) k167_51 rfl (hM.1 57 (11, 30) rfl) rfl hha ?_
    refine w_ic_ge (pc' := 57) k167_54 rfl (fun c_54 => ?_) (fun c_54 => absurd c_54 (by omega))
    refine w_iload (pc' := 207) k167_205 rfl rfl ?_
    exact w_reti k167_207 ⟨rfl, rfl⟩
  | succ k ih =>
    rintro m T j v7 v8 hk hT hT2 rfl
    have hm : (0 : Int) ≤ (m : Int) ∧ (m : Int) < H := by omega
    have ea := edge_r hK ha
    have eb := edge_r hK hb
    have hl := lk3 (m := 0) hK ha hb hm (by omega)
    have o1 := op_e (A := A) hl.2.1.2.1
    have o2 := op_e (A := A) hl.2.2.1.2.1
    have hW : wMid H E (opC A (-4)) (a / H / H) (b / H / H) m = (if a / H / H = b / H / H then 1 else cnt (fun x => opC A (-4) ((E + a / H / H * H + (m : Int)) * H + x) && opC A (-4) ((E + b / H / H * H + (m : Int)) * H + x)) H.toNat) := rfl
    have hcl := cnt_le (fun x => opC A (-4) ((E + a / H / H * H + (m : Int)) * H + x) && opC A (-4) ((E + b / H / H * H + (m : Int)) * H + x)) H.toNat
    have hWr : 0 ≤ wMid H E (opC A (-4)) (a / H / H) (b / H / H) m ∧ wMid H E (opC A (-4)) (a / H / H) (b / H / H) m ≤ 3 := by rw [hW]; split <;> omega
    have hJ : (wJ H E (opC A (-4)) (a / H) (b / H)) (m : Int) = if (opC A (-4) (a / H * H + (m : Int)) && opC A (-4) (b / H * H + (m : Int))) = true then wMid H E (opC A (-4)) (a / H / H) (b / H / H) m else 0 := rfl
    rw [o1, o2] at hJ
    refine w_iload (pc' := 50) k167_48 rfl rfl ?_
    refine w_aload (pc' := 51) k167_50 rfl rfl ?_
    refine w_getI (pc' := 54) (ki := 3) (v := H) k167_51 rfl (hM.1 57 (11, 30) rfl) rfl hha ?_
    refine w_ic_ge (pc' := 57) k167_54 rfl (fun c_54 => absurd c_54 (by omega)) (fun c_54 => ?_)
    refine w_iload (pc' := 58) k167_57 rfl rfl ?_
    refine w_iload (pc' := 60) k167_58 rfl rfl ?_
    refine w_ic_ne (pc' := 63) k167_60 rfl (fun c_60 => ?_) (fun c_60 => ?_)
    · refine w_c1 (pc' := 68) k167_67 rfl ?_
      refine w_istore (pc' := 70) (ls' := [_, _, _, _, _, _, _, _, _]) k167_68 rfl rfl rfl ?_
      refine w_c1 (pc' := 71) k167_70 rfl ?_
      refine w_istore (pc' := 73) (ls' := [_, _, _, _, _, _, _, _, _]) k167_71 rfl rfl rfl ?_
      refine m167i hF0 ha hb hm (N := H.toNat) (by omega) (fun v9 => ?_) H.toNat 0 _ _ (by omega) (by rw [if_neg c_60]; rfl) rfl
      rw [← hW]
      refine w_iload (pc' := 139) k167_137 rfl rfl ?_
      refine w_aload (pc' := 140) k167_139 rfl rfl ?_
      refine w_aload (pc' := 141) k167_140 rfl rfl ?_
      refine w_iload (pc' := 142) k167_141 rfl rfl ?_
      refine w_iload (pc' := 143) k167_142 rfl rfl ?_
      refine w_aload (pc' := 144) k167_143 rfl rfl ?_
      refine w_getI (pc' := 147) (ki := 3) (v := H) k167_144 rfl (hM.1 57 (11, 30) rfl) rfl hha ?_
      refine w_idiv (pc' := 148) k167_147 rfl (by omega) ?_
      refine w_aload (pc' := 149) k167_148 rfl rfl ?_
      refine w_getI (pc' := 152) (ki := 3) (v := H) k167_149 rfl (hM.1 57 (11, 30) rfl) rfl hha ?_
      refine w_irem (pc' := 153) k167_152 rfl (by omega) ?_
      refine w_iload (pc' := 155) k167_153 rfl rfl ?_
      refine w_callE (pc' := 158) (as := [.inr (some 57), .inl _, .inl _, .inl _]) k167_155 rfl rfl (co_v rfl rfl (hM.1 57 (11, 30) rfl)) (by decide) (m138 hF0 hl.1.1 hl.1.2.2.1 (by omega) hl.2.1.1) ?_
      refine w_callB (pc' := 161) (as := [.inr (some 57), .inl _]) k167_158 rfl rfl (co_v rfl rfl (hM.1 57 (11, 30) rfl)) (by decide) (m142 hF0 hl.2.1.2) (fun q_158 => ?_) (fun q_158 => ?_)
      · refine w_if_eq (pc' := 164) k167_161 rfl (fun c_161 => absurd c_161 (by decide)) (fun _ => ?_)
        refine w_aload (pc' := 165) k167_164 rfl rfl ?_
        refine w_aload (pc' := 166) k167_165 rfl rfl ?_
        refine w_iload (pc' := 168) k167_166 rfl rfl ?_
        refine w_iload (pc' := 169) k167_168 rfl rfl ?_
        refine w_aload (pc' := 170) k167_169 rfl rfl ?_
        refine w_getI (pc' := 173) (ki := 3) (v := H) k167_170 rfl (hM.1 57 (11, 30) rfl) rfl hha ?_
        refine w_idiv (pc' := 174) k167_173 rfl (by omega) ?_
        refine w_aload (pc' := 175) k167_174 rfl rfl ?_
        refine w_getI (pc' := 178) (ki := 3) (v := H) k167_175 rfl (hM.1 57 (11, 30) rfl) rfl hha ?_
        refine w_irem (pc' := 179) k167_178 rfl (by omega) ?_
        refine w_iload (pc' := 181) k167_179 rfl rfl ?_
        refine w_callE (pc' := 184) (as := [.inr (some 57), .inl _, .inl _, .inl _]) k167_181 rfl rfl (co_v rfl rfl (hM.1 57 (11, 30) rfl)) (by decide) (m138 hF0 hl.1.2.1 hl.1.2.2.2 (by omega) hl.2.2.1.1) ?_
        refine w_callB (pc' := 187) (as := [.inr (some 57), .inl _]) k167_184 rfl rfl (co_v rfl rfl (hM.1 57 (11, 30) rfl)) (by decide) (m142 hF0 hl.2.2.1.2) (fun q_184 => ?_) (fun q_184 => ?_)
        · refine w_if_eq (pc' := 190) k167_187 rfl (fun c_187 => absurd c_187 (by decide)) (fun _ => ?_)
          refine w_iload (pc' := 192) k167_190 rfl rfl ?_
          refine w_goto k167_192 ?_
          refine w_iadd (pc' := 197) k167_196 rfl (by omega) ?_
          refine w_istore (pc' := 199) (ls' := [_, _, _, _, _, _, _, _, _]) k167_197 rfl rfl rfl ?_
          refine w_iinc (pc' := 202) (ls' := [_, _, _, _, _, _, _, _, _]) k167_199 rfl rfl (by omega) rfl ?_
          refine w_goto k167_202 ?_
          exact ih (m + 1) _ _ _ _ (by omega) (by rw [sumN, hJ, q_158, q_184, if_pos (by decide), ← hT]) (by omega) (by omega)
        · refine w_if_eq (pc' := 190) k167_187 rfl (fun _ => ?_) (fun c_187 => absurd c_187 (by decide))
          refine w_c1 (pc' := 196) k167_195 rfl ?_
          refine w_iadd (pc' := 197) k167_196 rfl (by omega) ?_
          refine w_istore (pc' := 199) (ls' := [_, _, _, _, _, _, _, _, _]) k167_197 rfl rfl rfl ?_
          refine w_iinc (pc' := 202) (ls' := [_, _, _, _, _, _, _, _, _]) k167_199 rfl rfl (by omega) rfl ?_
          refine w_goto k167_202 ?_
          exact ih (m + 1) _ _ _ _ (by omega) (by rw [sumN, hJ, show ev (aAg A (b / H * H + (m : Int))) = false by simpa using q_184, Bool.and_false, if_neg (by decide), ← hT]) (by omega) (by omega)
      · refine w_if_eq (pc' := 164) k167_161 rfl (fun _ => ?_) (fun c_161 => absurd c_161 (by decide))
        refine w_c1 (pc' := 196) k167_195 rfl ?_
        refine w_iadd (pc' := 197) k167_196 rfl (by omega) ?_
        refine w_istore (pc' := 199) (ls' := [_, _, _, _, _, _, _, _, _]) k167_197 rfl rfl rfl ?_
        refine w_iinc (pc' := 202) (ls' := [_, _, _, _, _, _, _, _, _]) k167_199 rfl rfl (by omega) rfl ?_
        refine w_goto k167_202 ?_
        exact ih (m + 1) _ _ _ _ (by omega) (by rw [sumN, hJ, show ev (aAg A (a / H * H + (m : Int))) = false by simpa using q_158, Bool.false_and, if_neg (by decide), ← hT]) (by omega) (by omega)
    · refine w_c1 (pc' := 64) k167_63 rfl ?_
      refine w_goto k167_64 ?_
      refine w_istore (pc' := 70) (ls' := [_, _, _, _, _, _, _, _, _]) k167_68 rfl rfl rfl ?_
      refine w_c1 (pc' := 71) k167_70 rfl ?_
      refine w_istore (pc' := 73) (ls' := [_, _, _, _, _, _, _, _, _]) k167_71 rfl rfl rfl ?_
      refine m167i hF0 ha hb hm (N := H.toNat) (by omega) (fun v9 => ?_) H.toNat 0 _ _ (by omega) (by rw [if_pos c_60]) rfl
      rw [← hW]
      refine w_iload (pc' := 139) k167_137 rfl rfl ?_
      refine w_aload (pc' := 140) k167_139 rfl rfl ?_
      refine w_aload (pc' := 141) k167_140 rfl rfl ?_
      refine w_iload (pc' := 142) k167_141 rfl rfl ?_
      refine w_iload (pc' := 143) k167_142 rfl rfl ?_
      refine w_aload (pc' := 144) k167_143 rfl rfl ?_
      refine w_getI (pc' := 147) (ki := 3) (v := H) k167_144 rfl (hM.1 57 (11, 30) rfl) rfl hha ?_
      refine w_idiv (pc' := 148) k167_147 rfl (by omega) ?_
      refine w_aload (pc' := 149) k167_148 rfl rfl ?_
      refine w_getI (pc' := 152) (ki := 3) (v := H) k167_149 rfl (hM.1 57 (11, 30) rfl) rfl hha ?_
      refine w_irem (pc' := 153) k167_152 rfl (by omega) ?_
      refine w_iload (pc' := 155) k167_153 rfl rfl ?_
      refine w_callE (pc' := 158) (as := [.inr (some 57), .inl _, .inl _, .inl _]) k167_155 rfl rfl (co_v rfl rfl (hM.1 57 (11, 30) rfl)) (by decide) (m138 hF0 hl.1.1 hl.1.2.2.1 (by omega) hl.2.1.1) ?_
      refine w_callB (pc' := 161) (as := [.inr (some 57), .inl _]) k167_158 rfl rfl (co_v rfl rfl (hM.1 57 (11, 30) rfl)) (by decide) (m142 hF0 hl.2.1.2) (fun q_158 => ?_) (fun q_158 => ?_)
      · refine w_if_eq (pc' := 164) k167_161 rfl (fun c_161 => absurd c_161 (by decide)) (fun _ => ?_)
        refine w_aload (pc' := 165) k167_164 rfl rfl ?_
        refine w_aload (pc' := 166) k167_165 rfl rfl ?_
        refine w_iload (pc' := 168) k167_166 rfl rfl ?_
        refine w_iload (pc' := 169) k167_168 rfl rfl ?_
        refine w_aload (pc' := 170) k167_169 rfl rfl ?_
        refine w_getI (pc' := 173) (ki := 3) (v := H) k167_170 rfl (hM.1 57 (11, 30) rfl) rfl hha ?_
        refine w_idiv (pc' := 174) k167_173 rfl (by omega) ?_
        refine w_aload (pc' := 175) k167_174 rfl rfl ?_
        refine w_getI (pc' := 178) (ki := 3) (v := H) k167_175 rfl (hM.1 57 (11, 30) rfl) rfl hha ?_
        refine w_irem (pc' := 179) k167_178 rfl (by omega) ?_
        refine w_iload (pc' := 181) k167_179 rfl rfl ?_
        refine w_callE (pc' := 184) (as := [.inr (some 57), .inl _, .inl _, .inl _]) k167_181 rfl rfl (co_v rfl rfl (hM.1 57 (11, 30) rfl)) (by decide) (m138 hF0 hl.1.2.1 hl.1.2.2.2 (by omega) hl.2.2.1.1) ?_
        refine w_callB (pc' := 187) (as := [.inr (some 57), .inl _]) k167_184 rfl rfl (co_v rfl rfl (hM.1 57 (11, 30) rfl)) (by decide) (m142 hF0 hl.2.2.1.2) (fun q_184 => ?_) (fun q_184 => ?_)
        · refine w_if_eq (pc' := 190) k167_187 rfl (fun c_187 => absurd c_187 (by decide)) (fun _ => ?_)
          refine w_iload (pc' := 192) k167_190 rfl rfl ?_
          refine w_goto k167_192 ?_
          refine w_iadd (pc' := 197) k167_196 rfl (by omega) ?_
          refine w_istore (pc' := 199) (ls' := [_, _, _, _, _, _, _, _, _]) k167_197 rfl rfl rfl ?_
          refine w_iinc (pc' := 202) (ls' := [_, _, _, _, _, _, _, _, _]) k167_199 rfl rfl (by omega) rfl ?_
          refine w_goto k167_202 ?_
          exact ih (m + 1) _ _ _ _ (by omega) (by rw [sumN, hJ, q_158, q_184, if_pos (by decide), ← hT]) (by omega) (by omega)
        · refine w_if_eq (pc' := 190) k167_187 rfl (fun _ => ?_) (fun c_187 => absurd c_187 (by decide))
          refine w_c1 (pc' := 196) k167_195 rfl ?_
          refine w_iadd (pc' := 197) k167_196 rfl (by omega) ?_
          refine w_istore (pc' := 199) (ls' := [_, _, _, _, _, _, _, _, _]) k167_197 rfl rfl rfl ?_
          refine w_iinc (pc' := 202) (ls' := [_, _, _, _, _, _, _, _, _]) k167_199 rfl rfl (by omega) rfl ?_
          refine w_goto k167_202 ?_
          exact ih (m + 1) _ _ _ _ (by omega) (by rw [sumN, hJ, show ev (aAg A (b / H * H + (m : Int))) = false by simpa using q_184, Bool.and_false, if_neg (by decide), ← hT]) (by omega) (by omega)
      · refine w_if_eq (pc' := 164) k167_161 rfl (fun _ => ?_) (fun c_161 => absurd c_161 (by decide))
        refine w_c1 (pc' := 196) k167_195 rfl ?_
        refine w_iadd (pc' := 197) k167_196 rfl (by omega) ?_
        refine w_istore (pc' := 199) (ls' := [_, _, _, _, _, _, _, _, _]) k167_197 rfl rfl rfl ?_
        refine w_iinc (pc' := 202) (ls' := [_, _, _, _, _, _, _, _, _]) k167_199 rfl rfl (by omega) rfl ?_
        refine w_goto k167_202 ?_
        exact ih (m + 1) _ _ _ _ (by omega) (by rw [sumN, hJ, show ev (aAg A (a / H * H + (m : Int))) = false by simpa using q_158, Bool.false_and, if_neg (by decide), ← hT]) (by omega) (by omega)
theorem m167 (hF : MF sh R I K H E HO S L B A) {a b : Int} (ha : 0 ≤ a ∧ a < HO) (hb : 0 ≤ b ∧ b < HO) : RV X (d + 3) 167 [.inr (some 57), .inl a, .inl b] (sh, R, I) (waysS H E (opC A (-4)) (a / H) (b / H)) := by
  have hF0 := hF
  obtain ⟨hM, hK, hpo, hha, hms, hab, hB⟩ := hF
  have hr := hK.r
  have ea := edge_r hK ha
  have eb := edge_r hK hb
  show WP X (d + 3) 167 0 [.inr (some 57), .inl a, .inl b, .inr none, .inr none, .inr none, .inr none, .inr none, .inr none] [] (sh, R, I) 0 0 _
  refine w_iload (pc' := 1) k167_0 rfl rfl ?_
  refine w_aload (pc' := 2) k167_1 rfl rfl ?_
  refine w_getI (pc' := 5) (ki := 3) (v := H) k167_2 rfl (hM.1 57 (11, 30) rfl) rfl hha ?_
  refine w_idiv (pc' := 6) k167_5 rfl (by omega) ?_
  refine w_aload (pc' := 7) k167_6 rfl rfl ?_
  refine w_getI (pc' := 10) (ki := 3) (v := H) k167_7 rfl (hM.1 57 (11, 30) rfl) rfl hha ?_
  refine w_idiv (pc' := 11) k167_10 rfl (by omega) ?_
  refine w_istore (pc' := 12) (ls' := [_, _, _, _, _, _, _, _, _]) k167_11 rfl rfl rfl ?_
  refine w_iload (pc' := 13) k167_12 rfl rfl ?_
  refine w_aload (pc' := 14) k167_13 rfl rfl ?_
  refine w_getI (pc' := 17) (ki := 3) (v := H) k167_14 rfl (hM.1 57 (11, 30) rfl) rfl hha ?_
  refine w_idiv (pc' := 18) k167_17 rfl (by omega) ?_
  refine w_aload (pc' := 19) k167_18 rfl rfl ?_
  refine w_getI (pc' := 22) (ki := 3) (v := H) k167_19 rfl (hM.1 57 (11, 30) rfl) rfl hha ?_
  refine w_idiv (pc' := 23) k167_22 rfl (by omega) ?_
  refine w_istore (pc' := 25) (ls' := [_, _, _, _, _, _, _, _, _]) k167_23 rfl rfl rfl ?_
  refine w_iload (pc' := 26) k167_25 rfl rfl ?_
  refine w_aload (pc' := 27) k167_26 rfl rfl ?_
  refine w_getI (pc' := 30) (ki := 3) (v := H) k167_27 rfl (hM.1 57 (11, 30) rfl) rfl hha ?_
  refine w_idiv (pc' := 31) k167_30 rfl (by omega) ?_
  refine w_iload (pc' := 32) k167_31 rfl rfl ?_
  refine w_aload (pc' := 33) k167_32 rfl rfl ?_
  refine w_getI (pc' := 36) (ki := 3) (v := H) k167_33 rfl (hM.1 57 (11, 30) rfl) rfl hha ?_
  refine w_idiv (pc' := 37) k167_36 rfl (by omega) ?_
  refine w_ic_ne (pc' := 40) k167_37 rfl (fun c_37 => ?_) (fun c_37 => ?_)
  · refine w_c1 (pc' := 43) k167_42 rfl ?_
    refine w_istore (pc' := 45) (ls' := [_, _, _, _, _, _, _, _, _]) k167_43 rfl rfl rfl ?_
    refine w_c1 (pc' := 46) k167_45 rfl ?_
    refine w_istore (pc' := 48) (ls' := [_, _, _, _, _, _, _, _, _]) k167_46 rfl rfl rfl ?_
    rw [show waysS H E (opC A (-4)) (a / H) (b / H) = sumN (wJ H E (opC A (-4)) (a / H) (b / H)) H.toNat from if_neg c_37]
    exact m167l hF0 ha hb (N := H.toNat) (by omega) H.toNat 0 _ _ _ _ (by omega) rfl (by omega) rfl
  · refine w_c1 (pc' := 41) k167_40 rfl ?_
    exact w_reti k167_41 ⟨by unfold waysS; rw [if_pos c_37], rfl⟩
theorem m168 (hF : MF sh R I K H E HO S L B A) {a b : Int} : RV X (d + 4) 168 [.inr (some 57), .inl a, .inl b] (sh, R, I) (wysS H E HO A a b) := by
  have hF0 := hF
  obtain ⟨hM, hK, hpo, hha, hms, hab, hB⟩ := hF
  have hr := hK.r
  show WP X (d + 4) 168 0 [.inr (some 57), .inl a, .inl b] [] (sh, R, I) 0 0 _
  refine w_aload (pc' := 1) k168_0 rfl rfl ?_
  refine w_iload (pc' := 2) k168_1 rfl rfl ?_
  refine w_iload (pc' := 3) k168_2 rfl rfl ?_
  refine w_callB (pc' := 6) (as := [.inr (some 57), .inl _, .inl _]) k168_3 rfl rfl (co_v rfl rfl (hM.1 57 (11, 30) rfl)) (by decide) (m164 hF0) (fun q_3 => ?_) (fun q_3 => ?_)
  · refine w_if_eq (pc' := 9) k168_6 rfl (fun c_6 => absurd c_6 (by decide)) (fun _ => ?_)
    refine w_aload (pc' := 10) k168_9 rfl rfl ?_
    refine w_iload (pc' := 11) k168_10 rfl rfl ?_
    refine w_iload (pc' := 12) k168_11 rfl rfl ?_
    refine w_callE (pc' := 15) (as := [.inr (some 57), .inl _, .inl _]) k168_12 rfl rfl (co_v rfl rfl (hM.1 57 (11, 30) rfl)) (by decide) (m167 hF0 q_3.1 q_3.2.1) ?_
    refine w_goto k168_15 ?_
    exact w_reti k168_19 ⟨by unfold wysS; rw [if_pos q_3], rfl⟩
  · refine w_if_eq (pc' := 9) k168_6 rfl (fun _ => ?_) (fun c_6 => absurd c_6 (by decide))
    refine w_c1 (pc' := 19) k168_18 rfl ?_
    exact w_reti k168_19 ⟨by unfold wysS; rw [if_neg q_3], rfl⟩
end M73
