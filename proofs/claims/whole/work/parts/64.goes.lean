/-! ===== REFERENCE: where a letter goes on ===== -/
section M64
variable {X : Nat × (Int → Int)} {d : Nat} {sh : List (Nat × Nat)} {R : Nat → Nat → Option Nat} {I : Nat → Int → Int} {K H E HO S L B : Int} {A : AS}
theorem m138 (hF : MF sh R I K H E HO S L B A) {a b c v : Int} (ha : 0 ≤ a ∧ a < 6) (hb : 0 ≤ b ∧ b < 3) (hc : 0 ≤ c ∧ c < 3) (hv : (a * H + b) * H + c = v) : RV X (d + 1) 138 [.inr (some 57), .inl a, .inl b, .inl c] (sh, R, I) (v) := by
  have hF0 := hF
  obtain ⟨hM, hK, hpo, hha, hms, hab, hB⟩ := hF
  have hr := hK.r
  show WP X (d + 1) 138 0 [.inr (some 57), .inl a, .inl b, .inl c] [] (sh, R, I) 0 0 _
  refine w_iload (pc' := 1) k138_0 rfl rfl ?_
  refine w_aload (pc' := 2) k138_1 rfl rfl ?_
  refine w_getI (pc' := 5) (ki := 3) (v := H) k138_2 rfl (hM.1 57 (11, 30) rfl) rfl hha ?_
  refine w_imul (pc' := 6) k138_5 rfl (by first | omega | (rcases hK with ⟨rfl, rfl, rfl, rfl, rfl, rfl⟩ | ⟨rfl, rfl, rfl, rfl, rfl, rfl⟩ | ⟨rfl, rfl, rfl, rfl, rfl, rfl⟩ <;> omega)) ?_
  refine w_iload (pc' := 7) k138_6 rfl rfl ?_
  refine w_iadd (pc' := 8) k138_7 rfl (by first | omega | (rcases hK with ⟨rfl, rfl, rfl, rfl, rfl, rfl⟩ | ⟨rfl, rfl, rfl, rfl, rfl, rfl⟩ | ⟨rfl, rfl, rfl, rfl, rfl, rfl⟩ <;> omega)) ?_
  refine w_aload (pc' := 9) k138_8 rfl rfl ?_
  refine w_getI (pc' := 12) (ki := 3) (v := H) k138_9 rfl (hM.1 57 (11, 30) rfl) rfl hha ?_
  refine w_imul (pc' := 13) k138_12 rfl (by first | omega | (rcases hK with ⟨rfl, rfl, rfl, rfl, rfl, rfl⟩ | ⟨rfl, rfl, rfl, rfl, rfl, rfl⟩ | ⟨rfl, rfl, rfl, rfl, rfl, rfl⟩ <;> omega)) ?_
  refine w_iload (pc' := 14) k138_13 rfl rfl ?_
  refine w_iadd (pc' := 15) k138_14 rfl (by first | omega | (rcases hK with ⟨rfl, rfl, rfl, rfl, rfl, rfl⟩ | ⟨rfl, rfl, rfl, rfl, rfl, rfl⟩ | ⟨rfl, rfl, rfl, rfl, rfl, rfl⟩ <;> omega)) ?_
  exact w_reti k138_15 ⟨congrArg Sum.inl hv, rfl⟩
theorem m139 (hF : MF sh R I K H E HO S L B A) {a b c v : Int} (ha : 0 ≤ a ∧ a < 6) (hb : 0 ≤ b ∧ b < 3) (hc : 0 ≤ c ∧ c < 3) (hv : HO + (a * H + b) * H + c = v) : RV X (d + 2) 139 [.inr (some 57), .inl a, .inl b, .inl c] (sh, R, I) (v) := by
  have hF0 := hF
  obtain ⟨hM, hK, hpo, hha, hms, hab, hB⟩ := hF
  have hr := hK.r
  show WP X (d + 2) 139 0 [.inr (some 57), .inl a, .inl b, .inl c] [] (sh, R, I) 0 0 _
  refine w_aload (pc' := 1) k139_0 rfl rfl ?_
  refine w_callE (pc' := 4) (as := [.inr (some 57)]) k139_1 rfl rfl (co_v rfl rfl (hM.1 57 (11, 30) rfl)) (by decide) (m129 hF0) ?_
  refine w_iload (pc' := 5) k139_4 rfl rfl ?_
  refine w_aload (pc' := 6) k139_5 rfl rfl ?_
  refine w_getI (pc' := 9) (ki := 3) (v := H) k139_6 rfl (hM.1 57 (11, 30) rfl) rfl hha ?_
  refine w_imul (pc' := 10) k139_9 rfl (by first | omega | (rcases hK with ⟨rfl, rfl, rfl, rfl, rfl, rfl⟩ | ⟨rfl, rfl, rfl, rfl, rfl, rfl⟩ | ⟨rfl, rfl, rfl, rfl, rfl, rfl⟩ <;> omega)) ?_
  refine w_iload (pc' := 11) k139_10 rfl rfl ?_
  refine w_iadd (pc' := 12) k139_11 rfl (by first | omega | (rcases hK with ⟨rfl, rfl, rfl, rfl, rfl, rfl⟩ | ⟨rfl, rfl, rfl, rfl, rfl, rfl⟩ | ⟨rfl, rfl, rfl, rfl, rfl, rfl⟩ <;> omega)) ?_
  refine w_aload (pc' := 13) k139_12 rfl rfl ?_
  refine w_getI (pc' := 16) (ki := 3) (v := H) k139_13 rfl (hM.1 57 (11, 30) rfl) rfl hha ?_
  refine w_imul (pc' := 17) k139_16 rfl (by first | omega | (rcases hK with ⟨rfl, rfl, rfl, rfl, rfl, rfl⟩ | ⟨rfl, rfl, rfl, rfl, rfl, rfl⟩ | ⟨rfl, rfl, rfl, rfl, rfl, rfl⟩ <;> omega)) ?_
  refine w_iadd (pc' := 18) k139_17 rfl (by first | omega | (rcases hK with ⟨rfl, rfl, rfl, rfl, rfl, rfl⟩ | ⟨rfl, rfl, rfl, rfl, rfl, rfl⟩ | ⟨rfl, rfl, rfl, rfl, rfl, rfl⟩ <;> omega)) ?_
  refine w_iload (pc' := 19) k139_18 rfl rfl ?_
  refine w_iadd (pc' := 20) k139_19 rfl (by first | omega | (rcases hK with ⟨rfl, rfl, rfl, rfl, rfl, rfl⟩ | ⟨rfl, rfl, rfl, rfl, rfl, rfl⟩ | ⟨rfl, rfl, rfl, rfl, rfl, rfl⟩ <;> omega)) ?_
  exact w_reti k139_20 ⟨congrArg Sum.inl hv, rfl⟩
theorem edge_n (hK : KP K H E HO S L) {n b ss : Int} (hn : 0 ≤ n ∧ n < E) (hb : 0 ≤ b ∧ b < HO) : (0 ≤ n / H ∧ n / H < 6) ∧ (0 ≤ n % H ∧ n % H < 3) ∧ (0 ≤ b / H / H ∧ b / H / H < 6) ∧ (0 ≤ b / H % H ∧ b / H % H < 3) ∧ (0 ≤ b % H ∧ b % H < 3) ∧ n < S ∧ 0 ≤ b / H ∧ b / H < E := by
  refine ⟨⟨?_, ?_⟩, ⟨?_, ?_⟩, ⟨?_, ?_⟩, ⟨?_, ?_⟩, ⟨?_, ?_⟩, ?_, ?_, ?_⟩ <;> rcases hK with ⟨rfl, rfl, rfl, rfl, rfl, rfl⟩ | ⟨rfl, rfl, rfl, rfl, rfl, rfl⟩ | ⟨rfl, rfl, rfl, rfl, rfl, rfl⟩ <;> omega
theorem lk1 (hK : KP K H E HO S L) {n b ss : Int} (hn : 0 ≤ n ∧ n < E) (hb : 0 ≤ b ∧ b < HO) {j m : Int} (hj : 0 ≤ j ∧ j < H) (hm : 0 ≤ m ∧ m < H) : ((n / H * H + n % H) * H + j = n * H + j ∧ 0 ≤ n * H + j ∧ n * H + j < L) ∧ ((b / H / H * H + b / H % H) * H + j = b / H * H + j ∧ 0 ≤ b / H * H + j ∧ b / H * H + j < L) ∧ (HO + (n / H * H + j) * H + m = (E + n / H * H + j) * H + m ∧ 0 ≤ (E + n / H * H + j) * H + m ∧ (E + n / H * H + j) * H + m < L) ∧ (HO + (b / H / H * H + j) * H + m = (E + b / H / H * H + j) * H + m ∧ 0 ≤ (E + b / H / H * H + j) * H + m ∧ (E + b / H / H * H + j) * H + m < L) := by
  refine ⟨⟨?_, ?_, ?_⟩, ⟨?_, ?_, ?_⟩, ⟨?_, ?_, ?_⟩, ?_, ?_, ?_⟩ <;> rcases hK with ⟨rfl, rfl, rfl, rfl, rfl, rfl⟩ | ⟨rfl, rfl, rfl, rfl, rfl, rfl⟩ | ⟨rfl, rfl, rfl, rfl, rfl, rfl⟩ <;> omega
theorem m159m (hF : MF sh R I K H E HO S L B A) {n b ss : Int} (hn : 0 ≤ n ∧ n < E) (hb : 0 ≤ b ∧ b < HO) {x j : Int} (hj : 0 ≤ j ∧ j < H) {N : Nat} (hN : H = (N : Int)) {Q : VV → Hp → Prop} (kk : ∀ v11, WP X (d + 3) 159 204 [.inr (some 57), .inl n, .inl b, .inl ss, .inl (n / H), .inl (n % H), .inl (b / H / H), .inl (b / H % H), .inl x, .inl j, .inl (if anyB (fun m => ev (aMk A n ((E + n / H * H + j) * H + m)) && ev (aMk A n ((E + b / H / H * H + j) * H + m))) N = true then 1 else 0), v11] [] (sh, R, I) 0 0 Q) : ∀ (k m : Nat) (ok i : Int), m + k = N → ok = (if anyB (fun m => ev (aMk A n ((E + n / H * H + j) * H + m)) && ev (aMk A n ((E + b / H / H * H + j) * H + m))) m = true then 1 else 0) → i = (m : Int) → WP X (d + 3) 159 141 [.inr (some 57), .inl n, .inl b, .inl ss, .inl (n / H), .inl (n % H), .inl (b / H / H), .inl (b / H % H), .inl x, .inl j, .inl ok, .inl i] [] (sh, R, I) 0 0 Q := by
  have hF0 := hF
  obtain ⟨hM, hK, hpo, hha, hms, hab, hB⟩ := hF
  have hr := hK.r
  have hen := edge_n (ss := ss) hK hn hb
  intro k
  induction k with
  | zero =>
    rintro m ok i hk rfl rfl
    have e : m = N := by omega
    subst e
    refine w_iload (pc' := 143) k159_141 rfl rfl ?_
    refine w_aload (pc' := 144) k159_143 rfl rfl ?_
    refine w_getI (pc' := 147) (ki := 3) (v := H) k159_144 rfl (hM.1 57 (11, 30) rfl) rfl hha ?_
    refine w_ic_ge (pc' := 150) k159_147 rfl (fun c_147 => ?_) (fun c_147 => absurd c_147 (by omega))
    exact kk _
  | succ k ih =>
    rintro m ok i hk hok rfl
    have hm : (0 : Int) ≤ (m : Int) ∧ (m : Int) < H := by omega
    have hl := lk1 (ss := ss) hK hn hb hj hm
    refine w_iload (pc' := 143) k159_141 rfl rfl ?_
    refine w_aload (pc' := 144) k159_143 rfl rfl ?_
    refine w_getI (pc' := 147) (ki := 3) (v := H) k159_144 rfl (hM.1 57 (11, 30) rfl) rfl hha ?_
    refine w_ic_ge (pc' := 150) k159_147 rfl (fun c_147 => absurd c_147 (by omega)) (fun c_147 => ?_)
    refine w_iload (pc' := 152) k159_150 rfl rfl ?_
    refine w_if_ne (pc' := 155) k159_152 rfl (fun c_152 => ?_) (fun c_152 => ?_)
    · refine w_c1 (pc' := 192) k159_191 rfl ?_
      refine w_goto k159_192 ?_
      refine w_istore (pc' := 198) (ls' := [_, _, _, _, _, _, _, _, _, _, _, _]) k159_196 rfl rfl rfl ?_
      refine w_iinc (pc' := 201) (ls' := [_, _, _, _, _, _, _, _, _, _, _, _]) k159_198 rfl rfl (by omega) rfl ?_
      refine w_goto k159_201 ?_
      exact ih (m + 1) _ _ (by omega) (by
        have h9 : anyB (fun m => ev (aMk A n ((E + n / H * H + j) * H + m)) && ev (aMk A n ((E + b / H / H * H + j) * H + m))) m = true := Decidable.byContradiction (fun z => c_152 (by rw [hok, if_neg z]))
        rw [anyB, h9]; rfl) (by omega)
    · refine w_aload (pc' := 156) k159_155 rfl rfl ?_
      refine w_iload (pc' := 157) k159_156 rfl rfl ?_
      refine w_aload (pc' := 158) k159_157 rfl rfl ?_
      refine w_iload (pc' := 160) k159_158 rfl rfl ?_
      refine w_iload (pc' := 162) k159_160 rfl rfl ?_
      refine w_iload (pc' := 164) k159_162 rfl rfl ?_
      refine w_callE (pc' := 167) (as := [.inr (some 57), .inl _, .inl _, .inl _]) k159_164 rfl rfl (co_v rfl rfl (hM.1 57 (11, 30) rfl)) (by decide) (m139 hF0 hen.1 (by omega) (by omega) hl.2.2.1.1) ?_
      refine w_callB (pc' := 170) (as := [.inr (some 57), .inl _, .inl _]) k159_167 rfl rfl (co_v rfl rfl (hM.1 57 (11, 30) rfl)) (by decide) (m158 hF0 (by omega) hl.2.2.1.2) (fun q_167 => ?_) (fun q_167 => ?_)
      · refine w_if_eq (pc' := 173) k159_170 rfl (fun c_170 => absurd c_170 (by decide)) (fun _ => ?_)
        refine w_aload (pc' := 174) k159_173 rfl rfl ?_
        refine w_iload (pc' := 175) k159_174 rfl rfl ?_
        refine w_aload (pc' := 176) k159_175 rfl rfl ?_
        refine w_iload (pc' := 178) k159_176 rfl rfl ?_
        refine w_iload (pc' := 180) k159_178 rfl rfl ?_
        refine w_iload (pc' := 182) k159_180 rfl rfl ?_
        refine w_callE (pc' := 185) (as := [.inr (some 57), .inl _, .inl _, .inl _]) k159_182 rfl rfl (co_v rfl rfl (hM.1 57 (11, 30) rfl)) (by decide) (m139 hF0 hen.2.2.1 (by omega) (by omega) hl.2.2.2.1) ?_
        refine w_callB (pc' := 188) (as := [.inr (some 57), .inl _, .inl _]) k159_185 rfl rfl (co_v rfl rfl (hM.1 57 (11, 30) rfl)) (by decide) (m158 hF0 (by omega) hl.2.2.2.2) (fun q_185 => ?_) (fun q_185 => ?_)
        · refine w_if_eq (pc' := 191) k159_188 rfl (fun c_188 => absurd c_188 (by decide)) (fun _ => ?_)
          refine w_c1 (pc' := 192) k159_191 rfl ?_
          refine w_goto k159_192 ?_
          refine w_istore (pc' := 198) (ls' := [_, _, _, _, _, _, _, _, _, _, _, _]) k159_196 rfl rfl rfl ?_
          refine w_iinc (pc' := 201) (ls' := [_, _, _, _, _, _, _, _, _, _, _, _]) k159_198 rfl rfl (by omega) rfl ?_
          refine w_goto k159_201 ?_
          exact ih (m + 1) _ _ (by omega) (by
            have h9 : anyB (fun m => ev (aMk A n ((E + n / H * H + j) * H + m)) && ev (aMk A n ((E + b / H / H * H + j) * H + m))) m = false := by
              cases h8 : anyB (fun m => ev (aMk A n ((E + n / H * H + j) * H + m)) && ev (aMk A n ((E + b / H / H * H + j) * H + m))) m
              · rfl
              · rw [h8, if_pos rfl] at hok; omega
            rw [anyB, h9, Bool.false_or]
            rw [q_167, q_185]; rfl) (by omega)
        · refine w_if_eq (pc' := 191) k159_188 rfl (fun _ => ?_) (fun c_188 => absurd c_188 (by decide))
          refine w_c1 (pc' := 196) k159_195 rfl ?_
          refine w_istore (pc' := 198) (ls' := [_, _, _, _, _, _, _, _, _, _, _, _]) k159_196 rfl rfl rfl ?_
          refine w_iinc (pc' := 201) (ls' := [_, _, _, _, _, _, _, _, _, _, _, _]) k159_198 rfl rfl (by omega) rfl ?_
          refine w_goto k159_201 ?_
          exact ih (m + 1) _ _ (by omega) (by
            have h9 : anyB (fun m => ev (aMk A n ((E + n / H * H + j) * H + m)) && ev (aMk A n ((E + b / H / H * H + j) * H + m))) m = false := by
              cases h8 : anyB (fun m => ev (aMk A n ((E + n / H * H + j) * H + m)) && ev (aMk A n ((E + b / H / H * H + j) * H + m))) m
              · rfl
              · rw [h8, if_pos rfl] at hok; omega
            rw [anyB, h9, Bool.false_or]
            rw [show ev (aMk A n ((E + b / H / H * H + j) * H + (m : Int))) = false by simpa using q_185, Bool.and_false]; rfl) (by omega)
      · refine w_if_eq (pc' := 173) k159_170 rfl (fun _ => ?_) (fun c_170 => absurd c_170 (by decide))
        refine w_c1 (pc' := 196) k159_195 rfl ?_
        refine w_istore (pc' := 198) (ls' := [_, _, _, _, _, _, _, _, _, _, _, _]) k159_196 rfl rfl rfl ?_
        refine w_iinc (pc' := 201) (ls' := [_, _, _, _, _, _, _, _, _, _, _, _]) k159_198 rfl rfl (by omega) rfl ?_
        refine w_goto k159_201 ?_
        exact ih (m + 1) _ _ (by omega) (by
          have h9 : anyB (fun m => ev (aMk A n ((E + n / H * H + j) * H + m)) && ev (aMk A n ((E + b / H / H * H + j) * H + m))) m = false := by
            cases h8 : anyB (fun m => ev (aMk A n ((E + n / H * H + j) * H + m)) && ev (aMk A n ((E + b / H / H * H + j) * H + m))) m
            · rfl
            · rw [h8, if_pos rfl] at hok; omega
          rw [anyB, h9, Bool.false_or]
          rw [show ev (aMk A n ((E + n / H * H + j) * H + (m : Int))) = false by simpa using q_167, Bool.false_and]; rfl) (by omega)
end M64
