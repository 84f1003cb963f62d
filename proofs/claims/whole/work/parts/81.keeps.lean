/-! ===== REFERENCE: what is kept, undone ===== -/
theorem upA_uu {I : Nat → Int → Int} {a : Nat} {f g : Int → Int} : upA (upA I a f) a g = upA I a g := by
  funext b
  by_cases c : b = a
  · subst c; rw [upA_s, upA_s]
  · rw [upA_n c, upA_n c, upA_n c]
theorem upA_id {I : Nat → Int → Int} {a : Nat} : upA I a (I a) = I := by
  funext b
  by_cases c : b = a
  · subst c; rw [upA_s]
  · rw [upA_n c]
/-- n of g from b on, laid over f from a on -/
def cqF (f g : Int → Int) (a b : Int) (n : Nat) : Int → Int := fun j => if a ≤ j ∧ j < a + (n : Int) then g (b + (j - a)) else f j
theorem cqF_0 {f g : Int → Int} {a b : Int} : cqF f g a b 0 = f := by
  funext j
  exact if_neg (by omega)
theorem cqF_in {f g : Int → Int} {a b j : Int} {n : Nat} (h : 0 ≤ j ∧ j < (n : Int)) : cqF f g a b n (a + j) = g (b + j) := by
  show (if a ≤ a + j ∧ a + j < a + (n : Int) then g (b + (a + j - a)) else f (a + j)) = _
  rw [if_pos (by omega), show a + j - a = j by omega]
theorem cqF_out {f g : Int → Int} {a b j : Int} {n : Nat} (h : j < a ∨ a + (n : Int) ≤ j) : cqF f g a b n j = f j := if_neg (by omega)
theorem cqF_s {f g : Int → Int} {a b x v : Int} {m : Nat} (hx : x = a + (m : Int)) (hv : v = g (b + (m : Int))) : upF (cqF f g a b m) x v = cqF f g a b (m + 1) := by
  subst hx hv
  funext j
  by_cases c : j = a + (m : Int)
  · subst c
    rw [upF_s, cqF_in (by omega)]
  · rw [upF_n c]
    by_cases c2 : a ≤ j ∧ j < a + (m : Int)
    · have e : j = a + (j - a) := by omega
      rw [e, cqF_in (by omega), cqF_in (by omega)]
    · rw [cqF_out (by omega), cqF_out (by omega)]
section M81
variable {X : Nat × (Int → Int)} {d : Nat} {sh : List (Nat × Nat)} {R : Nat → Nat → Option Nat} {I : Nat → Int → Int} {K H E HO S L B : Int} {A : AS}
theorem k147a (hM : LM sh R) {Q : VV → Hp → Prop} (C : ∀ v1 : VV, WP X (d + 1) 147 37 [.inr (some 57), v1] [] (sh, R, upA I 63 (cqF (I 63) (I 63) (0) (108) 108)) 0 0 Q) : ∀ (k m : Nat) (i : Int) (I1 : Nat → Int → Int), m + k = 108 → i = (m : Int) → I1 = upA I 63 (cqF (I 63) (I 63) (0) (108) m) → WP X (d + 1) 147 10 [.inr (some 57), .inl i] [] (sh, R, I1) 0 0 Q := by
  intro k
  induction k with
  | zero =>
    rintro m i I1 hk rfl rfl
    have e : m = 108 := by omega
    subst e
    refine w_iload (pc' := 11) k147_10 rfl rfl ?_
    refine w_c2 (pc' := 13) k147_11 rfl ?_
    refine w_ic_ge (pc' := 16) k147_13 rfl (fun c_13 => ?_) (fun c_13 => absurd c_13 (by omega))
    exact C _
  | succ k ih =>
    rintro m i I1 hk rfl e
    refine w_iload (pc' := 11) k147_10 rfl rfl ?_
    refine w_c2 (pc' := 13) k147_11 rfl ?_
    refine w_ic_ge (pc' := 16) k147_13 rfl (fun c_13 => absurd c_13 (by omega)) (fun c_13 => ?_)
    refine w_aload (pc' := 17) k147_16 rfl rfl ?_
    refine w_getR (pc' := 20) (v := 63) k147_17 rfl (hM.1 57 (11, 30) rfl) (hM.2 57 10 63 rfl) ?_
    refine w_iload (pc' := 21) k147_20 rfl rfl ?_
    refine w_aload (pc' := 22) k147_21 rfl rfl ?_
    refine w_getR (pc' := 25) (v := 63) k147_22 rfl (hM.1 57 (11, 30) rfl) (hM.2 57 10 63 rfl) ?_
    refine w_c2 (pc' := 27) k147_25 rfl ?_
    refine w_iload (pc' := 28) k147_27 rfl rfl ?_
    refine w_iadd (pc' := 29) k147_28 rfl (by omega) ?_
    refine w_iald (pc' := 30) (v := I 63 (108 + (m : Int))) k147_29 rfl (hM.1 63 (0, 216) rfl) (by omega) (by rw [e, upA_s]; exact cqF_out (by omega)) ?_
    refine w_iast (pc' := 31) k147_30 rfl (hM.1 63 (0, 216) rfl) (by omega) ?_
    refine w_iinc (pc' := 34) (ls' := [_, _]) k147_31 rfl rfl (by omega) rfl ?_
    refine w_goto k147_34 ?_
    exact ih (m + 1) _ _ (by omega) (by omega) (by rw [e, upA_s, upA_uu, cqF_s (by omega) rfl])
theorem k147b (hM : LM sh R) {Q : VV → Hp → Prop} (C : ∀ v1 : VV, WP X (d + 1) 147 68 [.inr (some 57), v1] [] (sh, R, upA I 64 (cqF (I 64) (I 64) (0) (4860) 4860)) 0 0 Q) : ∀ (k m : Nat) (i : Int) (I1 : Nat → Int → Int), m + k = 4860 → i = (m : Int) → I1 = upA I 64 (cqF (I 64) (I 64) (0) (4860) m) → WP X (d + 1) 147 39 [.inr (some 57), .inl i] [] (sh, R, I1) 0 0 Q := by
  intro k
  induction k with
  | zero =>
    rintro m i I1 hk rfl rfl
    have e : m = 4860 := by omega
    subst e
    refine w_iload (pc' := 40) k147_39 rfl rfl ?_
    refine w_c3 (pc' := 43) k147_40 rfl ?_
    refine w_ic_ge (pc' := 46) k147_43 rfl (fun c_43 => ?_) (fun c_43 => absurd c_43 (by omega))
    exact C _
  | succ k ih =>
    rintro m i I1 hk rfl e
    refine w_iload (pc' := 40) k147_39 rfl rfl ?_
    refine w_c3 (pc' := 43) k147_40 rfl ?_
    refine w_ic_ge (pc' := 46) k147_43 rfl (fun c_43 => absurd c_43 (by omega)) (fun c_43 => ?_)
    refine w_aload (pc' := 47) k147_46 rfl rfl ?_
    refine w_getR (pc' := 50) (v := 64) k147_47 rfl (hM.1 57 (11, 30) rfl) (hM.2 57 11 64 rfl) ?_
    refine w_iload (pc' := 51) k147_50 rfl rfl ?_
    refine w_aload (pc' := 52) k147_51 rfl rfl ?_
    refine w_getR (pc' := 55) (v := 64) k147_52 rfl (hM.1 57 (11, 30) rfl) (hM.2 57 11 64 rfl) ?_
    refine w_c3 (pc' := 58) k147_55 rfl ?_
    refine w_iload (pc' := 59) k147_58 rfl rfl ?_
    refine w_iadd (pc' := 60) k147_59 rfl (by omega) ?_
    refine w_iald (pc' := 61) (v := I 64 (4860 + (m : Int))) k147_60 rfl (hM.1 64 (0, 9720) rfl) (by omega) (by rw [e, upA_s]; exact cqF_out (by omega)) ?_
    refine w_iast (pc' := 62) k147_61 rfl (hM.1 64 (0, 9720) rfl) (by omega) ?_
    refine w_iinc (pc' := 65) (ls' := [_, _]) k147_62 rfl rfl (by omega) rfl ?_
    refine w_goto k147_65 ?_
    exact ih (m + 1) _ _ (by omega) (by omega) (by rw [e, upA_s, upA_uu, cqF_s (by omega) rfl])
theorem k147c (hM : LM sh R) {Q : VV → Hp → Prop} (C : ∀ v1 : VV, WP X (d + 1) 147 97 [.inr (some 57), v1] [] (sh, R, upA I 65 (cqF (I 65) (I 65) (0) (64) 64)) 0 0 Q) : ∀ (k m : Nat) (i : Int) (I1 : Nat → Int → Int), m + k = 64 → i = (m : Int) → I1 = upA I 65 (cqF (I 65) (I 65) (0) (64) m) → WP X (d + 1) 147 70 [.inr (some 57), .inl i] [] (sh, R, I1) 0 0 Q := by
  intro k
  induction k with
  | zero =>
    rintro m i I1 hk rfl rfl
    have e : m = 64 := by omega
    subst e
    refine w_iload (pc' := 71) k147_70 rfl rfl ?_
    refine w_c2 (pc' := 73) k147_71 rfl ?_
    refine w_ic_ge (pc' := 76) k147_73 rfl (fun c_73 => ?_) (fun c_73 => absurd c_73 (by omega))
    exact C _
  | succ k ih =>
    rintro m i I1 hk rfl e
    refine w_iload (pc' := 71) k147_70 rfl rfl ?_
    refine w_c2 (pc' := 73) k147_71 rfl ?_
    refine w_ic_ge (pc' := 76) k147_73 rfl (fun c_73 => absurd c_73 (by omega)) (fun c_73 => ?_)
    refine w_aload (pc' := 77) k147_76 rfl rfl ?_
    refine w_getR (pc' := 80) (v := 65) k147_77 rfl (hM.1 57 (11, 30) rfl) (hM.2 57 12 65 rfl) ?_
    refine w_iload (pc' := 81) k147_80 rfl rfl ?_
    refine w_aload (pc' := 82) k147_81 rfl rfl ?_
    refine w_getR (pc' := 85) (v := 65) k147_82 rfl (hM.1 57 (11, 30) rfl) (hM.2 57 12 65 rfl) ?_
    refine w_c2 (pc' := 87) k147_85 rfl ?_
    refine w_iload (pc' := 88) k147_87 rfl rfl ?_
    refine w_iadd (pc' := 89) k147_88 rfl (by omega) ?_
    refine w_iald (pc' := 90) (v := I 65 (64 + (m : Int))) k147_89 rfl (hM.1 65 (0, 128) rfl) (by omega) (by rw [e, upA_s]; exact cqF_out (by omega)) ?_
    refine w_iast (pc' := 91) k147_90 rfl (hM.1 65 (0, 128) rfl) (by omega) ?_
    refine w_iinc (pc' := 94) (ls' := [_, _]) k147_91 rfl rfl (by omega) rfl ?_
    refine w_goto k147_94 ?_
    exact ih (m + 1) _ _ (by omega) (by omega) (by rw [e, upA_s, upA_uu, cqF_s (by omega) rfl])
theorem k147d (hM : LM sh R) {u : Int} (h9 : I 57 9 = u) (hu : 0 ≤ u ∧ u ≤ 1) {Q : VV → Hp → Prop} (C : ∀ v1 : VV, WP X (d + 1) 147 153 [.inr (some 57), v1] [] (sh, R, upA I 63 (cqF (I 63) (I 59) (108 * u) (0) 108)) 0 0 Q) : ∀ (k m : Nat) (i : Int) (I1 : Nat → Int → Int), m + k = 108 → i = (m : Int) → I1 = upA I 63 (cqF (I 63) (I 59) (108 * u) (0) m) → WP X (d + 1) 147 121 [.inr (some 57), .inl i] [] (sh, R, I1) 0 0 Q := by
  intro k
  induction k with
  | zero =>
    rintro m i I1 hk rfl rfl
    have e : m = 108 := by omega
    subst e
    refine w_iload (pc' := 122) k147_121 rfl rfl ?_
    refine w_c2 (pc' := 124) k147_122 rfl ?_
    refine w_ic_ge (pc' := 127) k147_124 rfl (fun c_124 => ?_) (fun c_124 => absurd c_124 (by omega))
    exact C _
  | succ k ih =>
    rintro m i I1 hk rfl e
    refine w_iload (pc' := 122) k147_121 rfl rfl ?_
    refine w_c2 (pc' := 124) k147_122 rfl ?_
    refine w_ic_ge (pc' := 127) k147_124 rfl (fun c_124 => absurd c_124 (by omega)) (fun c_124 => ?_)
    refine w_aload (pc' := 128) k147_127 rfl rfl ?_
    refine w_getR (pc' := 131) (v := 63) k147_128 rfl (hM.1 57 (11, 30) rfl) (hM.2 57 10 63 rfl) ?_
    refine w_c2 (pc' := 133) k147_131 rfl ?_
    refine w_aload (pc' := 134) k147_133 rfl rfl ?_
    refine w_getI (pc' := 137) (ki := 9) (v := u) k147_134 rfl (hM.1 57 (11, 30) rfl) rfl (by rw [e, upA_n (by decide)]; exact h9) ?_
    refine w_imul (pc' := 138) k147_137 rfl (by omega) ?_
    refine w_iload (pc' := 139) k147_138 rfl rfl ?_
    refine w_iadd (pc' := 140) k147_139 rfl (by omega) ?_
    refine w_aload (pc' := 141) k147_140 rfl rfl ?_
    refine w_getR (pc' := 144) (v := 59) k147_141 rfl (hM.1 57 (11, 30) rfl) (hM.2 57 4 59 rfl) ?_
    refine w_iload (pc' := 145) k147_144 rfl rfl ?_
    refine w_iald (pc' := 146) (v := I 59 (0 + (m : Int))) k147_145 rfl (hM.1 59 (0, 108) rfl) (by omega) (by rw [e, upA_n (by decide), Int.zero_add]) ?_
    refine w_iast (pc' := 147) k147_146 rfl (hM.1 63 (0, 216) rfl) (by omega) ?_
    refine w_iinc (pc' := 150) (ls' := [_, _]) k147_147 rfl rfl (by omega) rfl ?_
    refine w_goto k147_150 ?_
    exact ih (m + 1) _ _ (by omega) (by omega) (by rw [e, upA_s, upA_uu, cqF_s (by omega) rfl])
theorem k147e (hM : LM sh R) {u : Int} (h9 : I 57 9 = u) (hu : 0 ≤ u ∧ u ≤ 1) {Q : VV → Hp → Prop} (C : ∀ v1 : VV, WP X (d + 1) 147 189 [.inr (some 57), v1] [] (sh, R, upA I 64 (cqF (I 64) (I 60) (4860 * u) (0) 4860)) 0 0 Q) : ∀ (k m : Nat) (i : Int) (I1 : Nat → Int → Int), m + k = 4860 → i = (m : Int) → I1 = upA I 64 (cqF (I 64) (I 60) (4860 * u) (0) m) → WP X (d + 1) 147 155 [.inr (some 57), .inl i] [] (sh, R, I1) 0 0 Q := by
  intro k
  induction k with
  | zero =>
    rintro m i I1 hk rfl rfl
    have e : m = 4860 := by omega
    subst e
    refine w_iload (pc' := 156) k147_155 rfl rfl ?_
    refine w_c3 (pc' := 159) k147_156 rfl ?_
    refine w_ic_ge (pc' := 162) k147_159 rfl (fun c_159 => ?_) (fun c_159 => absurd c_159 (by omega))
    exact C _
  | succ k ih =>
    rintro m i I1 hk rfl e
    refine w_iload (pc' := 156) k147_155 rfl rfl ?_
    refine w_c3 (pc' := 159) k147_156 rfl ?_
    refine w_ic_ge (pc' := 162) k147_159 rfl (fun c_159 => absurd c_159 (by omega)) (fun c_159 => ?_)
    refine w_aload (pc' := 163) k147_162 rfl rfl ?_
    refine w_getR (pc' := 166) (v := 64) k147_163 rfl (hM.1 57 (11, 30) rfl) (hM.2 57 11 64 rfl) ?_
    refine w_c3 (pc' := 169) k147_166 rfl ?_
    refine w_aload (pc' := 170) k147_169 rfl rfl ?_
    refine w_getI (pc' := 173) (ki := 9) (v := u) k147_170 rfl (hM.1 57 (11, 30) rfl) rfl (by rw [e, upA_n (by decide)]; exact h9) ?_
    refine w_imul (pc' := 174) k147_173 rfl (by omega) ?_
    refine w_iload (pc' := 175) k147_174 rfl rfl ?_
    refine w_iadd (pc' := 176) k147_175 rfl (by omega) ?_
    refine w_aload (pc' := 177) k147_176 rfl rfl ?_
    refine w_getR (pc' := 180) (v := 60) k147_177 rfl (hM.1 57 (11, 30) rfl) (hM.2 57 5 60 rfl) ?_
    refine w_iload (pc' := 181) k147_180 rfl rfl ?_
    refine w_iald (pc' := 182) (v := I 60 (0 + (m : Int))) k147_181 rfl (hM.1 60 (0, 4860) rfl) (by omega) (by rw [e, upA_n (by decide), Int.zero_add]) ?_
    refine w_iast (pc' := 183) k147_182 rfl (hM.1 64 (0, 9720) rfl) (by omega) ?_
    refine w_iinc (pc' := 186) (ls' := [_, _]) k147_183 rfl rfl (by omega) rfl ?_
    refine w_goto k147_186 ?_
    exact ih (m + 1) _ _ (by omega) (by omega) (by rw [e, upA_s, upA_uu, cqF_s (by omega) rfl])
theorem k147f (hM : LM sh R) {u : Int} (h9 : I 57 9 = u) (hu : 0 ≤ u ∧ u ≤ 1) {Q : VV → Hp → Prop} (C : ∀ v1 : VV, WP X (d + 1) 147 223 [.inr (some 57), v1] [] (sh, R, upA I 65 (cqF (I 65) (I 62) (64 * u) (0) 64)) 0 0 Q) : ∀ (k m : Nat) (i : Int) (I1 : Nat → Int → Int), m + k = 64 → i = (m : Int) → I1 = upA I 65 (cqF (I 65) (I 62) (64 * u) (0) m) → WP X (d + 1) 147 191 [.inr (some 57), .inl i] [] (sh, R, I1) 0 0 Q := by
  intro k
  induction k with
  | zero =>
    rintro m i I1 hk rfl rfl
    have e : m = 64 := by omega
    subst e
    refine w_iload (pc' := 192) k147_191 rfl rfl ?_
    refine w_c2 (pc' := 194) k147_192 rfl ?_
    refine w_ic_ge (pc' := 197) k147_194 rfl (fun c_194 => ?_) (fun c_194 => absurd c_194 (by omega))
    exact C _
  | succ k ih =>
    rintro m i I1 hk rfl e
    refine w_iload (pc' := 192) k147_191 rfl rfl ?_
    refine w_c2 (pc' := 194) k147_192 rfl ?_
    refine w_ic_ge (pc' := 197) k147_194 rfl (fun c_194 => absurd c_194 (by omega)) (fun c_194 => ?_)
    refine w_aload (pc' := 198) k147_197 rfl rfl ?_
    refine w_getR (pc' := 201) (v := 65) k147_198 rfl (hM.1 57 (11, 30) rfl) (hM.2 57 12 65 rfl) ?_
    refine w_c2 (pc' := 203) k147_201 rfl ?_
    refine w_aload (pc' := 204) k147_203 rfl rfl ?_
    refine w_getI (pc' := 207) (ki := 9) (v := u) k147_204 rfl (hM.1 57 (11, 30) rfl) rfl (by rw [e, upA_n (by decide)]; exact h9) ?_
    refine w_imul (pc' := 208) k147_207 rfl (by omega) ?_
    refine w_iload (pc' := 209) k147_208 rfl rfl ?_
    refine w_iadd (pc' := 210) k147_209 rfl (by omega) ?_
    refine w_aload (pc' := 211) k147_210 rfl rfl ?_
    refine w_getR (pc' := 214) (v := 62) k147_211 rfl (hM.1 57 (11, 30) rfl) (hM.2 57 8 62 rfl) ?_
    refine w_iload (pc' := 215) k147_214 rfl rfl ?_
    refine w_iald (pc' := 216) (v := I 62 (0 + (m : Int))) k147_215 rfl (hM.1 62 (0, 64) rfl) (by omega) (by rw [e, upA_n (by decide), Int.zero_add]) ?_
    refine w_iast (pc' := 217) k147_216 rfl (hM.1 65 (0, 128) rfl) (by omega) ?_
    refine w_iinc (pc' := 220) (ls' := [_, _]) k147_217 rfl rfl (by omega) rfl ?_
    refine w_goto k147_220 ?_
    exact ih (m + 1) _ _ (by omega) (by omega) (by rw [e, upA_s, upA_uu, cqF_s (by omega) rfl])
theorem k148a (hM : LM sh R) {u : Int} (h9 : I 57 9 = u) (hu : 0 ≤ u ∧ u ≤ 1) {Q : VV → Hp → Prop} (C : ∀ v1 : VV, WP X (d + 1) 148 54 [.inr (some 57), v1] [] (sh, R, upA I 59 (cqF (I 59) (I 63) (0) (108 * u) 108)) 0 0 Q) : ∀ (k m : Nat) (i : Int) (I1 : Nat → Int → Int), m + k = 108 → i = (m : Int) → I1 = upA I 59 (cqF (I 59) (I 63) (0) (108 * u) m) → WP X (d + 1) 148 22 [.inr (some 57), .inl i] [] (sh, R, I1) 0 0 Q := by
  intro k
  induction k with
  | zero =>
    rintro m i I1 hk rfl rfl
    have e : m = 108 := by omega
    subst e
    refine w_iload (pc' := 23) k148_22 rfl rfl ?_
    refine w_c2 (pc' := 25) k148_23 rfl ?_
    refine w_ic_ge (pc' := 28) k148_25 rfl (fun c_25 => ?_) (fun c_25 => absurd c_25 (by omega))
    exact C _
  | succ k ih =>
    rintro m i I1 hk rfl e
    refine w_iload (pc' := 23) k148_22 rfl rfl ?_
    refine w_c2 (pc' := 25) k148_23 rfl ?_
    refine w_ic_ge (pc' := 28) k148_25 rfl (fun c_25 => absurd c_25 (by omega)) (fun c_25 => ?_)
    refine w_aload (pc' := 29) k148_28 rfl rfl ?_
    refine w_getR (pc' := 32) (v := 59) k148_29 rfl (hM.1 57 (11, 30) rfl) (hM.2 57 4 59 rfl) ?_
    refine w_iload (pc' := 33) k148_32 rfl rfl ?_
    refine w_aload (pc' := 34) k148_33 rfl rfl ?_
    refine w_getR (pc' := 37) (v := 63) k148_34 rfl (hM.1 57 (11, 30) rfl) (hM.2 57 10 63 rfl) ?_
    refine w_c2 (pc' := 39) k148_37 rfl ?_
    refine w_aload (pc' := 40) k148_39 rfl rfl ?_
    refine w_getI (pc' := 43) (ki := 9) (v := u) k148_40 rfl (hM.1 57 (11, 30) rfl) rfl (by rw [e, upA_n (by decide)]; exact h9) ?_
    refine w_imul (pc' := 44) k148_43 rfl (by omega) ?_
    refine w_iload (pc' := 45) k148_44 rfl rfl ?_
    refine w_iadd (pc' := 46) k148_45 rfl (by omega) ?_
    refine w_iald (pc' := 47) (v := I 63 (108 * u + (m : Int))) k148_46 rfl (hM.1 63 (0, 216) rfl) (by omega) (by rw [e, upA_n (by decide)]) ?_
    refine w_iast (pc' := 48) k148_47 rfl (hM.1 59 (0, 108) rfl) (by omega) ?_
    refine w_iinc (pc' := 51) (ls' := [_, _]) k148_48 rfl rfl (by omega) rfl ?_
    refine w_goto k148_51 ?_
    exact ih (m + 1) _ _ (by omega) (by omega) (by rw [e, upA_s, upA_uu, cqF_s (by omega) rfl])
theorem k148b (hM : LM sh R) {u : Int} (h9 : I 57 9 = u) (hu : 0 ≤ u ∧ u ≤ 1) {Q : VV → Hp → Prop} (C : ∀ v1 : VV, WP X (d + 1) 148 90 [.inr (some 57), v1] [] (sh, R, upA I 60 (cqF (I 60) (I 64) (0) (4860 * u) 4860)) 0 0 Q) : ∀ (k m : Nat) (i : Int) (I1 : Nat → Int → Int), m + k = 4860 → i = (m : Int) → I1 = upA I 60 (cqF (I 60) (I 64) (0) (4860 * u) m) → WP X (d + 1) 148 56 [.inr (some 57), .inl i] [] (sh, R, I1) 0 0 Q := by
  intro k
  induction k with
  | zero =>
    rintro m i I1 hk rfl rfl
    have e : m = 4860 := by omega
    subst e
    refine w_iload (pc' := 57) k148_56 rfl rfl ?_
    refine w_c3 (pc' := 60) k148_57 rfl ?_
    refine w_ic_ge (pc' := 63) k148_60 rfl (fun c_60 => ?_) (fun c_60 => absurd c_60 (by omega))
    exact C _
  | succ k ih =>
    rintro m i I1 hk rfl e
    refine w_iload (pc' := 57) k148_56 rfl rfl ?_
    refine w_c3 (pc' := 60) k148_57 rfl ?_
    refine w_ic_ge (pc' := 63) k148_60 rfl (fun c_60 => absurd c_60 (by omega)) (fun c_60 => ?_)
    refine w_aload (pc' := 64) k148_63 rfl rfl ?_
    refine w_getR (pc' := 67) (v := 60) k148_64 rfl (hM.1 57 (11, 30) rfl) (hM.2 57 5 60 rfl) ?_
    refine w_iload (pc' := 68) k148_67 rfl rfl ?_
    refine w_aload (pc' := 69) k148_68 rfl rfl ?_
    refine w_getR (pc' := 72) (v := 64) k148_69 rfl (hM.1 57 (11, 30) rfl) (hM.2 57 11 64 rfl) ?_
    refine w_c3 (pc' := 75) k148_72 rfl ?_
    refine w_aload (pc' := 76) k148_75 rfl rfl ?_
    refine w_getI (pc' := 79) (ki := 9) (v := u) k148_76 rfl (hM.1 57 (11, 30) rfl) rfl (by rw [e, upA_n (by decide)]; exact h9) ?_
    refine w_imul (pc' := 80) k148_79 rfl (by omega) ?_
    refine w_iload (pc' := 81) k148_80 rfl rfl ?_
    refine w_iadd (pc' := 82) k148_81 rfl (by omega) ?_
    refine w_iald (pc' := 83) (v := I 64 (4860 * u + (m : Int))) k148_82 rfl (hM.1 64 (0, 9720) rfl) (by omega) (by rw [e, upA_n (by decide)]) ?_
    refine w_iast (pc' := 84) k148_83 rfl (hM.1 60 (0, 4860) rfl) (by omega) ?_
    refine w_iinc (pc' := 87) (ls' := [_, _]) k148_84 rfl rfl (by omega) rfl ?_
    refine w_goto k148_87 ?_
    exact ih (m + 1) _ _ (by omega) (by omega) (by rw [e, upA_s, upA_uu, cqF_s (by omega) rfl])
theorem k148c (hM : LM sh R) {u : Int} (h9 : I 57 9 = u) (hu : 0 ≤ u ∧ u ≤ 1) {Q : VV → Hp → Prop} (C : ∀ v1 : VV, WP X (d + 1) 148 124 [.inr (some 57), v1] [] (sh, R, upA I 62 (cqF (I 62) (I 65) (0) (64 * u) 64)) 0 0 Q) : ∀ (k m : Nat) (i : Int) (I1 : Nat → Int → Int), m + k = 64 → i = (m : Int) → I1 = upA I 62 (cqF (I 62) (I 65) (0) (64 * u) m) → WP X (d + 1) 148 92 [.inr (some 57), .inl i] [] (sh, R, I1) 0 0 Q := by
  intro k
  induction k with
  | zero =>
    rintro m i I1 hk rfl rfl
    have e : m = 64 := by omega
    subst e
    refine w_iload (pc' := 93) k148_92 rfl rfl ?_
    refine w_c2 (pc' := 95) k148_93 rfl ?_
    refine w_ic_ge (pc' := 98) k148_95 rfl (fun c_95 => ?_) (fun c_95 => absurd c_95 (by omega))
    exact C _
  | succ k ih =>
    rintro m i I1 hk rfl e
    refine w_iload (pc' := 93) k148_92 rfl rfl ?_
    refine w_c2 (pc' := 95) k148_93 rfl ?_
    refine w_ic_ge (pc' := 98) k148_95 rfl (fun c_95 => absurd c_95 (by omega)) (fun c_95 => ?_)
    refine w_aload (pc' := 99) k148_98 rfl rfl ?_
    refine w_getR (pc' := 102) (v := 62) k148_99 rfl (hM.1 57 (11, 30) rfl) (hM.2 57 8 62 rfl) ?_
    refine w_iload (pc' := 103) k148_102 rfl rfl ?_
    refine w_aload (pc' := 104) k148_103 rfl rfl ?_
    refine w_getR (pc' := 107) (v := 65) k148_104 rfl (hM.1 57 (11, 30) rfl) (hM.2 57 12 65 rfl) ?_
    refine w_c2 (pc' := 109) k148_107 rfl ?_
    refine w_aload (pc' := 110) k148_109 rfl rfl ?_
    refine w_getI (pc' := 113) (ki := 9) (v := u) k148_110 rfl (hM.1 57 (11, 30) rfl) rfl (by rw [e, upA_n (by decide)]; exact h9) ?_
    refine w_imul (pc' := 114) k148_113 rfl (by omega) ?_
    refine w_iload (pc' := 115) k148_114 rfl rfl ?_
    refine w_iadd (pc' := 116) k148_115 rfl (by omega) ?_
    refine w_iald (pc' := 117) (v := I 65 (64 * u + (m : Int))) k148_116 rfl (hM.1 65 (0, 128) rfl) (by omega) (by rw [e, upA_n (by decide)]) ?_
    refine w_iast (pc' := 118) k148_117 rfl (hM.1 62 (0, 64) rfl) (by omega) ?_
    refine w_iinc (pc' := 121) (ls' := [_, _]) k148_118 rfl rfl (by omega) rfl ?_
    refine w_goto k148_121 ?_
    exact ih (m + 1) _ _ (by omega) (by omega) (by rw [e, upA_s, upA_uu, cqF_s (by omega) rfl])
/-- the second half: what is, is kept at u -/
theorem m147b (hM : LM sh R) {u : Int} (h9 : I 57 9 = u) (hu : 0 ≤ u ∧ u ≤ 1) {v1 : VV} : WP X (d + 1) 147 119 [.inr (some 57), v1] [] (sh, R, I) 0 0 (fun _ h' => ∃ I', h' = (sh, R, I') ∧ (∀ a, a ≠ 57 → (a < 63 ∨ 66 < a) → I' a = I a) ∧ (∀ j, j ≠ 9 → I' 57 j = I 57 j) ∧ I' 57 9 = u + 1 ∧ ((∀ l, 0 ≤ l → l < 108 → I' 63 (108 * u + l) = I 59 l) ∧ (∀ l, 0 ≤ l → l < 4860 → I' 64 (4860 * u + l) = I 60 l) ∧ (∀ l, 0 ≤ l → l < 64 → I' 65 (64 * u + l) = I 62 l) ∧ I' 66 u = I 57 7) ∧ (∀ l, l < 108 * u → I' 63 l = I 63 l) ∧ (∀ l, l < 4860 * u → I' 64 l = I 64 l) ∧ (∀ l, l < 64 * u → I' 65 l = I 65 l) ∧ (∀ l, l < u → I' 66 l = I 66 l)) := by
  have step : ∀ J1 J2 J3 : Nat → Int → Int, J1 = upA I 63 (cqF (I 63) (I 59) (108 * u) 0 108) → J2 = upA J1 64 (cqF (J1 64) (J1 60) (4860 * u) 0 4860) → J3 = upA J2 65 (cqF (J2 65) (J2 62) (64 * u) 0 64) → ∀ v1, WP X (d + 1) 147 223 [.inr (some 57), v1] [] (sh, R, J3) 0 0 (fun _ h' => ∃ I', h' = (sh, R, I') ∧ (∀ a, a ≠ 57 → (a < 63 ∨ 66 < a) → I' a = I a) ∧ (∀ j, j ≠ 9 → I' 57 j = I 57 j) ∧ I' 57 9 = u + 1 ∧ ((∀ l, 0 ≤ l → l < 108 → I' 63 (108 * u + l) = I 59 l) ∧ (∀ l, 0 ≤ l → l < 4860 → I' 64 (4860 * u + l) = I 60 l) ∧ (∀ l, 0 ≤ l → l < 64 → I' 65 (64 * u + l) = I 62 l) ∧ I' 66 u = I 57 7) ∧ (∀ l, l < 108 * u → I' 63 l = I 63 l) ∧ (∀ l, l < 4860 * u → I' 64 l = I 64 l) ∧ (∀ l, l < 64 * u → I' 65 l = I 65 l) ∧ (∀ l, l < u → I' 66 l = I 66 l)) := by
    intro J1 J2 J3 e1 e2 e3 v1
    have s9 : J3 57 = I 57 := by rw [e3, upA_n (by decide), e2, upA_n (by decide), e1, upA_n (by decide)]
    have s66 : J3 66 = I 66 := by rw [e3, upA_n (by decide), e2, upA_n (by decide), e1, upA_n (by decide)]
    have g9 : J3 57 9 = u := by rw [s9]; exact h9
    have g7 : J3 57 7 = I 57 7 := by rw [s9]
    have f3 : J3 63 = cqF (I 63) (I 59) (108 * u) 0 108 := by rw [e3, upA_n (by decide), e2, upA_n (by decide), e1, upA_s]
    have f4 : J3 64 = cqF (I 64) (I 60) (4860 * u) 0 4860 := by rw [e3, upA_n (by decide), e2, upA_s, e1, upA_n (by decide), upA_n (by decide)]
    have f5 : J3 65 = cqF (I 65) (I 62) (64 * u) 0 64 := by rw [e3, upA_s, e2, upA_n (by decide), upA_n (by decide), e1, upA_n (by decide), upA_n (by decide)]
    have fo : ∀ a, a ≠ 57 → (a < 63 ∨ 66 < a) → J3 a = I a := fun a q1 q2 => by rw [e3, upA_n (by omega), e2, upA_n (by omega), e1, upA_n (by omega)]
    refine w_aload (pc' := 224) k147_223 rfl rfl ?_
    refine w_getR (pc' := 227) (v := 66) k147_224 rfl (hM.1 57 (11, 30) rfl) (hM.2 57 13 66 rfl) ?_
    refine w_aload (pc' := 228) k147_227 rfl rfl ?_
    refine w_getI (pc' := 231) (ki := 9) (v := u) k147_228 rfl (hM.1 57 (11, 30) rfl) rfl g9 ?_
    refine w_aload (pc' := 232) k147_231 rfl rfl ?_
    refine w_getI (pc' := 235) (ki := 7) (v := I 57 7) k147_232 rfl (hM.1 57 (11, 30) rfl) rfl g7 ?_
    refine w_iast (pc' := 236) k147_235 rfl (hM.1 66 (0, 2) rfl) (by omega) ?_
    refine w_aload (pc' := 237) k147_236 rfl rfl ?_
    refine w_dup (pc' := 238) k147_237 rfl ?_
    refine w_getI (pc' := 241) (ki := 9) (v := u) k147_238 rfl (hM.1 57 (11, 30) rfl) rfl (by rw [upA_n (by decide)]; exact g9) ?_
    refine w_c1 (pc' := 242) k147_241 rfl ?_
    refine w_iadd (pc' := 243) k147_242 rfl (by omega) ?_
    refine w_putI (pc' := 246) (ki := 9) k147_243 rfl (hM.1 57 (11, 30) rfl) rfl ?_
    refine w_retv k147_246 ⟨_, rfl, fun a q1 q2 => by rw [upA_n q1, upA_n (by omega)]; exact fo a q1 q2, fun j q => by rw [upA_s, upF_n q, upA_n (by decide), s9], by rw [upA_s, upF_s], ⟨fun l q1 q2 => ?_, fun l q1 q2 => ?_, fun l q1 q2 => ?_, ?_⟩, fun l q => ?_, fun l q => ?_, fun l q => ?_, fun l q => ?_⟩
    · rw [upA_n (by decide), upA_n (by decide), f3, cqF_in ⟨q1, q2⟩, Int.zero_add]
    · rw [upA_n (by decide), upA_n (by decide), f4, cqF_in ⟨q1, q2⟩, Int.zero_add]
    · rw [upA_n (by decide), upA_n (by decide), f5, cqF_in ⟨q1, q2⟩, Int.zero_add]
    · rw [upA_n (by decide), upA_s, upF_s]
    · rw [upA_n (by decide), upA_n (by decide), f3, cqF_out (Or.inl q)]
    · rw [upA_n (by decide), upA_n (by decide), f4, cqF_out (Or.inl q)]
    · rw [upA_n (by decide), upA_n (by decide), f5, cqF_out (Or.inl q)]
    · rw [upA_n (by decide), upA_s, upF_n (by omega), s66]
  refine w_c1 (pc' := 120) k147_119 rfl ?_
  refine w_istore (pc' := 121) (ls' := [_, _]) k147_120 rfl rfl rfl ?_
  refine k147d hM h9 hu (fun v1 => ?_) 108 0 _ _ (by omega) rfl (by rw [cqF_0, upA_id])
  refine w_c1 (pc' := 154) k147_153 rfl ?_
  refine w_istore (pc' := 155) (ls' := [_, _]) k147_154 rfl rfl rfl ?_
  refine k147e (I := (upA I 63 (cqF (I 63) (I 59) (108 * u) 0 108))) hM (by rw [upA_n (by decide)]; exact h9) hu (fun v1 => ?_) 4860 0 _ _ (by omega) rfl (by rw [cqF_0, upA_id])
  refine w_c1 (pc' := 190) k147_189 rfl ?_
  refine w_istore (pc' := 191) (ls' := [_, _]) k147_190 rfl rfl rfl ?_
  refine k147f (I := (upA (upA I 63 (cqF (I 63) (I 59) (108 * u) 0 108)) 64 (cqF ((upA I 63 (cqF (I 63) (I 59) (108 * u) 0 108)) 64) ((upA I 63 (cqF (I 63) (I 59) (108 * u) 0 108)) 60) (4860 * u) 0 4860))) hM (by rw [upA_n (by decide), upA_n (by decide)]; exact h9) hu (fun v1 => ?_) 64 0 _ _ (by omega) rfl (by rw [cqF_0, upA_id])
  exact step _ _ _ rfl rfl rfl _
/-- keeps: what lies behind it -/
def KPT (I I' : Nat → Int → Int) (u : Int) : Prop := (∀ a, a ≠ 57 → (a < 63 ∨ 66 < a) → I' a = I a) ∧ (∀ j, j ≠ 9 → I' 57 j = I 57 j) ∧ I' 57 9 = min 2 (u + 1) ∧ ((∀ l, 0 ≤ l → l < 108 → I' 63 (108 * (min 1 u) + l) = I 59 l) ∧ (∀ l, 0 ≤ l → l < 4860 → I' 64 (4860 * (min 1 u) + l) = I 60 l) ∧ (∀ l, 0 ≤ l → l < 64 → I' 65 (64 * (min 1 u) + l) = I 62 l) ∧ I' 66 (min 1 u) = I 57 7) ∧ (1 ≤ u → (∀ l, 0 ≤ l → l < 108 → I' 63 l = I 63 (108 * (u - 1) + l)) ∧ (∀ l, 0 ≤ l → l < 4860 → I' 64 l = I 64 (4860 * (u - 1) + l)) ∧ (∀ l, 0 ≤ l → l < 64 → I' 65 l = I 65 (64 * (u - 1) + l)) ∧ I' 66 0 = I 66 (u - 1))
theorem m147 (hM : LM sh R) {u : Int} (h9 : I 57 9 = u) (hu : 0 ≤ u ∧ u ≤ 2) : WPM X (d + 1) 147 [.inr (some 57)] (sh, R, I) 0 0 (fun _ h' => ∃ I', h' = (sh, R, I') ∧ KPT I I' u) := by
  have step : ∀ J1 J2 J3 : Nat → Int → Int, u = 2 → J1 = upA I 63 (cqF (I 63) (I 63) 0 108 108) → J2 = upA J1 64 (cqF (J1 64) (J1 64) 0 4860 4860) → J3 = upA J2 65 (cqF (J2 65) (J2 65) 0 64 64) → ∀ v1, WP X (d + 1) 147 97 [.inr (some 57), v1] [] (sh, R, J3) 0 0 (fun _ h' => ∃ I', h' = (sh, R, I') ∧ KPT I I' u) := by
    intro J1 J2 J3 hu2 e1 e2 e3 v1
    have s9 : J3 57 = I 57 := by rw [e3, upA_n (by decide), e2, upA_n (by decide), e1, upA_n (by decide)]
    have s66 : J3 66 = I 66 := by rw [e3, upA_n (by decide), e2, upA_n (by decide), e1, upA_n (by decide)]
    have g9 : J3 57 9 = u := by rw [s9]; exact h9
    have f3 : J3 63 = cqF (I 63) (I 63) 0 108 108 := by rw [e3, upA_n (by decide), e2, upA_n (by decide), e1, upA_s]
    have f4 : J3 64 = cqF (I 64) (I 64) 0 4860 4860 := by rw [e3, upA_n (by decide), e2, upA_s, e1, upA_n (by decide)]
    have f5 : J3 65 = cqF (I 65) (I 65) 0 64 64 := by rw [e3, upA_s, e2, upA_n (by decide), e1, upA_n (by decide)]
    have fo : ∀ a, a ≠ 57 → (a < 63 ∨ 66 < a) → J3 a = I a := fun a q1 q2 => by rw [e3, upA_n (by omega), e2, upA_n (by omega), e1, upA_n (by omega)]
    refine w_aload (pc' := 98) k147_97 rfl rfl ?_
    refine w_getR (pc' := 101) (v := 66) k147_98 rfl (hM.1 57 (11, 30) rfl) (hM.2 57 13 66 rfl) ?_
    refine w_c1 (pc' := 102) k147_101 rfl ?_
    refine w_aload (pc' := 103) k147_102 rfl rfl ?_
    refine w_getR (pc' := 106) (v := 66) k147_103 rfl (hM.1 57 (11, 30) rfl) (hM.2 57 13 66 rfl) ?_
    refine w_c1 (pc' := 107) k147_106 rfl ?_
    refine w_iald (pc' := 108) (v := I 66 1) k147_107 rfl (hM.1 66 (0, 2) rfl) (by omega) (by rw [s66]) ?_
    refine w_iast (pc' := 109) k147_108 rfl (hM.1 66 (0, 2) rfl) (by omega) ?_
    refine w_aload (pc' := 110) k147_109 rfl rfl ?_
    refine w_dup (pc' := 111) k147_110 rfl ?_
    refine w_getI (pc' := 114) (ki := 9) (v := u) k147_111 rfl (hM.1 57 (11, 30) rfl) rfl (by rw [upA_n (by decide)]; exact g9) ?_
    refine w_c1 (pc' := 115) k147_114 rfl ?_
    refine w_isub (pc' := 116) k147_115 rfl (by omega) ?_
    refine w_putI (pc' := 119) (ki := 9) k147_116 rfl (hM.1 57 (11, 30) rfl) rfl ?_
    refine WP.mono (m147b hM (u := 1) (by rw [upA_s, upF_s]; omega) (by omega)) ?_
    rintro r h' ⟨I', rfl, w1, w2, w3, ⟨w4, w5, w6, w7⟩, w8, w9, w10, w11⟩
    refine ⟨_, rfl, fun a q1 q2 => by rw [w1 a q1 q2, upA_n q1, upA_n (by omega)]; exact fo a q1 q2, fun j q => by rw [w2 j q, upA_s, upF_n q, upA_n (by decide), s9], by rw [w3, hu2]; decide, ?_, fun _ => ?_⟩
    · rw [hu2, show min 1 (2 : Int) = 1 by decide]
      refine ⟨fun l q1 q2 => by rw [w4 l q1 q2, upA_n (by decide), upA_n (by decide), fo 59 (by decide) (by decide)], fun l q1 q2 => by rw [w5 l q1 q2, upA_n (by decide), upA_n (by decide), fo 60 (by decide) (by decide)], fun l q1 q2 => by rw [w6 l q1 q2, upA_n (by decide), upA_n (by decide), fo 62 (by decide) (by decide)], by rw [w7, upA_s, upF_n (by decide), upA_n (by decide), s9]⟩
    · rw [hu2, show (2 : Int) - 1 = 1 by decide]
      refine ⟨fun l q1 q2 => ?_, fun l q1 q2 => ?_, fun l q1 q2 => ?_, ?_⟩
      · rw [w8 l (by omega), upA_n (by decide), upA_n (by decide), f3, ← Int.zero_add l, cqF_in ⟨q1, q2⟩, Int.zero_add]; rfl
      · rw [w9 l (by omega), upA_n (by decide), upA_n (by decide), f4, ← Int.zero_add l, cqF_in ⟨q1, q2⟩, Int.zero_add]; rfl
      · rw [w10 l (by omega), upA_n (by decide), upA_n (by decide), f5, ← Int.zero_add l, cqF_in ⟨q1, q2⟩, Int.zero_add]; rfl
      · rw [w11 0 (by omega), upA_n (by decide), upA_s, upF_s]
  show WP X (d + 1) 147 0 [.inr (some 57), .inr none] [] (sh, R, I) 0 0 _
  refine w_aload (pc' := 1) k147_0 rfl rfl ?_
  refine w_getI (pc' := 4) (ki := 9) (v := u) k147_1 rfl (hM.1 57 (11, 30) rfl) rfl h9 ?_
  refine w_c1 (pc' := 5) k147_4 rfl ?_
  refine w_ic_ne (pc' := 8) k147_5 rfl (fun c_5 => ?_) (fun c_5 => ?_)
  · refine WP.mono (m147b hM h9 (by omega)) ?_
    rintro r h' ⟨I', rfl, w1, w2, w3, ⟨w4, w5, w6, w7⟩, w8, w9, w10, w11⟩
    refine ⟨_, rfl, w1, w2, by rw [w3]; omega, ?_, fun q => ?_⟩
    · rw [show min 1 u = u by omega]; exact ⟨w4, w5, w6, w7⟩
    · have e1 : u = 1 := by omega
      subst e1
      refine ⟨fun l q1 q2 => ?_, fun l q1 q2 => ?_, fun l q1 q2 => ?_, ?_⟩
      · rw [w8 l (by omega), show (108 : Int) * (1 - 1) + l = l by omega]
      · rw [w9 l (by omega), show (4860 : Int) * (1 - 1) + l = l by omega]
      · rw [w10 l (by omega), show (64 : Int) * (1 - 1) + l = l by omega]
      · rw [w11 0 (by omega)]; rfl
  · refine w_c1 (pc' := 9) k147_8 rfl ?_
    refine w_istore (pc' := 10) (ls' := [_, _]) k147_9 rfl rfl rfl ?_
    refine k147a hM (fun v1 => ?_) 108 0 _ _ (by omega) rfl (by rw [cqF_0, upA_id])
    refine w_c1 (pc' := 38) k147_37 rfl ?_
    refine w_istore (pc' := 39) (ls' := [_, _]) k147_38 rfl rfl rfl ?_
    refine k147b hM (fun v1 => ?_) 4860 0 _ _ (by omega) rfl (by rw [cqF_0, upA_id])
    refine w_c1 (pc' := 69) k147_68 rfl ?_
    refine w_istore (pc' := 70) (ls' := [_, _]) k147_69 rfl rfl rfl ?_
    refine k147c hM (fun v1 => ?_) 64 0 _ _ (by omega) rfl (by rw [cqF_0, upA_id])
    exact step _ _ _ c_5 rfl rfl rfl _
end M81
