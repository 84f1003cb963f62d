/-! ===== CLASS: Journey ===== -/
section C21
variable {X : Nat × (Int → Int)} {d : Nat} {sh : List (Nat × Nat)} {R : Nat → Nat → Option Nat} {I : Nat → Int → Int} {s g_s M_s : Nat} {K H E HO S L B : Int} {A : AS}
theorem pod_e {n : Int} (h : n < E) : podS H E n = n / H := if_pos h
theorem place_e {n : Int} (h : n < E) : placeS H E n = n % H := if_pos h
theorem tier_e {n : Int} (h : n < E) : tierS E n = 0 := if_pos h
theorem pod_m {n : Int} (h : E ≤ n) (h2 : n < 2 * E) : podS H E n = (n - E) / H := by unfold podS; rw [if_neg (by omega), if_pos h2]
theorem place_m {n : Int} (h : E ≤ n) (h2 : n < 2 * E) : placeS H E n = (n - E) % H := by unfold placeS; rw [if_neg (by omega), if_pos h2]
theorem tier_m {n : Int} (h : E ≤ n) (h2 : n < 2 * E) : tierS E n = 1 := by unfold tierS; rw [if_neg (by omega), if_pos h2]
theorem place_c {n : Int} (h : 2 * E ≤ n) (h0 : 0 ≤ E) : placeS H E n = (n - 2 * E) / H := by unfold placeS; rw [if_neg (by omega), if_neg (by omega)]
theorem memb_c {n : Int} (h : 2 * E ≤ n) : membS H E n = (n - 2 * E) % H := by unfold membS; rw [if_neg (by omega)]
theorem tier_c {n : Int} (h : 2 * E ≤ n) (h0 : 0 ≤ E) : tierS E n = 2 := by unfold tierS; rw [if_neg (by omega), if_neg (by omega)]
theorem KP.r (hK : KP K H E HO S L) : (1 ≤ H ∧ H ≤ 3) ∧ (2 ≤ E ∧ E ≤ 18) ∧ (2 ≤ HO ∧ HO ≤ 54) ∧ (5 ≤ S ∧ S ≤ 45) ∧ (4 ≤ L ∧ L ≤ 108) ∧ (2 ≤ K ∧ K ≤ 6) ∧ 2 * E < S := by
  rcases hK with ⟨rfl, rfl, rfl, rfl, rfl, rfl⟩ | ⟨rfl, rfl, rfl, rfl, rfl, rfl⟩ | ⟨rfl, rfl, rfl, rfl, rfl, rfl⟩ <;> omega
theorem m9m (hF : CF sh R I K H E HO S L B s g_s M_s A) {n b ss x j : Int} (hn : 0 ≤ n ∧ n < E) (hb : 0 ≤ b ∧ b < HO) (hj : 0 ≤ j ∧ j < H) (hk1 : ev (aMk A n (n * H + j)) = true) (hk2 : ev (aMk A n (b / H * H + j)) = true) (hne : n / H ≠ b / H / H) {N : Nat} (hN : H = (N : Int)) {Q : VV → Hp → Prop} (hex : leadsE H E (fun l => ev (aMk A n l)) n b j = false → ∀ v12 : VV, WP X (d + 2) 9 228 [.inr (some 12), .inr (some s), .inl n, .inl b, .inl ss, .inl (b / H), .inl (n / H), .inl (b / H / H), .inl (b % H + n % H + ss / H), .inl x, .inl j, .inl (n * H + j), v12] [] (sh, R, I) 0 0 Q) (hfd : leadsE H E (fun l => ev (aMk A n l)) n b j = true → Q (.inl (n * H + j)) (sh, R, I)) : ∀ (k m : Nat) (i : Int), m + k = N → i = (m : Int) → anyB (fun m => ev (aMk A n ((E + n / H * H + j) * H + m)) && ev (aMk A n ((E + b / H / H * H + j) * H + m))) m = false → WP X (d + 2) 9 151 [.inr (some 12), .inr (some s), .inl n, .inl b, .inl ss, .inl (b / H), .inl (n / H), .inl (b / H / H), .inl (b % H + n % H + ss / H), .inl x, .inl j, .inl (n * H + j), .inl i] [] (sh, R, I) 0 0 Q := by
  have hF0 := hF
  obtain ⟨hL, hK, hsp, h_s, m_s, n_s, hg, hM, hLS, hcs, hab, hB⟩ := hF
  have hr := hK.r
  have hTN : H.toNat = N := by omega
  intro k
  induction k with
  | zero =>
    rintro m i hk rfl hany
    have e : m = N := by omega
    subst e
    refine w_iload (pc' := 153) k9_151 rfl rfl ?_
    refine w_aload (pc' := 154) k9_153 rfl rfl ?_
    refine w_getR (pc' := 157) (v := 3) k9_154 rfl (hL.1 12 (3, 5) rfl) (hL.2 12 0 3 rfl) ?_
    refine w_getI (pc' := 160) (ki := 1) (v := H) k9_157 rfl (hL.1 3 (5, 14) rfl) rfl hsp.2.1 ?_
    refine w_ic_ge (pc' := 163) k9_160 rfl (fun c_160 => ?_) (fun c_160 => absurd c_160 (by omega))
    exact hex (by unfold leadsE; rw [hTN, hany, decide_eq_false hne]; simp) _
  | succ k ih =>
    rintro m i hk rfl hany
    refine w_iload (pc' := 153) k9_151 rfl rfl ?_
    refine w_aload (pc' := 154) k9_153 rfl rfl ?_
    refine w_getR (pc' := 157) (v := 3) k9_154 rfl (hL.1 12 (3, 5) rfl) (hL.2 12 0 3 rfl) ?_
    refine w_getI (pc' := 160) (ki := 1) (v := H) k9_157 rfl (hL.1 3 (5, 14) rfl) rfl hsp.2.1 ?_
    refine w_ic_ge (pc' := 163) k9_160 rfl (fun c_160 => absurd c_160 (by omega)) (fun c_160 => ?_)
    refine w_aload (pc' := 164) k9_163 rfl rfl ?_
    refine w_iload (pc' := 165) k9_164 rfl rfl ?_
    refine w_aload (pc' := 166) k9_165 rfl rfl ?_
    refine w_getR (pc' := 169) (v := 3) k9_166 rfl (hL.1 12 (3, 5) rfl) (hL.2 12 0 3 rfl) ?_
    refine w_aload (pc' := 170) k9_169 rfl rfl ?_
    refine w_getR (pc' := 173) (v := 3) k9_170 rfl (hL.1 12 (3, 5) rfl) (hL.2 12 0 3 rfl) ?_
    refine w_iload (pc' := 175) k9_173 rfl rfl ?_
    refine w_iload (pc' := 177) k9_175 rfl rfl ?_
    refine w_callE (pc' := 180) (as := [.inr (some 3), .inl _, .inl _]) k9_177 rfl rfl (co_v rfl rfl (hL.1 3 (5, 14) rfl)) (by decide) (m29 hF0 (by first | omega | (rcases hK with ⟨rfl, rfl, rfl, rfl, rfl, rfl⟩ | ⟨rfl, rfl, rfl, rfl, rfl, rfl⟩ | ⟨rfl, rfl, rfl, rfl, rfl, rfl⟩ <;> omega)) (by first | omega | (rcases hK with ⟨rfl, rfl, rfl, rfl, rfl, rfl⟩ | ⟨rfl, rfl, rfl, rfl, rfl, rfl⟩ | ⟨rfl, rfl, rfl, rfl, rfl, rfl⟩ <;> omega))) ?_
    refine w_iload (pc' := 182) k9_180 rfl rfl ?_
    refine w_callE (pc' := 185) (as := [.inr (some 3), .inl _, .inl _]) k9_182 rfl rfl (co_v rfl rfl (hL.1 3 (5, 14) rfl)) (by decide) (m31 hF0 (by first | omega | (rcases hK with ⟨rfl, rfl, rfl, rfl, rfl, rfl⟩ | ⟨rfl, rfl, rfl, rfl, rfl, rfl⟩ | ⟨rfl, rfl, rfl, rfl, rfl, rfl⟩ <;> omega)) (by first | omega | (rcases hK with ⟨rfl, rfl, rfl, rfl, rfl, rfl⟩ | ⟨rfl, rfl, rfl, rfl, rfl, rfl⟩ | ⟨rfl, rfl, rfl, rfl, rfl, rfl⟩ <;> omega))) ?_
    refine w_callB (pc' := 188) (as := [.inr (some s), .inl _, .inl _]) k9_185 rfl rfl (co_v rfl rfl (hL.s0 h_s)) (by decide) (m52 hF0 (by first | omega | (rcases hK with ⟨rfl, rfl, rfl, rfl, rfl, rfl⟩ | ⟨rfl, rfl, rfl, rfl, rfl, rfl⟩ | ⟨rfl, rfl, rfl, rfl, rfl, rfl⟩ <;> omega)) (by first | omega | (rcases hK with ⟨rfl, rfl, rfl, rfl, rfl, rfl⟩ | ⟨rfl, rfl, rfl, rfl, rfl, rfl⟩ | ⟨rfl, rfl, rfl, rfl, rfl, rfl⟩ <;> omega))) (fun q_185 => ?_) (fun q_185 => ?_)
    · refine w_if_eq (pc' := 191) k9_188 rfl (fun c_188 => absurd c_188 (by decide)) (fun _ => ?_)
      refine w_aload (pc' := 192) k9_191 rfl rfl ?_
      refine w_iload (pc' := 193) k9_192 rfl rfl ?_
      refine w_aload (pc' := 194) k9_193 rfl rfl ?_
      refine w_getR (pc' := 197) (v := 3) k9_194 rfl (hL.1 12 (3, 5) rfl) (hL.2 12 0 3 rfl) ?_
      refine w_aload (pc' := 198) k9_197 rfl rfl ?_
      refine w_getR (pc' := 201) (v := 3) k9_198 rfl (hL.1 12 (3, 5) rfl) (hL.2 12 0 3 rfl) ?_
      refine w_iload (pc' := 203) k9_201 rfl rfl ?_
      refine w_iload (pc' := 205) k9_203 rfl rfl ?_
      refine w_callE (pc' := 208) (as := [.inr (some 3), .inl _, .inl _]) k9_205 rfl rfl (co_v rfl rfl (hL.1 3 (5, 14) rfl)) (by decide) (m29 hF0 (by first | omega | (rcases hK with ⟨rfl, rfl, rfl, rfl, rfl, rfl⟩ | ⟨rfl, rfl, rfl, rfl, rfl, rfl⟩ | ⟨rfl, rfl, rfl, rfl, rfl, rfl⟩ <;> omega)) (by first | omega | (rcases hK with ⟨rfl, rfl, rfl, rfl, rfl, rfl⟩ | ⟨rfl, rfl, rfl, rfl, rfl, rfl⟩ | ⟨rfl, rfl, rfl, rfl, rfl, rfl⟩ <;> omega))) ?_
      refine w_iload (pc' := 210) k9_208 rfl rfl ?_
      refine w_callE (pc' := 213) (as := [.inr (some 3), .inl _, .inl _]) k9_210 rfl rfl (co_v rfl rfl (hL.1 3 (5, 14) rfl)) (by decide) (m31 hF0 (by first | omega | (rcases hK with ⟨rfl, rfl, rfl, rfl, rfl, rfl⟩ | ⟨rfl, rfl, rfl, rfl, rfl, rfl⟩ | ⟨rfl, rfl, rfl, rfl, rfl, rfl⟩ <;> omega)) (by first | omega | (rcases hK with ⟨rfl, rfl, rfl, rfl, rfl, rfl⟩ | ⟨rfl, rfl, rfl, rfl, rfl, rfl⟩ | ⟨rfl, rfl, rfl, rfl, rfl, rfl⟩ <;> omega))) ?_
      refine w_callB (pc' := 216) (as := [.inr (some s), .inl _, .inl _]) k9_213 rfl rfl (co_v rfl rfl (hL.s0 h_s)) (by decide) (m52 hF0 (by first | omega | (rcases hK with ⟨rfl, rfl, rfl, rfl, rfl, rfl⟩ | ⟨rfl, rfl, rfl, rfl, rfl, rfl⟩ | ⟨rfl, rfl, rfl, rfl, rfl, rfl⟩ <;> omega)) (by first | omega | (rcases hK with ⟨rfl, rfl, rfl, rfl, rfl, rfl⟩ | ⟨rfl, rfl, rfl, rfl, rfl, rfl⟩ | ⟨rfl, rfl, rfl, rfl, rfl, rfl⟩ <;> omega))) (fun q_213 => ?_) (fun q_213 => ?_)
      · refine w_if_eq (pc' := 219) k9_216 rfl (fun c_216 => absurd c_216 (by decide)) (fun _ => ?_)
        refine w_iload (pc' := 221) k9_219 rfl rfl ?_
        exact w_reti k9_221 (hfd (by unfold leadsE; dsimp only; rw [hk1, hk2, hTN, decide_eq_false hne]; simp only [Bool.true_and, Bool.false_or]; rw [anyB_t]; exact ⟨m, by omega, by simp [q_185, q_213]⟩))
      · refine w_if_eq (pc' := 219) k9_216 rfl (fun _ => ?_) (fun c_216 => absurd c_216 (by decide))
        refine w_iinc (pc' := 225) (ls' := [_, _, _, _, _, _, _, _, _, _, _, _, _]) k9_222 rfl rfl (by first | omega | (rcases hK with ⟨rfl, rfl, rfl, rfl, rfl, rfl⟩ | ⟨rfl, rfl, rfl, rfl, rfl, rfl⟩ | ⟨rfl, rfl, rfl, rfl, rfl, rfl⟩ <;> omega)) rfl ?_
        refine w_goto k9_225 ?_
        exact ih (m + 1) _ (by omega) (by omega) (by simp only [anyB, hany, Bool.false_or]; first | simp [q_185, q_213] | simp [q_185])
    · refine w_if_eq (pc' := 191) k9_188 rfl (fun _ => ?_) (fun c_188 => absurd c_188 (by decide))
      refine w_iinc (pc' := 225) (ls' := [_, _, _, _, _, _, _, _, _, _, _, _, _]) k9_222 rfl rfl (by first | omega | (rcases hK with ⟨rfl, rfl, rfl, rfl, rfl, rfl⟩ | ⟨rfl, rfl, rfl, rfl, rfl, rfl⟩ | ⟨rfl, rfl, rfl, rfl, rfl, rfl⟩ <;> omega)) rfl ?_
      refine w_goto k9_225 ?_
      exact ih (m + 1) _ (by omega) (by omega) (by simp only [anyB, hany, Bool.false_or]; first | simp [q_185, q_213] | simp [q_185])
theorem m9l (hF : CF sh R I K H E HO S L B s g_s M_s A) {n b ss : Int} (hn : 0 ≤ n ∧ n < E) (hb : 0 ≤ b ∧ b < HO) (hs : 0 ≤ ss ∧ ss < H * H) {N : Nat} (hN : H = (N : Int)) : ∀ (k t : Nat) (x : Int) (v10 v11 v12 : VV), t + k = N → x = (t : Int) → WP X (d + 2) 9 68 [.inr (some 12), .inr (some s), .inl n, .inl b, .inl ss, .inl (b / H), .inl (n / H), .inl (b / H / H), .inl (b % H + n % H + ss / H), .inl x, v10, v11, v12] [] (sh, R, I) 0 0 (fun r h' => r = .inl (srE H E (fun l => ev (aMk A n l)) n b ss k x) ∧ h' = (sh, R, I)) := by
  have hF0 := hF
  obtain ⟨hL, hK, hsp, h_s, m_s, n_s, hg, hM, hLS, hcs, hab, hB⟩ := hF
  have hr := hK.r
  have hTN : H.toNat = N := by omega
  intro k
  induction k with
  | zero =>
    rintro t x v10 v11 v12 hk rfl
    refine w_iload (pc' := 70) k9_68 rfl rfl ?_
    refine w_aload (pc' := 71) k9_70 rfl rfl ?_
    refine w_getR (pc' := 74) (v := 3) k9_71 rfl (hL.1 12 (3, 5) rfl) (hL.2 12 0 3 rfl) ?_
    refine w_getI (pc' := 77) (ki := 1) (v := H) k9_74 rfl (hL.1 3 (5, 14) rfl) rfl hsp.2.1 ?_
    refine w_ic_ge (pc' := 80) k9_77 rfl (fun c_77 => ?_) (fun c_77 => absurd c_77 (by omega))
    refine w_c2 (pc' := 236) k9_234 rfl ?_
    exact w_reti k9_236 ⟨rfl, rfl⟩
  | succ k ih =>
    rintro t x v10 v11 v12 hk rfl
    have hj : 0 ≤ (b % H + n % H + ss / H + (t : Int)) % H ∧ (b % H + n % H + ss / H + (t : Int)) % H < H := ⟨Int.emod_nonneg _ (by omega), Int.emod_lt_of_pos _ (by omega)⟩
    have hf0 : 0 ≤ b % H + n % H + ss / H ∧ b % H + n % H + ss / H ≤ 9 := by
      clear ih hj
      rcases hK with ⟨rfl, rfl, rfl, rfl, rfl, rfl⟩ | ⟨rfl, rfl, rfl, rfl, rfl, rfl⟩ | ⟨rfl, rfl, rfl, rfl, rfl, rfl⟩ <;> omega
    refine w_iload (pc' := 70) k9_68 rfl rfl ?_
    refine w_aload (pc' := 71) k9_70 rfl rfl ?_
    refine w_getR (pc' := 74) (v := 3) k9_71 rfl (hL.1 12 (3, 5) rfl) (hL.2 12 0 3 rfl) ?_
    refine w_getI (pc' := 77) (ki := 1) (v := H) k9_74 rfl (hL.1 3 (5, 14) rfl) rfl hsp.2.1 ?_
    refine w_ic_ge (pc' := 80) k9_77 rfl (fun c_77 => absurd c_77 (by omega)) (fun c_77 => ?_)
    refine w_aload (pc' := 81) k9_80 rfl rfl ?_
    refine w_getR (pc' := 84) (v := 3) k9_81 rfl (hL.1 12 (3, 5) rfl) (hL.2 12 0 3 rfl) ?_
    refine w_iload (pc' := 86) k9_84 rfl rfl ?_
    refine w_iload (pc' := 88) k9_86 rfl rfl ?_
    refine w_iadd (pc' := 89) k9_88 rfl (by first | omega | (rcases hK with ⟨rfl, rfl, rfl, rfl, rfl, rfl⟩ | ⟨rfl, rfl, rfl, rfl, rfl, rfl⟩ | ⟨rfl, rfl, rfl, rfl, rfl, rfl⟩ <;> omega)) ?_
    refine w_callE (pc' := 92) (as := [.inr (some 3), .inl _]) k9_89 rfl rfl (co_v rfl rfl (hL.1 3 (5, 14) rfl)) (by decide) (m33 hF0 (by first | omega | (rcases hK with ⟨rfl, rfl, rfl, rfl, rfl, rfl⟩ | ⟨rfl, rfl, rfl, rfl, rfl, rfl⟩ | ⟨rfl, rfl, rfl, rfl, rfl, rfl⟩ <;> omega))) ?_
    refine w_istore (pc' := 94) (ls' := [_, _, _, _, _, _, _, _, _, _, _, _, _]) k9_92 rfl rfl rfl ?_
    generalize hje : (b % H + n % H + ss / H + (t : Int)) % H = j at hj ⊢
    refine w_aload (pc' := 95) k9_94 rfl rfl ?_
    refine w_getR (pc' := 98) (v := 3) k9_95 rfl (hL.1 12 (3, 5) rfl) (hL.2 12 0 3 rfl) ?_
    refine w_iload (pc' := 99) k9_98 rfl rfl ?_
    refine w_iload (pc' := 101) k9_99 rfl rfl ?_
    refine w_callE (pc' := 104) (as := [.inr (some 3), .inl _, .inl _]) k9_101 rfl rfl (co_v rfl rfl (hL.1 3 (5, 14) rfl)) (by decide) (m31 hF0 (by first | omega | (rcases hK with ⟨rfl, rfl, rfl, rfl, rfl, rfl⟩ | ⟨rfl, rfl, rfl, rfl, rfl, rfl⟩ | ⟨rfl, rfl, rfl, rfl, rfl, rfl⟩ <;> omega)) (by first | omega | (rcases hK with ⟨rfl, rfl, rfl, rfl, rfl, rfl⟩ | ⟨rfl, rfl, rfl, rfl, rfl, rfl⟩ | ⟨rfl, rfl, rfl, rfl, rfl, rfl⟩ <;> omega))) ?_
    refine w_istore (pc' := 106) (ls' := [_, _, _, _, _, _, _, _, _, _, _, _, _]) k9_104 rfl rfl rfl ?_
    refine w_aload (pc' := 107) k9_106 rfl rfl ?_
    refine w_iload (pc' := 108) k9_107 rfl rfl ?_
    refine w_iload (pc' := 110) k9_108 rfl rfl ?_
    refine w_callB (pc' := 113) (as := [.inr (some s), .inl _, .inl _]) k9_110 rfl rfl (co_v rfl rfl (hL.s0 h_s)) (by decide) (m52 hF0 (by first | omega | (rcases hK with ⟨rfl, rfl, rfl, rfl, rfl, rfl⟩ | ⟨rfl, rfl, rfl, rfl, rfl, rfl⟩ | ⟨rfl, rfl, rfl, rfl, rfl, rfl⟩ <;> omega)) (by first | omega | (rcases hK with ⟨rfl, rfl, rfl, rfl, rfl, rfl⟩ | ⟨rfl, rfl, rfl, rfl, rfl, rfl⟩ | ⟨rfl, rfl, rfl, rfl, rfl, rfl⟩ <;> omega))) (fun q_110 => ?_) (fun q_110 => ?_)
    · refine w_if_eq (pc' := 116) k9_113 rfl (fun c_113 => absurd c_113 (by decide)) (fun _ => ?_)
      refine w_aload (pc' := 117) k9_116 rfl rfl ?_
      refine w_iload (pc' := 118) k9_117 rfl rfl ?_
      refine w_aload (pc' := 119) k9_118 rfl rfl ?_
      refine w_getR (pc' := 122) (v := 3) k9_119 rfl (hL.1 12 (3, 5) rfl) (hL.2 12 0 3 rfl) ?_
      refine w_iload (pc' := 124) k9_122 rfl rfl ?_
      refine w_iload (pc' := 126) k9_124 rfl rfl ?_
      refine w_callE (pc' := 129) (as := [.inr (some 3), .inl _, .inl _]) k9_126 rfl rfl (co_v rfl rfl (hL.1 3 (5, 14) rfl)) (by decide) (m31 hF0 (by first | omega | (rcases hK with ⟨rfl, rfl, rfl, rfl, rfl, rfl⟩ | ⟨rfl, rfl, rfl, rfl, rfl, rfl⟩ | ⟨rfl, rfl, rfl, rfl, rfl, rfl⟩ <;> omega)) (by first | omega | (rcases hK with ⟨rfl, rfl, rfl, rfl, rfl, rfl⟩ | ⟨rfl, rfl, rfl, rfl, rfl, rfl⟩ | ⟨rfl, rfl, rfl, rfl, rfl, rfl⟩ <;> omega))) ?_
      refine w_callB (pc' := 132) (as := [.inr (some s), .inl _, .inl _]) k9_129 rfl rfl (co_v rfl rfl (hL.s0 h_s)) (by decide) (m52 hF0 (by first | omega | (rcases hK with ⟨rfl, rfl, rfl, rfl, rfl, rfl⟩ | ⟨rfl, rfl, rfl, rfl, rfl, rfl⟩ | ⟨rfl, rfl, rfl, rfl, rfl, rfl⟩ <;> omega)) (by first | omega | (rcases hK with ⟨rfl, rfl, rfl, rfl, rfl, rfl⟩ | ⟨rfl, rfl, rfl, rfl, rfl, rfl⟩ | ⟨rfl, rfl, rfl, rfl, rfl, rfl⟩ <;> omega))) (fun q_129 => ?_) (fun q_129 => ?_)
      · refine w_if_ne (pc' := 135) k9_132 rfl (fun _ => ?_) (fun c_132 => absurd c_132 (by decide))
        refine w_iload (pc' := 140) k9_138 rfl rfl ?_
        refine w_iload (pc' := 142) k9_140 rfl rfl ?_
        refine w_ic_ne (pc' := 145) k9_142 rfl (fun c_142 => ?_) (fun c_142 => ?_)
        · refine w_c1 (pc' := 149) k9_148 rfl ?_
          refine w_istore (pc' := 151) (ls' := [_, _, _, _, _, _, _, _, _, _, _, _, _]) k9_149 rfl rfl rfl ?_
          refine m9m hF0 hn hb hj q_110 q_129 c_142 hN (fun hlf v12 => ?_) (fun hlt => ?_) N 0 _ (by omega) rfl rfl
          · refine w_iinc (pc' := 231) (ls' := [_, _, _, _, _, _, _, _, _, _, _, _, _]) k9_228 rfl rfl (by omega) rfl ?_
            refine w_goto k9_231 ?_
            refine WP.mono (ih (t + 1) _ _ _ _ (by omega) (by omega)) (fun r h' hq => ?_)
            refine ⟨?_, hq.2⟩
            rw [hq.1, srE, hje, if_neg (by rw [hlf]; decide)]
          · refine ⟨?_, rfl⟩
            rw [srE, hje, if_pos hlt]
        · refine w_iload (pc' := 147) k9_145 rfl rfl ?_
          exact w_reti k9_147 ⟨by rw [srE, hje, if_pos (by unfold leadsE; simp [q_110, q_129, c_142])], rfl⟩
      · refine w_if_ne (pc' := 135) k9_132 rfl (fun c_132 => absurd c_132 (by decide)) (fun _ => ?_)
        refine w_goto k9_135 ?_
        refine w_iinc (pc' := 231) (ls' := [_, _, _, _, _, _, _, _, _, _, _, _, _]) k9_228 rfl rfl (by first | omega | (rcases hK with ⟨rfl, rfl, rfl, rfl, rfl, rfl⟩ | ⟨rfl, rfl, rfl, rfl, rfl, rfl⟩ | ⟨rfl, rfl, rfl, rfl, rfl, rfl⟩ <;> omega)) rfl ?_
        refine w_goto k9_231 ?_
        refine WP.mono (ih (t + 1) _ _ _ _ (by omega) (by omega)) (fun r h' hq => ?_)
        refine ⟨?_, hq.2⟩
        rw [hq.1, srE, hje, if_neg]
        unfold leadsE
        first | simp [q_110, q_129] | simp [q_110]
    · refine w_if_eq (pc' := 116) k9_113 rfl (fun _ => ?_) (fun c_113 => absurd c_113 (by decide))
      refine w_iinc (pc' := 231) (ls' := [_, _, _, _, _, _, _, _, _, _, _, _, _]) k9_228 rfl rfl (by first | omega | (rcases hK with ⟨rfl, rfl, rfl, rfl, rfl, rfl⟩ | ⟨rfl, rfl, rfl, rfl, rfl, rfl⟩ | ⟨rfl, rfl, rfl, rfl, rfl, rfl⟩ <;> omega)) rfl ?_
      refine w_goto k9_231 ?_
      refine WP.mono (ih (t + 1) _ _ _ _ (by omega) (by omega)) (fun r h' hq => ?_)
      refine ⟨?_, hq.2⟩
      rw [hq.1, srE, hje, if_neg]
      unfold leadsE
      first | simp [q_110, q_129] | simp [q_110]
theorem m9 (hF : CF sh R I K H E HO S L B s g_s M_s A) {n b ss : Int} (hn : 0 ≤ n ∧ n < E) (hb : 0 ≤ b ∧ b < HO) (hs : 0 ≤ ss ∧ ss < H * H) : RV X (d + 2) 9 [.inr (some 12), .inr (some s), .inl n, .inl b, .inl ss] (sh, R, I) (srE H E (fun l => ev (aMk A n l)) n b ss H.toNat 0) := by
  have hF0 := hF
  obtain ⟨hL, hK, hsp, h_s, m_s, n_s, hg, hM, hLS, hcs, hab, hB⟩ := hF
  have hr := hK.r
  show WP X (d + 2) 9 0 [.inr (some 12), .inr (some s), .inl n, .inl b, .inl ss, .inr none, .inr none, .inr none, .inr none, .inr none, .inr none, .inr none, .inr none] [] (sh, R, I) 0 0 _
  refine w_aload (pc' := 1) k9_0 rfl rfl ?_
  refine w_getR (pc' := 4) (v := 3) k9_1 rfl (hL.1 12 (3, 5) rfl) (hL.2 12 0 3 rfl) ?_
  refine w_getR (pc' := 7) (v := 10) k9_4 rfl (hL.1 3 (5, 14) rfl) (hL.2 3 12 10 rfl) ?_
  refine w_iload (pc' := 8) k9_7 rfl rfl ?_
  refine w_iald (pc' := 9) (v := b / H) k9_8 rfl (hL.1 10 (0, 54) rfl) (by first | omega | (rcases hK with ⟨rfl, rfl, rfl, rfl, rfl, rfl⟩ | ⟨rfl, rfl, rfl, rfl, rfl, rfl⟩ | ⟨rfl, rfl, rfl, rfl, rfl, rfl⟩ <;> omega)) (hsp.2.2.2.2.2.2.2.2 b hb.1 hb.2).1 ?_
  refine w_istore (pc' := 11) (ls' := [_, _, _, _, _, _, _, _, _, _, _, _, _]) k9_9 rfl rfl rfl ?_
  refine w_aload (pc' := 12) k9_11 rfl rfl ?_
  refine w_getR (pc' := 15) (v := 3) k9_12 rfl (hL.1 12 (3, 5) rfl) (hL.2 12 0 3 rfl) ?_
  refine w_getR (pc' := 18) (v := 5) k9_15 rfl (hL.1 3 (5, 14) rfl) (hL.2 3 7 5 rfl) ?_
  refine w_iload (pc' := 19) k9_18 rfl rfl ?_
  refine w_iald (pc' := 20) (v := n / H) k9_19 rfl (hL.1 5 (0, 45) rfl) (by first | omega | (rcases hK with ⟨rfl, rfl, rfl, rfl, rfl, rfl⟩ | ⟨rfl, rfl, rfl, rfl, rfl, rfl⟩ | ⟨rfl, rfl, rfl, rfl, rfl, rfl⟩ <;> omega)) (((hsp.2.2.2.2.2.2.1 n (by first | omega | (rcases hK with ⟨rfl, rfl, rfl, rfl, rfl, rfl⟩ | ⟨rfl, rfl, rfl, rfl, rfl, rfl⟩ | ⟨rfl, rfl, rfl, rfl, rfl, rfl⟩ <;> omega)) (by first | omega | (rcases hK with ⟨rfl, rfl, rfl, rfl, rfl, rfl⟩ | ⟨rfl, rfl, rfl, rfl, rfl, rfl⟩ | ⟨rfl, rfl, rfl, rfl, rfl, rfl⟩ <;> omega)))).2.1.trans (pod_e hn.2)) ?_
  refine w_istore (pc' := 22) (ls' := [_, _, _, _, _, _, _, _, _, _, _, _, _]) k9_20 rfl rfl rfl ?_
  refine w_aload (pc' := 23) k9_22 rfl rfl ?_
  refine w_getR (pc' := 26) (v := 3) k9_23 rfl (hL.1 12 (3, 5) rfl) (hL.2 12 0 3 rfl) ?_
  refine w_getR (pc' := 29) (v := 5) k9_26 rfl (hL.1 3 (5, 14) rfl) (hL.2 3 7 5 rfl) ?_
  refine w_iload (pc' := 31) k9_29 rfl rfl ?_
  refine w_iald (pc' := 32) (v := b / H / H) k9_31 rfl (hL.1 5 (0, 45) rfl) (by first | omega | (rcases hK with ⟨rfl, rfl, rfl, rfl, rfl, rfl⟩ | ⟨rfl, rfl, rfl, rfl, rfl, rfl⟩ | ⟨rfl, rfl, rfl, rfl, rfl, rfl⟩ <;> omega)) (((hsp.2.2.2.2.2.2.1 (b / H) (by first | omega | (rcases hK with ⟨rfl, rfl, rfl, rfl, rfl, rfl⟩ | ⟨rfl, rfl, rfl, rfl, rfl, rfl⟩ | ⟨rfl, rfl, rfl, rfl, rfl, rfl⟩ <;> omega)) (by first | omega | (rcases hK with ⟨rfl, rfl, rfl, rfl, rfl, rfl⟩ | ⟨rfl, rfl, rfl, rfl, rfl, rfl⟩ | ⟨rfl, rfl, rfl, rfl, rfl, rfl⟩ <;> omega)))).2.1.trans (pod_e (by first | omega | (rcases hK with ⟨rfl, rfl, rfl, rfl, rfl, rfl⟩ | ⟨rfl, rfl, rfl, rfl, rfl, rfl⟩ | ⟨rfl, rfl, rfl, rfl, rfl, rfl⟩ <;> omega)))) ?_
  refine w_istore (pc' := 34) (ls' := [_, _, _, _, _, _, _, _, _, _, _, _, _]) k9_32 rfl rfl rfl ?_
  refine w_aload (pc' := 35) k9_34 rfl rfl ?_
  refine w_getR (pc' := 38) (v := 3) k9_35 rfl (hL.1 12 (3, 5) rfl) (hL.2 12 0 3 rfl) ?_
  refine w_getR (pc' := 41) (v := 11) k9_38 rfl (hL.1 3 (5, 14) rfl) (hL.2 3 13 11 rfl) ?_
  refine w_iload (pc' := 42) k9_41 rfl rfl ?_
  refine w_iald (pc' := 43) (v := b % H) k9_42 rfl (hL.1 11 (0, 54) rfl) (by first | omega | (rcases hK with ⟨rfl, rfl, rfl, rfl, rfl, rfl⟩ | ⟨rfl, rfl, rfl, rfl, rfl, rfl⟩ | ⟨rfl, rfl, rfl, rfl, rfl, rfl⟩ <;> omega)) (hsp.2.2.2.2.2.2.2.2 b hb.1 hb.2).2 ?_
  refine w_aload (pc' := 44) k9_43 rfl rfl ?_
  refine w_getR (pc' := 47) (v := 3) k9_44 rfl (hL.1 12 (3, 5) rfl) (hL.2 12 0 3 rfl) ?_
  refine w_getR (pc' := 50) (v := 6) k9_47 rfl (hL.1 3 (5, 14) rfl) (hL.2 3 8 6 rfl) ?_
  refine w_iload (pc' := 51) k9_50 rfl rfl ?_
  refine w_iald (pc' := 52) (v := n % H) k9_51 rfl (hL.1 6 (0, 45) rfl) (by first | omega | (rcases hK with ⟨rfl, rfl, rfl, rfl, rfl, rfl⟩ | ⟨rfl, rfl, rfl, rfl, rfl, rfl⟩ | ⟨rfl, rfl, rfl, rfl, rfl, rfl⟩ <;> omega)) (((hsp.2.2.2.2.2.2.1 n (by first | omega | (rcases hK with ⟨rfl, rfl, rfl, rfl, rfl, rfl⟩ | ⟨rfl, rfl, rfl, rfl, rfl, rfl⟩ | ⟨rfl, rfl, rfl, rfl, rfl, rfl⟩ <;> omega)) (by first | omega | (rcases hK with ⟨rfl, rfl, rfl, rfl, rfl, rfl⟩ | ⟨rfl, rfl, rfl, rfl, rfl, rfl⟩ | ⟨rfl, rfl, rfl, rfl, rfl, rfl⟩ <;> omega)))).2.2.1.trans (place_e hn.2)) ?_
  refine w_iadd (pc' := 53) k9_52 rfl (by first | omega | (rcases hK with ⟨rfl, rfl, rfl, rfl, rfl, rfl⟩ | ⟨rfl, rfl, rfl, rfl, rfl, rfl⟩ | ⟨rfl, rfl, rfl, rfl, rfl, rfl⟩ <;> omega)) ?_
  refine w_aload (pc' := 54) k9_53 rfl rfl ?_
  refine w_getR (pc' := 57) (v := 3) k9_54 rfl (hL.1 12 (3, 5) rfl) (hL.2 12 0 3 rfl) ?_
  refine w_iload (pc' := 59) k9_57 rfl rfl ?_
  refine w_callE (pc' := 62) (as := [.inr (some 3), .inl _]) k9_59 rfl rfl (co_v rfl rfl (hL.1 3 (5, 14) rfl)) (by decide) (m32 hF0 (by omega)) ?_
  refine w_iadd (pc' := 63) k9_62 rfl (by first | omega | (rcases hK with ⟨rfl, rfl, rfl, rfl, rfl, rfl⟩ | ⟨rfl, rfl, rfl, rfl, rfl, rfl⟩ | ⟨rfl, rfl, rfl, rfl, rfl, rfl⟩ <;> omega)) ?_
  refine w_istore (pc' := 65) (ls' := [_, _, _, _, _, _, _, _, _, _, _, _, _]) k9_63 rfl rfl rfl ?_
  refine w_c1 (pc' := 66) k9_65 rfl ?_
  refine w_istore (pc' := 68) (ls' := [_, _, _, _, _, _, _, _, _, _, _, _, _]) k9_66 rfl rfl rfl ?_
  exact m9l hF0 hn hb hs (N := H.toNat) (by omega) H.toNat 0 _ _ _ _ (by omega) rfl
end C21
