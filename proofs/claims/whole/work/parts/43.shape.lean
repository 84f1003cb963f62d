/-! ===== CLASS: Shape, made for a K ===== -/
section C43
variable {X : Nat × (Int → Int)} {d : Nat} {sh : List (Nat × Nat)} {R : Nat → Nat → Option Nat} {I : Nat → Int → Int} {s g_s M_s : Nat} {K H E HO S L B : Int} {A : AS}
variable {n : Int}
/-- the switches up to n are numbered -/
def SN (I I1 : Nat → Int → Int) (H E n : Int) : Prop := (∀ a, a < 3 ∨ 7 < a → I1 a = I a) ∧ (∀ j, j ≠ 4 → I1 3 j = I 3 j) ∧ I1 3 4 = n ∧ ∀ m, 0 ≤ m → m < n → I1 4 m = tierS E m ∧ I1 5 m = podS H E m ∧ I1 6 m = placeS H E m ∧ I1 7 m = membS H E m
theorem m26 (hL : LC sh R) (hn : I 3 4 = n) (hr : 0 ≤ n ∧ n < 45) {t p q r : Int} : WPM X (d + 1) 26 [.inr (some 3), .inl t, .inl p, .inl q, .inl r] (sh, R, I) 0 0 (fun _ h' => ∃ I', h' = (sh, R, I') ∧ (∀ a, a < 3 ∨ 7 < a → I' a = I a) ∧ I' 3 = upF (I 3) 4 (n + 1) ∧ I' 4 = upF (I 4) n t ∧ I' 5 = upF (I 5) n p ∧ I' 6 = upF (I 6) n q ∧ I' 7 = upF (I 7) n r) := by
  show WP X (d + 1) 26 0 [.inr (some 3), .inl t, .inl p, .inl q, .inl r] [] (sh, R, I) 0 0 _
  refine w_aload (pc' := 1) k26_0 rfl rfl ?_
  refine w_getI (pc' := 4) (ki := 4) (v := n) k26_1 rfl (hL.1 3 (5, 14) rfl) rfl hn ?_
  refine w_c2 (pc' := 6) k26_4 rfl ?_
  refine w_ic_lt (pc' := 9) k26_6 rfl (fun c_6 => ?_) (fun c_6 => absurd c_6 (by omega))
  refine w_aload (pc' := 11) k26_10 rfl rfl ?_
  refine w_getR (pc' := 14) (v := 4) k26_11 rfl (hL.1 3 (5, 14) rfl) (hL.2 3 6 4 rfl) ?_
  refine w_aload (pc' := 15) k26_14 rfl rfl ?_
  refine w_getI (pc' := 18) (ki := 4) (v := n) k26_15 rfl (hL.1 3 (5, 14) rfl) rfl hn ?_
  refine w_iload (pc' := 19) k26_18 rfl rfl ?_
  refine w_iast (pc' := 20) k26_19 rfl (hL.1 4 (0, 45) rfl) (by omega) ?_
  refine w_aload (pc' := 21) k26_20 rfl rfl ?_
  refine w_getR (pc' := 24) (v := 5) k26_21 rfl (hL.1 3 (5, 14) rfl) (hL.2 3 7 5 rfl) ?_
  refine w_aload (pc' := 25) k26_24 rfl rfl ?_
  refine w_getI (pc' := 28) (ki := 4) (v := n) k26_25 rfl (hL.1 3 (5, 14) rfl) rfl (by rw [upA_n (by decide)]; exact hn) ?_
  refine w_iload (pc' := 29) k26_28 rfl rfl ?_
  refine w_iast (pc' := 30) k26_29 rfl (hL.1 5 (0, 45) rfl) (by omega) ?_
  refine w_aload (pc' := 31) k26_30 rfl rfl ?_
  refine w_getR (pc' := 34) (v := 6) k26_31 rfl (hL.1 3 (5, 14) rfl) (hL.2 3 8 6 rfl) ?_
  refine w_aload (pc' := 35) k26_34 rfl rfl ?_
  refine w_getI (pc' := 38) (ki := 4) (v := n) k26_35 rfl (hL.1 3 (5, 14) rfl) rfl (by rw [upA_n (by decide), upA_n (by decide)]; exact hn) ?_
  refine w_iload (pc' := 39) k26_38 rfl rfl ?_
  refine w_iast (pc' := 40) k26_39 rfl (hL.1 6 (0, 45) rfl) (by omega) ?_
  refine w_aload (pc' := 41) k26_40 rfl rfl ?_
  refine w_getR (pc' := 44) (v := 7) k26_41 rfl (hL.1 3 (5, 14) rfl) (hL.2 3 9 7 rfl) ?_
  refine w_aload (pc' := 45) k26_44 rfl rfl ?_
  refine w_getI (pc' := 48) (ki := 4) (v := n) k26_45 rfl (hL.1 3 (5, 14) rfl) rfl (by rw [upA_n (by decide), upA_n (by decide), upA_n (by decide)]; exact hn) ?_
  refine w_iload (pc' := 50) k26_48 rfl rfl ?_
  refine w_iast (pc' := 51) k26_50 rfl (hL.1 7 (0, 45) rfl) (by omega) ?_
  refine w_aload (pc' := 52) k26_51 rfl rfl ?_
  refine w_dup (pc' := 53) k26_52 rfl ?_
  refine w_getI (pc' := 56) (ki := 4) (v := n) k26_53 rfl (hL.1 3 (5, 14) rfl) rfl (by rw [upA_n (by decide), upA_n (by decide), upA_n (by decide), upA_n (by decide)]; exact hn) ?_
  refine w_c1 (pc' := 57) k26_56 rfl ?_
  refine w_iadd (pc' := 58) k26_57 rfl (by omega) ?_
  refine w_putI (pc' := 61) (ki := 4) k26_58 rfl (hL.1 3 (5, 14) rfl) rfl ?_
  refine w_retv k26_61 ⟨_, rfl, fun a h1 => by rw [upA_n (by omega), upA_n (by omega), upA_n (by omega), upA_n (by omega), upA_n (by omega)], ?_, ?_, ?_, ?_, ?_⟩
  · rw [upA_s, upA_n (by decide), upA_n (by decide), upA_n (by decide), upA_n (by decide)]
  · rw [upA_n (by decide), upA_n (by decide), upA_n (by decide), upA_n (by decide), upA_s]
  · rw [upA_n (by decide), upA_n (by decide), upA_n (by decide), upA_s, upA_n (by decide)]
  · rw [upA_n (by decide), upA_n (by decide), upA_s, upA_n (by decide), upA_n (by decide)]
  · rw [upA_n (by decide), upA_s, upA_n (by decide), upA_n (by decide), upA_n (by decide)]
theorem SN.add {I1 I' : Nat → Int → Int} {t p q r : Int} (h : SN I I1 H E n) (e : t = tierS E n ∧ p = podS H E n ∧ q = placeS H E n ∧ r = membS H E n) (h1 : ∀ a, a < 3 ∨ 7 < a → I' a = I1 a) (h3 : I' 3 = upF (I1 3) 4 (n + 1)) (h4 : I' 4 = upF (I1 4) n t) (h5 : I' 5 = upF (I1 5) n p) (h6 : I' 6 = upF (I1 6) n q) (h7 : I' 7 = upF (I1 7) n r) : SN I I' H E (n + 1) := by
  refine ⟨fun a q => by rw [h1 a q, h.1 a q], fun j q => by rw [h3, upF_n q, h.2.1 j q], by rw [h3, upF_s], fun m q1 q2 => ?_⟩
  rw [h4, h5, h6, h7]
  by_cases e9 : m = n
  · subst e9; rw [upF_s, upF_s, upF_s, upF_s]; exact e
  · rw [upF_n e9, upF_n e9, upF_n e9, upF_n e9]; exact h.2.2.2 m q1 (by omega)
theorem m25i0 (hL : LC sh R) (hK : KP K H E HO S L) (h1 : I 3 1 = H) {p : Int} (hp : 0 ≤ p ∧ p < K) {Q : VV → Hp → Prop} (kk : ∀ I2, SN I I2 H E (0 + (p + 1) * H) → WP X (d + 2) 25 40 [.inr (some 3), .inl p, .inl H] [] (sh, R, I2) 0 0 Q) : ∀ (k : Nat) (j : Int) (I1 : Nat → Int → Int), j + k = H → 0 ≤ j → SN I I1 H E (0 + p * H + j) → WP X (d + 2) 25 17 [.inr (some 3), .inl p, .inl j] [] (sh, R, I1) 0 0 Q := by
  intro k
  induction k with
  | zero =>
    rintro j I1 hk hj hs
    have e : j = H := by omega
    subst e
    refine w_iload (pc' := 18) k25_17 rfl rfl ?_
    refine w_aload (pc' := 19) k25_18 rfl rfl ?_
    refine w_getI (pc' := 22) (ki := 1) (v := j) k25_19 rfl (hL.1 3 (5, 14) rfl) rfl (by rw [hs.2.1 1 (by decide)]; exact h1) ?_
    refine w_ic_ge (pc' := 25) k25_22 rfl (fun c_22 => ?_) (fun c_22 => absurd c_22 (by omega))
    exact kk _ (by have e9 : 0 + (p + 1) * j = 0 + p * j + j := (by rw [Int.add_mul]; omega); rw [e9]; exact hs)
  | succ k ih =>
    rintro j I1 hk hj hs
    have hH := hK.r
    have hr : 0 ≤ 0 + p * H + j ∧ 0 + p * H + j < 45 := by
      clear ih
      (rcases hK with ⟨rfl, rfl, rfl, rfl, rfl, rfl⟩ | ⟨rfl, rfl, rfl, rfl, rfl, rfl⟩ | ⟨rfl, rfl, rfl, rfl, rfl, rfl⟩ <;> omega)
    have he : (0 : Int) = tierS E (0 + p * H + j) ∧ p = podS H E (0 + p * H + j) ∧ j = placeS H E (0 + p * H + j) ∧ -4 = membS H E (0 + p * H + j) := by
      clear ih
      unfold tierS podS placeS membS
      rcases hK with ⟨rfl, rfl, rfl, rfl, rfl, rfl⟩ | ⟨rfl, rfl, rfl, rfl, rfl, rfl⟩ | ⟨rfl, rfl, rfl, rfl, rfl, rfl⟩ <;> refine ⟨?_, ?_, ?_, ?_⟩ <;> repeat' split
      all_goals omega
    refine w_iload (pc' := 18) k25_17 rfl rfl ?_
    refine w_aload (pc' := 19) k25_18 rfl rfl ?_
    refine w_getI (pc' := 22) (ki := 1) (v := H) k25_19 rfl (hL.1 3 (5, 14) rfl) rfl (by rw [hs.2.1 1 (by decide)]; exact h1) ?_
    refine w_ic_ge (pc' := 25) k25_22 rfl (fun c_22 => absurd c_22 (by omega)) (fun c_22 => ?_)
    refine w_aload (pc' := 26) k25_25 rfl rfl ?_
    refine w_c1 (pc' := 27) k25_26 rfl ?_
    refine w_iload (pc' := 28) k25_27 rfl rfl ?_
    refine w_iload (pc' := 29) k25_28 rfl rfl ?_
    refine w_c2 (pc' := 31) k25_29 rfl ?_
    refine w_callV (pc' := 34) (as := [.inr (some 3), .inl _, .inl _, .inl _, .inl _]) k25_31 rfl rfl (co_v rfl rfl (hL.1 3 (5, 14) rfl)) (by decide) (m26 hL hs.2.2.1 hr) (fun r_31 h_31 hq => ?_)
    obtain ⟨I_2, rfl, z1, z3, z4, z5, z6, z7⟩ := hq
    have hs2 := hs.add he z1 z3 z4 z5 z6 z7
    refine w_iinc (pc' := 37) (ls' := [_, _, _]) k25_34 rfl rfl (by omega) rfl ?_
    refine w_goto k25_37 ?_
    exact ih (j + 1) _ (by omega) (by omega) (by rw [← Int.add_assoc]; exact hs2)
theorem m25o0 (hL : LC sh R) (hK : KP K H E HO S L) (h0 : I 3 0 = K) (h1 : I 3 1 = H) {Q : VV → Hp → Prop} (kk : ∀ I2 v1 v2, SN I I2 H E (0 + K * H) → WP X (d + 2) 25 46 [.inr (some 3), v1, v2] [] (sh, R, I2) 0 0 Q) : ∀ (k : Nat) (p : Int) (v2 : VV) (I1 : Nat → Int → Int), p + k = K → 0 ≤ p → SN I I1 H E (0 + p * H) → WP X (d + 2) 25 7 [.inr (some 3), .inl p, v2] [] (sh, R, I1) 0 0 Q := by
  intro k
  induction k with
  | zero =>
    rintro p v2 I1 hk hp hs
    have e : p = K := by omega
    subst e
    refine w_iload (pc' := 8) k25_7 rfl rfl ?_
    refine w_aload (pc' := 9) k25_8 rfl rfl ?_
    refine w_getI (pc' := 12) (ki := 0) (v := p) k25_9 rfl (hL.1 3 (5, 14) rfl) rfl (by rw [hs.2.1 0 (by decide)]; exact h0) ?_
    refine w_ic_ge (pc' := 15) k25_12 rfl (fun c_12 => ?_) (fun c_12 => absurd c_12 (by omega))
    exact kk _ _ _ hs
  | succ k ih =>
    rintro p v2 I1 hk hp hs
    have hH := hK.r
    refine w_iload (pc' := 8) k25_7 rfl rfl ?_
    refine w_aload (pc' := 9) k25_8 rfl rfl ?_
    refine w_getI (pc' := 12) (ki := 0) (v := K) k25_9 rfl (hL.1 3 (5, 14) rfl) rfl (by rw [hs.2.1 0 (by decide)]; exact h0) ?_
    refine w_ic_ge (pc' := 15) k25_12 rfl (fun c_12 => absurd c_12 (by omega)) (fun c_12 => ?_)
    refine w_c1 (pc' := 16) k25_15 rfl ?_
    refine w_istore (pc' := 17) (ls' := [_, _, _]) k25_16 rfl rfl rfl ?_
    refine m25i0 hL hK h1 ⟨hp, by omega⟩ (fun I2 hs2 => ?_) H.toNat 0 _ (by omega) (by omega) (by rw [Int.add_zero]; exact hs)
    refine w_iinc (pc' := 43) (ls' := [_, _, _]) k25_40 rfl rfl (by omega) rfl ?_
    refine w_goto k25_43 ?_
    exact ih (p + 1) _ _ (by omega) (by omega) hs2
theorem m25i1 (hL : LC sh R) (hK : KP K H E HO S L) (h1 : I 3 1 = H) {p : Int} (hp : 0 ≤ p ∧ p < K) {Q : VV → Hp → Prop} (kk : ∀ I2, SN I I2 H E (E + (p + 1) * H) → WP X (d + 2) 25 81 [.inr (some 3), .inl p, .inl H] [] (sh, R, I2) 0 0 Q) : ∀ (k : Nat) (j : Int) (I1 : Nat → Int → Int), j + k = H → 0 ≤ j → SN I I1 H E (E + p * H + j) → WP X (d + 2) 25 58 [.inr (some 3), .inl p, .inl j] [] (sh, R, I1) 0 0 Q := by
  intro k
  induction k with
  | zero =>
    rintro j I1 hk hj hs
    have e : j = H := by omega
    subst e
    refine w_iload (pc' := 59) k25_58 rfl rfl ?_
    refine w_aload (pc' := 60) k25_59 rfl rfl ?_
    refine w_getI (pc' := 63) (ki := 1) (v := j) k25_60 rfl (hL.1 3 (5, 14) rfl) rfl (by rw [hs.2.1 1 (by decide)]; exact h1) ?_
    refine w_ic_ge (pc' := 66) k25_63 rfl (fun c_63 => ?_) (fun c_63 => absurd c_63 (by omega))
    exact kk _ (by have e9 : E + (p + 1) * j = E + p * j + j := (by rw [Int.add_mul]; omega); rw [e9]; exact hs)
  | succ k ih =>
    rintro j I1 hk hj hs
    have hH := hK.r
    have hr : 0 ≤ E + p * H + j ∧ E + p * H + j < 45 := by
      clear ih
      (rcases hK with ⟨rfl, rfl, rfl, rfl, rfl, rfl⟩ | ⟨rfl, rfl, rfl, rfl, rfl, rfl⟩ | ⟨rfl, rfl, rfl, rfl, rfl, rfl⟩ <;> omega)
    have he : (1 : Int) = tierS E (E + p * H + j) ∧ p = podS H E (E + p * H + j) ∧ j = placeS H E (E + p * H + j) ∧ -4 = membS H E (E + p * H + j) := by
      clear ih
      unfold tierS podS placeS membS
      rcases hK with ⟨rfl, rfl, rfl, rfl, rfl, rfl⟩ | ⟨rfl, rfl, rfl, rfl, rfl, rfl⟩ | ⟨rfl, rfl, rfl, rfl, rfl, rfl⟩ <;> refine ⟨?_, ?_, ?_, ?_⟩ <;> repeat' split
      all_goals omega
    refine w_iload (pc' := 59) k25_58 rfl rfl ?_
    refine w_aload (pc' := 60) k25_59 rfl rfl ?_
    refine w_getI (pc' := 63) (ki := 1) (v := H) k25_60 rfl (hL.1 3 (5, 14) rfl) rfl (by rw [hs.2.1 1 (by decide)]; exact h1) ?_
    refine w_ic_ge (pc' := 66) k25_63 rfl (fun c_63 => absurd c_63 (by omega)) (fun c_63 => ?_)
    refine w_aload (pc' := 67) k25_66 rfl rfl ?_
    refine w_c1 (pc' := 68) k25_67 rfl ?_
    refine w_iload (pc' := 69) k25_68 rfl rfl ?_
    refine w_iload (pc' := 70) k25_69 rfl rfl ?_
    refine w_c2 (pc' := 72) k25_70 rfl ?_
    refine w_callV (pc' := 75) (as := [.inr (some 3), .inl _, .inl _, .inl _, .inl _]) k25_72 rfl rfl (co_v rfl rfl (hL.1 3 (5, 14) rfl)) (by decide) (m26 hL hs.2.2.1 hr) (fun r_72 h_72 hq => ?_)
    obtain ⟨I_2, rfl, z1, z3, z4, z5, z6, z7⟩ := hq
    have hs2 := hs.add he z1 z3 z4 z5 z6 z7
    refine w_iinc (pc' := 78) (ls' := [_, _, _]) k25_75 rfl rfl (by omega) rfl ?_
    refine w_goto k25_78 ?_
    exact ih (j + 1) _ (by omega) (by omega) (by rw [← Int.add_assoc]; exact hs2)
theorem m25o1 (hL : LC sh R) (hK : KP K H E HO S L) (h0 : I 3 0 = K) (h1 : I 3 1 = H) {Q : VV → Hp → Prop} (kk : ∀ I2 v1 v2, SN I I2 H E (E + K * H) → WP X (d + 2) 25 87 [.inr (some 3), v1, v2] [] (sh, R, I2) 0 0 Q) : ∀ (k : Nat) (p : Int) (v2 : VV) (I1 : Nat → Int → Int), p + k = K → 0 ≤ p → SN I I1 H E (E + p * H) → WP X (d + 2) 25 48 [.inr (some 3), .inl p, v2] [] (sh, R, I1) 0 0 Q := by
  intro k
  induction k with
  | zero =>
    rintro p v2 I1 hk hp hs
    have e : p = K := by omega
    subst e
    refine w_iload (pc' := 49) k25_48 rfl rfl ?_
    refine w_aload (pc' := 50) k25_49 rfl rfl ?_
    refine w_getI (pc' := 53) (ki := 0) (v := p) k25_50 rfl (hL.1 3 (5, 14) rfl) rfl (by rw [hs.2.1 0 (by decide)]; exact h0) ?_
    refine w_ic_ge (pc' := 56) k25_53 rfl (fun c_53 => ?_) (fun c_53 => absurd c_53 (by omega))
    exact kk _ _ _ hs
  | succ k ih =>
    rintro p v2 I1 hk hp hs
    have hH := hK.r
    refine w_iload (pc' := 49) k25_48 rfl rfl ?_
    refine w_aload (pc' := 50) k25_49 rfl rfl ?_
    refine w_getI (pc' := 53) (ki := 0) (v := K) k25_50 rfl (hL.1 3 (5, 14) rfl) rfl (by rw [hs.2.1 0 (by decide)]; exact h0) ?_
    refine w_ic_ge (pc' := 56) k25_53 rfl (fun c_53 => absurd c_53 (by omega)) (fun c_53 => ?_)
    refine w_c1 (pc' := 57) k25_56 rfl ?_
    refine w_istore (pc' := 58) (ls' := [_, _, _]) k25_57 rfl rfl rfl ?_
    refine m25i1 hL hK h1 ⟨hp, by omega⟩ (fun I2 hs2 => ?_) H.toNat 0 _ (by omega) (by omega) (by rw [Int.add_zero]; exact hs)
    refine w_iinc (pc' := 84) (ls' := [_, _, _]) k25_81 rfl rfl (by omega) rfl ?_
    refine w_goto k25_84 ?_
    exact ih (p + 1) _ _ (by omega) (by omega) hs2
theorem m25i2 (hL : LC sh R) (hK : KP K H E HO S L) (h1 : I 3 1 = H) {p : Int} (hp : 0 ≤ p ∧ p < H) {Q : VV → Hp → Prop} (kk : ∀ I2, SN I I2 H E (2 * E + (p + 1) * H) → WP X (d + 2) 25 122 [.inr (some 3), .inl p, .inl H] [] (sh, R, I2) 0 0 Q) : ∀ (k : Nat) (j : Int) (I1 : Nat → Int → Int), j + k = H → 0 ≤ j → SN I I1 H E (2 * E + p * H + j) → WP X (d + 2) 25 99 [.inr (some 3), .inl p, .inl j] [] (sh, R, I1) 0 0 Q := by
  intro k
  induction k with
  | zero =>
    rintro j I1 hk hj hs
    have e : j = H := by omega
    subst e
    refine w_iload (pc' := 100) k25_99 rfl rfl ?_
    refine w_aload (pc' := 101) k25_100 rfl rfl ?_
    refine w_getI (pc' := 104) (ki := 1) (v := j) k25_101 rfl (hL.1 3 (5, 14) rfl) rfl (by rw [hs.2.1 1 (by decide)]; exact h1) ?_
    refine w_ic_ge (pc' := 107) k25_104 rfl (fun c_104 => ?_) (fun c_104 => absurd c_104 (by omega))
    exact kk _ (by have e9 : 2 * E + (p + 1) * j = 2 * E + p * j + j := (by rw [Int.add_mul]; omega); rw [e9]; exact hs)
  | succ k ih =>
    rintro j I1 hk hj hs
    have hH := hK.r
    have hr : 0 ≤ 2 * E + p * H + j ∧ 2 * E + p * H + j < 45 := by
      clear ih
      (rcases hK with ⟨rfl, rfl, rfl, rfl, rfl, rfl⟩ | ⟨rfl, rfl, rfl, rfl, rfl, rfl⟩ | ⟨rfl, rfl, rfl, rfl, rfl, rfl⟩ <;> omega)
    have he : (2 : Int) = tierS E (2 * E + p * H + j) ∧ -4 = podS H E (2 * E + p * H + j) ∧ p = placeS H E (2 * E + p * H + j) ∧ j = membS H E (2 * E + p * H + j) := by
      clear ih
      unfold tierS podS placeS membS
      rcases hK with ⟨rfl, rfl, rfl, rfl, rfl, rfl⟩ | ⟨rfl, rfl, rfl, rfl, rfl, rfl⟩ | ⟨rfl, rfl, rfl, rfl, rfl, rfl⟩ <;> refine ⟨?_, ?_, ?_, ?_⟩ <;> repeat' split
      all_goals omega
    refine w_iload (pc' := 100) k25_99 rfl rfl ?_
    refine w_aload (pc' := 101) k25_100 rfl rfl ?_
    refine w_getI (pc' := 104) (ki := 1) (v := H) k25_101 rfl (hL.1 3 (5, 14) rfl) rfl (by rw [hs.2.1 1 (by decide)]; exact h1) ?_
    refine w_ic_ge (pc' := 107) k25_104 rfl (fun c_104 => absurd c_104 (by omega)) (fun c_104 => ?_)
    refine w_aload (pc' := 108) k25_107 rfl rfl ?_
    refine w_c1 (pc' := 109) k25_108 rfl ?_
    refine w_c2 (pc' := 111) k25_109 rfl ?_
    refine w_iload (pc' := 112) k25_111 rfl rfl ?_
    refine w_iload (pc' := 113) k25_112 rfl rfl ?_
    refine w_callV (pc' := 116) (as := [.inr (some 3), .inl _, .inl _, .inl _, .inl _]) k25_113 rfl rfl (co_v rfl rfl (hL.1 3 (5, 14) rfl)) (by decide) (m26 hL hs.2.2.1 hr) (fun r_113 h_113 hq => ?_)
    obtain ⟨I_2, rfl, z1, z3, z4, z5, z6, z7⟩ := hq
    have hs2 := hs.add he z1 z3 z4 z5 z6 z7
    refine w_iinc (pc' := 119) (ls' := [_, _, _]) k25_116 rfl rfl (by omega) rfl ?_
    refine w_goto k25_119 ?_
    exact ih (j + 1) _ (by omega) (by omega) (by rw [← Int.add_assoc]; exact hs2)
theorem m25o2 (hL : LC sh R) (hK : KP K H E HO S L) (h0 : I 3 0 = K) (h1 : I 3 1 = H) {Q : VV → Hp → Prop} (kk : ∀ I2 v1 v2, SN I I2 H E (2 * E + H * H) → WP X (d + 2) 25 128 [.inr (some 3), v1, v2] [] (sh, R, I2) 0 0 Q) : ∀ (k : Nat) (p : Int) (v2 : VV) (I1 : Nat → Int → Int), p + k = H → 0 ≤ p → SN I I1 H E (2 * E + p * H) → WP X (d + 2) 25 89 [.inr (some 3), .inl p, v2] [] (sh, R, I1) 0 0 Q := by
  intro k
  induction k with
  | zero =>
    rintro p v2 I1 hk hp hs
    have e : p = H := by omega
    subst e
    refine w_iload (pc' := 90) k25_89 rfl rfl ?_
    refine w_aload (pc' := 91) k25_90 rfl rfl ?_
    refine w_getI (pc' := 94) (ki := 1) (v := p) k25_91 rfl (hL.1 3 (5, 14) rfl) rfl (by rw [hs.2.1 1 (by decide)]; exact h1) ?_
    refine w_ic_ge (pc' := 97) k25_94 rfl (fun c_94 => ?_) (fun c_94 => absurd c_94 (by omega))
    exact kk _ _ _ hs
  | succ k ih =>
    rintro p v2 I1 hk hp hs
    have hH := hK.r
    refine w_iload (pc' := 90) k25_89 rfl rfl ?_
    refine w_aload (pc' := 91) k25_90 rfl rfl ?_
    refine w_getI (pc' := 94) (ki := 1) (v := H) k25_91 rfl (hL.1 3 (5, 14) rfl) rfl (by rw [hs.2.1 1 (by decide)]; exact h1) ?_
    refine w_ic_ge (pc' := 97) k25_94 rfl (fun c_94 => absurd c_94 (by omega)) (fun c_94 => ?_)
    refine w_c1 (pc' := 98) k25_97 rfl ?_
    refine w_istore (pc' := 99) (ls' := [_, _, _]) k25_98 rfl rfl rfl ?_
    refine m25i2 hL hK h1 ⟨hp, by omega⟩ (fun I2 hs2 => ?_) H.toNat 0 _ (by omega) (by omega) (by rw [Int.add_zero]; exact hs)
    refine w_iinc (pc' := 125) (ls' := [_, _, _]) k25_122 rfl rfl (by omega) rfl ?_
    refine w_goto k25_125 ?_
    exact ih (p + 1) _ _ (by omega) (by omega) hs2
theorem m25 (hL : LC sh R) (hK : KP K H E HO S L) (h0 : I 3 0 = K) (h1 : I 3 1 = H) : WPM X (d + 2) 25 [.inr (some 3)] (sh, R, I) 0 0 (fun _ h' => ∃ I', h' = (sh, R, I') ∧ SN I I' H E S) := by
  have hH := hK.r
  have e1 : 0 + K * H = E + 0 * H := by (rcases hK with ⟨rfl, rfl, rfl, rfl, rfl, rfl⟩ | ⟨rfl, rfl, rfl, rfl, rfl, rfl⟩ | ⟨rfl, rfl, rfl, rfl, rfl, rfl⟩ <;> omega)
  have e2 : E + K * H = 2 * E + 0 * H := by (rcases hK with ⟨rfl, rfl, rfl, rfl, rfl, rfl⟩ | ⟨rfl, rfl, rfl, rfl, rfl, rfl⟩ | ⟨rfl, rfl, rfl, rfl, rfl, rfl⟩ <;> omega)
  have e3 : 2 * E + H * H = S := by (rcases hK with ⟨rfl, rfl, rfl, rfl, rfl, rfl⟩ | ⟨rfl, rfl, rfl, rfl, rfl, rfl⟩ | ⟨rfl, rfl, rfl, rfl, rfl, rfl⟩ <;> omega)
  have f0 : (upA I 3 (upF (I 3) 4 0)) 3 0 = K := by rw [upA_s, upF_n (by decide)]; exact h0
  have f1 : (upA I 3 (upF (I 3) 4 0)) 3 1 = H := by rw [upA_s, upF_n (by decide)]; exact h1
  have f2 : ∀ I', SN (upA I 3 (upF (I 3) 4 0)) I' H E S → SN I I' H E S := fun I' h => ⟨fun a q => by rw [h.1 a q, upA_n (by omega)], fun j q => by rw [h.2.1 j q, upA_s, upF_n q], h.2.2⟩
  show WP X (d + 2) 25 0 [.inr (some 3), .inr none, .inr none] [] (sh, R, I) 0 0 _
  refine w_aload (pc' := 1) k25_0 rfl rfl ?_
  refine w_c1 (pc' := 2) k25_1 rfl ?_
  refine w_putI (pc' := 5) (ki := 4) k25_2 rfl (hL.1 3 (5, 14) rfl) rfl ?_
  refine w_c1 (pc' := 6) k25_5 rfl ?_
  refine w_istore (pc' := 7) (ls' := [_, _, _]) k25_6 rfl rfl rfl ?_
  refine m25o0 hL hK f0 f1 (fun I2 v1 v2 hs => ?_) K.toNat 0 _ _ (by omega) (by omega) ⟨fun _ _ => rfl, fun _ _ => rfl, by rw [upA_s, upF_s]; omega, fun m q1 q2 => by omega⟩
  refine w_c1 (pc' := 47) k25_46 rfl ?_
  refine w_istore (pc' := 48) (ls' := [_, _, _]) k25_47 rfl rfl rfl ?_
  refine m25o1 hL hK f0 f1 (fun I3 v1 v2 hs3 => ?_) K.toNat 0 _ _ (by omega) (by omega) (e1 ▸ hs)
  refine w_c1 (pc' := 88) k25_87 rfl ?_
  refine w_istore (pc' := 89) (ls' := [_, _, _]) k25_88 rfl rfl rfl ?_
  refine m25o2 hL hK f0 f1 (fun I4 v1 v2 hs4 => ?_) H.toNat 0 _ _ (by omega) (by omega) (e2 ▸ hs3)
  exact w_retv k25_128 ⟨_, rfl, f2 _ (e3 ▸ hs4)⟩
/-- the hosts up to n are numbered -/
def HN (I I1 : Nat → Int → Int) (H n : Int) : Prop := (∀ a, a ≠ 3 → a ≠ 10 → a ≠ 11 → I1 a = I a) ∧ (∀ j, j ≠ 3 → I1 3 j = I 3 j) ∧ I1 3 3 = n ∧ ∀ m, 0 ≤ m → m < n → I1 10 m = m / H ∧ I1 11 m = m % H
theorem m27i (hL : LC sh R) (hK : KP K H E HO S L) (h1 : I 3 1 = H) {p : Int} (hp : 0 ≤ p ∧ p < E) {Q : VV → Hp → Prop} (kk : ∀ I2, HN I I2 H ((p + 1) * H) → WP X (d + 1) 27 70 [.inr (some 3), .inl p, .inl H] [] (sh, R, I2) 0 0 Q) : ∀ (k : Nat) (j : Int) (I1 : Nat → Int → Int), j + k = H → 0 ≤ j → HN I I1 H (p * H + j) → WP X (d + 1) 27 17 [.inr (some 3), .inl p, .inl j] [] (sh, R, I1) 0 0 Q := by
  intro k
  induction k with
  | zero =>
    rintro j I1 hk hj hs
    have e : j = H := by omega
    subst e
    refine w_iload (pc' := 18) k27_17 rfl rfl ?_
    refine w_aload (pc' := 19) k27_18 rfl rfl ?_
    refine w_getI (pc' := 22) (ki := 1) (v := j) k27_19 rfl (hL.1 3 (5, 14) rfl) rfl (by rw [hs.2.1 1 (by decide)]; exact h1) ?_
    refine w_ic_ge (pc' := 25) k27_22 rfl (fun c_22 => ?_) (fun c_22 => absurd c_22 (by omega))
    exact kk _ (by rw [Int.add_mul, Int.one_mul]; exact hs)
  | succ k ih =>
    rintro j I1 hk hj hs
    have hH := hK.r
    have hr : 0 ≤ p * H + j ∧ p * H + j < 54 ∧ (p * H + j) / H = p ∧ (p * H + j) % H = j := by
      clear ih
      (rcases hK with ⟨rfl, rfl, rfl, rfl, rfl, rfl⟩ | ⟨rfl, rfl, rfl, rfl, rfl, rfl⟩ | ⟨rfl, rfl, rfl, rfl, rfl, rfl⟩ <;> omega)
    refine w_iload (pc' := 18) k27_17 rfl rfl ?_
    refine w_aload (pc' := 19) k27_18 rfl rfl ?_
    refine w_getI (pc' := 22) (ki := 1) (v := H) k27_19 rfl (hL.1 3 (5, 14) rfl) rfl (by rw [hs.2.1 1 (by decide)]; exact h1) ?_
    refine w_ic_ge (pc' := 25) k27_22 rfl (fun c_22 => absurd c_22 (by omega)) (fun c_22 => ?_)
    refine w_aload (pc' := 26) k27_25 rfl rfl ?_
    refine w_getI (pc' := 29) (ki := 3) (v := p * H + j) k27_26 rfl (hL.1 3 (5, 14) rfl) rfl hs.2.2.1 ?_
    refine w_c2 (pc' := 31) k27_29 rfl ?_
    refine w_ic_ge (pc' := 34) k27_31 rfl (fun c_31 => absurd c_31 (by omega)) (fun c_31 => ?_)
    refine w_aload (pc' := 35) k27_34 rfl rfl ?_
    refine w_getR (pc' := 38) (v := 10) k27_35 rfl (hL.1 3 (5, 14) rfl) (hL.2 3 12 10 rfl) ?_
    refine w_aload (pc' := 39) k27_38 rfl rfl ?_
    refine w_getI (pc' := 42) (ki := 3) (v := p * H + j) k27_39 rfl (hL.1 3 (5, 14) rfl) rfl hs.2.2.1 ?_
    refine w_iload (pc' := 43) k27_42 rfl rfl ?_
    refine w_iast (pc' := 44) k27_43 rfl (hL.1 10 (0, 54) rfl) (by omega) ?_
    refine w_aload (pc' := 45) k27_44 rfl rfl ?_
    refine w_getR (pc' := 48) (v := 11) k27_45 rfl (hL.1 3 (5, 14) rfl) (hL.2 3 13 11 rfl) ?_
    refine w_aload (pc' := 49) k27_48 rfl rfl ?_
    refine w_getI (pc' := 52) (ki := 3) (v := p * H + j) k27_49 rfl (hL.1 3 (5, 14) rfl) rfl (by rw [upA_n (by decide)]; exact hs.2.2.1) ?_
    refine w_iload (pc' := 53) k27_52 rfl rfl ?_
    refine w_iast (pc' := 54) k27_53 rfl (hL.1 11 (0, 54) rfl) (by omega) ?_
    refine w_aload (pc' := 55) k27_54 rfl rfl ?_
    refine w_dup (pc' := 56) k27_55 rfl ?_
    refine w_getI (pc' := 59) (ki := 3) (v := p * H + j) k27_56 rfl (hL.1 3 (5, 14) rfl) rfl (by rw [upA_n (by decide), upA_n (by decide)]; exact hs.2.2.1) ?_
    refine w_c1 (pc' := 60) k27_59 rfl ?_
    refine w_iadd (pc' := 61) k27_60 rfl (by omega) ?_
    refine w_putI (pc' := 64) (ki := 3) k27_61 rfl (hL.1 3 (5, 14) rfl) rfl ?_
    refine w_iinc (pc' := 67) (ls' := [_, _, _]) k27_64 rfl rfl (by omega) rfl ?_
    refine w_goto k27_67 ?_
    refine ih (j + 1) _ (by omega) (by omega) ⟨fun a q1 q2 q3 => by rw [upA_n q1, upA_n q3, upA_n q2]; exact hs.1 a q1 q2 q3, fun i q => by rw [upA_s, upF_n q, upA_n (by decide), upA_n (by decide)]; exact hs.2.1 i q, by rw [upA_s, upF_s, Int.add_assoc], fun m q1 q2 => ?_⟩
    rw [upA_n (by decide), upA_n (by decide), upA_s, upA_n (by decide), upA_s, upA_n (by decide)]
    by_cases e9 : m = p * H + j
    · rw [e9, upF_s, upF_s]; exact ⟨hr.2.2.1.symm, hr.2.2.2.symm⟩
    · rw [upF_n e9, upF_n e9]; exact hs.2.2.2 m q1 (by omega)
theorem m27o (hL : LC sh R) (hK : KP K H E HO S L) (h2 : I 3 2 = E) (h1 : I 3 1 = H) {Q : VV → Hp → Prop} (kk : ∀ I2 v1 v2, HN I I2 H (E * H) → WP X (d + 1) 27 76 [.inr (some 3), v1, v2] [] (sh, R, I2) 0 0 Q) : ∀ (k : Nat) (p : Int) (v2 : VV) (I1 : Nat → Int → Int), p + k = E → 0 ≤ p → HN I I1 H (p * H) → WP X (d + 1) 27 7 [.inr (some 3), .inl p, v2] [] (sh, R, I1) 0 0 Q := by
  intro k
  induction k with
  | zero =>
    rintro p v2 I1 hk hp hs
    have e : p = E := by omega
    subst e
    refine w_iload (pc' := 8) k27_7 rfl rfl ?_
    refine w_aload (pc' := 9) k27_8 rfl rfl ?_
    refine w_getI (pc' := 12) (ki := 2) (v := p) k27_9 rfl (hL.1 3 (5, 14) rfl) rfl (by rw [hs.2.1 2 (by decide)]; exact h2) ?_
    refine w_ic_ge (pc' := 15) k27_12 rfl (fun c_12 => ?_) (fun c_12 => absurd c_12 (by omega))
    exact kk _ _ _ hs
  | succ k ih =>
    rintro p v2 I1 hk hp hs
    have hH := hK.r
    refine w_iload (pc' := 8) k27_7 rfl rfl ?_
    refine w_aload (pc' := 9) k27_8 rfl rfl ?_
    refine w_getI (pc' := 12) (ki := 2) (v := E) k27_9 rfl (hL.1 3 (5, 14) rfl) rfl (by rw [hs.2.1 2 (by decide)]; exact h2) ?_
    refine w_ic_ge (pc' := 15) k27_12 rfl (fun c_12 => absurd c_12 (by omega)) (fun c_12 => ?_)
    refine w_c1 (pc' := 16) k27_15 rfl ?_
    refine w_istore (pc' := 17) (ls' := [_, _, _]) k27_16 rfl rfl rfl ?_
    refine m27i hL hK h1 ⟨hp, by omega⟩ (fun I2 hs2 => ?_) H.toNat 0 _ (by omega) (by omega) (by rw [Int.add_zero]; exact hs)
    refine w_iinc (pc' := 73) (ls' := [_, _, _]) k27_70 rfl rfl (by omega) rfl ?_
    refine w_goto k27_73 ?_
    exact ih (p + 1) _ _ (by omega) (by omega) hs2
theorem m27 (hL : LC sh R) (hK : KP K H E HO S L) (h2 : I 3 2 = E) (h1 : I 3 1 = H) : WPM X (d + 1) 27 [.inr (some 3)] (sh, R, I) 0 0 (fun _ h' => ∃ I', h' = (sh, R, I') ∧ HN I I' H HO) := by
  have hH := hK.r
  have e3 : E * H = HO := by (rcases hK with ⟨rfl, rfl, rfl, rfl, rfl, rfl⟩ | ⟨rfl, rfl, rfl, rfl, rfl, rfl⟩ | ⟨rfl, rfl, rfl, rfl, rfl, rfl⟩ <;> omega)
  have f0 : (upA I 3 (upF (I 3) 3 0)) 3 2 = E := by rw [upA_s, upF_n (by decide)]; exact h2
  have f1 : (upA I 3 (upF (I 3) 3 0)) 3 1 = H := by rw [upA_s, upF_n (by decide)]; exact h1
  have f2 : ∀ I', HN (upA I 3 (upF (I 3) 3 0)) I' H HO → HN I I' H HO := fun I' h => ⟨fun a q1 q2 q3 => by rw [h.1 a q1 q2 q3, upA_n q1], fun j q => by rw [h.2.1 j q, upA_s, upF_n q], h.2.2⟩
  show WP X (d + 1) 27 0 [.inr (some 3), .inr none, .inr none] [] (sh, R, I) 0 0 _
  refine w_aload (pc' := 1) k27_0 rfl rfl ?_
  refine w_c1 (pc' := 2) k27_1 rfl ?_
  refine w_putI (pc' := 5) (ki := 3) k27_2 rfl (hL.1 3 (5, 14) rfl) rfl ?_
  refine w_c1 (pc' := 6) k27_5 rfl ?_
  refine w_istore (pc' := 7) (ls' := [_, _, _]) k27_6 rfl rfl rfl ?_
  refine m27o hL hK f0 f1 (fun I2 v1 v2 hs => ?_) E.toNat 0 _ _ (by omega) (by omega) ⟨fun _ _ _ _ => rfl, fun _ _ => rfl, by rw [upA_s, upF_s]; omega, fun m q1 q2 => by omega⟩
  exact w_retv k27_76 ⟨_, rfl, f2 _ (e3 ▸ hs)⟩
theorem m29s (hL : LC sh R) (hK : KP K H E HO S L) (h2 : I 3 2 = E) (h1 : I 3 1 = H) {p j : Int} (hp : 0 ≤ p ∧ p < 6) (hj : 0 ≤ j ∧ j < 6) : RV X (d + 1) 29 [.inr (some 3), .inl p, .inl j] (sh, R, I) (E + p * H + j) := by
  show WP X (d + 1) 29 0 [.inr (some 3), .inl p, .inl j] [] (sh, R, I) 0 0 _
  refine w_aload (pc' := 1) k29_0 rfl rfl ?_
  refine w_getI (pc' := 4) (ki := 2) (v := E) k29_1 rfl (hL.1 3 (5, 14) rfl) rfl h2 ?_
  refine w_iload (pc' := 5) k29_4 rfl rfl ?_
  refine w_aload (pc' := 6) k29_5 rfl rfl ?_
  refine w_getI (pc' := 9) (ki := 1) (v := H) k29_6 rfl (hL.1 3 (5, 14) rfl) rfl h1 ?_
  refine w_imul (pc' := 10) k29_9 rfl (by first | omega | (rcases hK with ⟨rfl, rfl, rfl, rfl, rfl, rfl⟩ | ⟨rfl, rfl, rfl, rfl, rfl, rfl⟩ | ⟨rfl, rfl, rfl, rfl, rfl, rfl⟩ <;> omega)) ?_
  refine w_iadd (pc' := 11) k29_10 rfl (by first | omega | (rcases hK with ⟨rfl, rfl, rfl, rfl, rfl, rfl⟩ | ⟨rfl, rfl, rfl, rfl, rfl, rfl⟩ | ⟨rfl, rfl, rfl, rfl, rfl, rfl⟩ <;> omega)) ?_
  refine w_iload (pc' := 12) k29_11 rfl rfl ?_
  refine w_iadd (pc' := 13) k29_12 rfl (by first | omega | (rcases hK with ⟨rfl, rfl, rfl, rfl, rfl, rfl⟩ | ⟨rfl, rfl, rfl, rfl, rfl, rfl⟩ | ⟨rfl, rfl, rfl, rfl, rfl, rfl⟩ <;> omega)) ?_
  exact w_reti k29_13 ⟨rfl, rfl⟩
theorem m30 (hL : LC sh R) (hK : KP K H E HO S L) (h2 : I 3 2 = E) (h1 : I 3 1 = H) {p j : Int} (hp : 0 ≤ p ∧ p < 6) (hj : 0 ≤ j ∧ j < 6) : RV X (d + 1) 30 [.inr (some 3), .inl p, .inl j] (sh, R, I) (2 * E + p * H + j) := by
  show WP X (d + 1) 30 0 [.inr (some 3), .inl p, .inl j] [] (sh, R, I) 0 0 _
  refine w_c1 (pc' := 1) k30_0 rfl ?_
  refine w_aload (pc' := 2) k30_1 rfl rfl ?_
  refine w_getI (pc' := 5) (ki := 2) (v := E) k30_2 rfl (hL.1 3 (5, 14) rfl) rfl h2 ?_
  refine w_imul (pc' := 6) k30_5 rfl (by first | omega | (rcases hK with ⟨rfl, rfl, rfl, rfl, rfl, rfl⟩ | ⟨rfl, rfl, rfl, rfl, rfl, rfl⟩ | ⟨rfl, rfl, rfl, rfl, rfl, rfl⟩ <;> omega)) ?_
  refine w_iload (pc' := 7) k30_6 rfl rfl ?_
  refine w_aload (pc' := 8) k30_7 rfl rfl ?_
  refine w_getI (pc' := 11) (ki := 1) (v := H) k30_8 rfl (hL.1 3 (5, 14) rfl) rfl h1 ?_
  refine w_imul (pc' := 12) k30_11 rfl (by first | omega | (rcases hK with ⟨rfl, rfl, rfl, rfl, rfl, rfl⟩ | ⟨rfl, rfl, rfl, rfl, rfl, rfl⟩ | ⟨rfl, rfl, rfl, rfl, rfl, rfl⟩ <;> omega)) ?_
  refine w_iadd (pc' := 13) k30_12 rfl (by first | omega | (rcases hK with ⟨rfl, rfl, rfl, rfl, rfl, rfl⟩ | ⟨rfl, rfl, rfl, rfl, rfl, rfl⟩ | ⟨rfl, rfl, rfl, rfl, rfl, rfl⟩ <;> omega)) ?_
  refine w_iload (pc' := 14) k30_13 rfl rfl ?_
  refine w_iadd (pc' := 15) k30_14 rfl (by first | omega | (rcases hK with ⟨rfl, rfl, rfl, rfl, rfl, rfl⟩ | ⟨rfl, rfl, rfl, rfl, rfl, rfl⟩ | ⟨rfl, rfl, rfl, rfl, rfl, rfl⟩ <;> omega)) ?_
  exact w_reti k30_15 ⟨rfl, rfl⟩
/-- the links up to n are numbered -/
def LN (I I1 : Nat → Int → Int) (H E n : Int) : Prop := (∀ a, a ≠ 3 → a ≠ 8 → a ≠ 9 → I1 a = I a) ∧ (∀ j, j ≠ 5 → I1 3 j = I 3 j) ∧ I1 3 5 = n ∧ ∀ m, 0 ≤ m → m < n → I1 8 m = m / H ∧ I1 9 m = upS H E m
theorem m28i (hL : LC sh R) (hK : KP K H E HO S L) (h2 : I 3 2 = E) (h1 : I 3 1 = H) (hs4 : ∀ m, 0 ≤ m → m < S → I 4 m = tierS E m ∧ I 5 m = podS H E m ∧ I 6 m = placeS H E m) {p : Int} (hp : 0 ≤ p ∧ p < 2 * E) {Q : VV → Hp → Prop} (kk : ∀ I2, LN I I2 H E ((p + 1) * H) → WP X (d + 2) 28 105 [.inr (some 3), .inl p, .inl H] [] (sh, R, I2) 0 0 Q) : ∀ (k : Nat) (j : Int) (I1 : Nat → Int → Int), j + k = H → 0 ≤ j → LN I I1 H E (p * H + j) → WP X (d + 2) 28 19 [.inr (some 3), .inl p, .inl j] [] (sh, R, I1) 0 0 Q := by
  intro k
  induction k with
  | zero =>
    rintro j I1 hk hj hs
    have e : j = H := by omega
    subst e
    refine w_iload (pc' := 20) k28_19 rfl rfl ?_
    refine w_aload (pc' := 21) k28_20 rfl rfl ?_
    refine w_getI (pc' := 24) (ki := 1) (v := j) k28_21 rfl (hL.1 3 (5, 14) rfl) rfl (by rw [hs.2.1 1 (by decide)]; exact h1) ?_
    refine w_ic_ge (pc' := 27) k28_24 rfl (fun c_24 => ?_) (fun c_24 => absurd c_24 (by omega))
    exact kk _ (by rw [Int.add_mul, Int.one_mul]; exact hs)
  | succ k ih =>
    rintro j I1 hk hj hs
    have hH := hK.r
    have hr : 0 ≤ p * H + j ∧ p * H + j < 108 ∧ (p * H + j) / H = p ∧ (p * H + j) % H = j ∧ p < S ∧ p < 45 ∧ j < 6 := by
      clear ih
      (rcases hK with ⟨rfl, rfl, rfl, rfl, rfl, rfl⟩ | ⟨rfl, rfl, rfl, rfl, rfl, rfl⟩ | ⟨rfl, rfl, rfl, rfl, rfl, rfl⟩ <;> omega)
    obtain ⟨ht4, ht5, ht6⟩ := hs4 p hp.1 hr.2.2.2.2.1
    have i4 : I1 4 p = tierS E p := by rw [hs.1 4 (by decide) (by decide) (by decide)]; exact ht4
    have i5 : I1 5 p = podS H E p := by rw [hs.1 5 (by decide) (by decide) (by decide)]; exact ht5
    have i6 : I1 6 p = placeS H E p := by rw [hs.1 6 (by decide) (by decide) (by decide)]; exact ht6
    have b5 : tierS E p = 0 → p < E ∧ 0 ≤ podS H E p ∧ podS H E p < 6 ∧ upS H E (p * H + j) = E + podS H E p * H + j := by
      clear ih
      unfold tierS podS upS
      rw [hr.2.2.1, hr.2.2.2.1]
      intro e
      have e2 : p < E := by
        by_cases q : p < E
        · exact q
        · rw [if_neg q, if_pos (by omega)] at e; omega
      rw [if_pos e2, if_pos e2]
      refine ⟨e2, ?_, ?_, rfl⟩ <;> (rcases hK with ⟨rfl, rfl, rfl, rfl, rfl, rfl⟩ | ⟨rfl, rfl, rfl, rfl, rfl, rfl⟩ | ⟨rfl, rfl, rfl, rfl, rfl, rfl⟩ <;> omega)
    have b6 : tierS E p ≠ 0 → E ≤ p ∧ 0 ≤ placeS H E p ∧ placeS H E p < 6 ∧ upS H E (p * H + j) = 2 * E + placeS H E p * H + j := by
      clear ih
      unfold tierS placeS upS
      rw [hr.2.2.1, hr.2.2.2.1]
      intro e
      have e2 : ¬ p < E := fun q => e (if_pos q)
      rw [if_neg e2, if_neg e2, if_pos hp.2]
      refine ⟨by omega, ?_, ?_, rfl⟩ <;> (rcases hK with ⟨rfl, rfl, rfl, rfl, rfl, rfl⟩ | ⟨rfl, rfl, rfl, rfl, rfl, rfl⟩ | ⟨rfl, rfl, rfl, rfl, rfl, rfl⟩ <;> omega)
    refine w_iload (pc' := 20) k28_19 rfl rfl ?_
    refine w_aload (pc' := 21) k28_20 rfl rfl ?_
    refine w_getI (pc' := 24) (ki := 1) (v := H) k28_21 rfl (hL.1 3 (5, 14) rfl) rfl (by rw [hs.2.1 1 (by decide)]; exact h1) ?_
    refine w_ic_ge (pc' := 27) k28_24 rfl (fun c_24 => absurd c_24 (by omega)) (fun c_24 => ?_)
    refine w_aload (pc' := 28) k28_27 rfl rfl ?_
    refine w_getI (pc' := 31) (ki := 5) (v := p * H + j) k28_28 rfl (hL.1 3 (5, 14) rfl) rfl hs.2.2.1 ?_
    refine w_c2 (pc' := 33) k28_31 rfl ?_
    refine w_ic_ge (pc' := 36) k28_33 rfl (fun c_33 => absurd c_33 (by omega)) (fun c_33 => ?_)
    refine w_aload (pc' := 37) k28_36 rfl rfl ?_
    refine w_getR (pc' := 40) (v := 8) k28_37 rfl (hL.1 3 (5, 14) rfl) (hL.2 3 10 8 rfl) ?_
    refine w_aload (pc' := 41) k28_40 rfl rfl ?_
    refine w_getI (pc' := 44) (ki := 5) (v := p * H + j) k28_41 rfl (hL.1 3 (5, 14) rfl) rfl hs.2.2.1 ?_
    refine w_iload (pc' := 45) k28_44 rfl rfl ?_
    refine w_iast (pc' := 46) k28_45 rfl (hL.1 8 (0, 108) rfl) (by omega) ?_
    refine w_aload (pc' := 47) k28_46 rfl rfl ?_
    refine w_getR (pc' := 50) (v := 9) k28_47 rfl (hL.1 3 (5, 14) rfl) (hL.2 3 11 9 rfl) ?_
    refine w_aload (pc' := 51) k28_50 rfl rfl ?_
    refine w_getI (pc' := 54) (ki := 5) (v := p * H + j) k28_51 rfl (hL.1 3 (5, 14) rfl) rfl (by rw [upA_n (by decide)]; exact hs.2.2.1) ?_
    refine w_aload (pc' := 55) k28_54 rfl rfl ?_
    refine w_getR (pc' := 58) (v := 4) k28_55 rfl (hL.1 3 (5, 14) rfl) (hL.2 3 6 4 rfl) ?_
    refine w_iload (pc' := 59) k28_58 rfl rfl ?_
    refine w_iald (pc' := 60) (v := tierS E p) k28_59 rfl (hL.1 4 (0, 45) rfl) (by omega) (by rw [upA_n (by decide)]; exact i4) ?_
    refine w_if_ne (pc' := 63) k28_60 rfl (fun c_60 => ?_) (fun c_60 => ?_)
    · refine w_aload (pc' := 78) k28_77 rfl rfl ?_
      refine w_aload (pc' := 79) k28_78 rfl rfl ?_
      refine w_getR (pc' := 82) (v := 6) k28_79 rfl (hL.1 3 (5, 14) rfl) (hL.2 3 8 6 rfl) ?_
      refine w_iload (pc' := 83) k28_82 rfl rfl ?_
      refine w_iald (pc' := 84) (v := placeS H E p) k28_83 rfl (hL.1 6 (0, 45) rfl) (by omega) (by rw [upA_n (by decide)]; exact i6) ?_
      refine w_iload (pc' := 85) k28_84 rfl rfl ?_
      refine w_callE (pc' := 88) (as := [.inr (some 3), .inl _, .inl _]) k28_85 rfl rfl (co_v rfl rfl (hL.1 3 (5, 14) rfl)) (by decide) (m30 hL hK (by rw [upA_n (by decide), hs.2.1 2 (by decide)]; exact h2) (by rw [upA_n (by decide), hs.2.1 1 (by decide)]; exact h1) (by have := b6 c_60; omega) (by omega)) ?_
      refine w_iast (pc' := 89) k28_88 rfl (hL.1 9 (0, 108) rfl) (by omega) ?_
      refine w_aload (pc' := 90) k28_89 rfl rfl ?_
      refine w_dup (pc' := 91) k28_90 rfl ?_
      refine w_getI (pc' := 94) (ki := 5) (v := p * H + j) k28_91 rfl (hL.1 3 (5, 14) rfl) rfl (by rw [upA_n (by decide), upA_n (by decide)]; exact hs.2.2.1) ?_
      refine w_c1 (pc' := 95) k28_94 rfl ?_
      refine w_iadd (pc' := 96) k28_95 rfl (by omega) ?_
      refine w_putI (pc' := 99) (ki := 5) k28_96 rfl (hL.1 3 (5, 14) rfl) rfl ?_
      refine w_iinc (pc' := 102) (ls' := [_, _, _]) k28_99 rfl rfl (by omega) rfl ?_
      refine w_goto k28_102 ?_
      refine ih (j + 1) _ (by omega) (by omega) ⟨fun a q1 q2 q3 => by rw [upA_n q1, upA_n q3, upA_n q2]; exact hs.1 a q1 q2 q3, fun i q => by rw [upA_s, upF_n q, upA_n (by decide), upA_n (by decide)]; exact hs.2.1 i q, by rw [upA_s, upF_s, Int.add_assoc], fun m q1 q2 => ?_⟩
      rw [upA_n (by decide), upA_n (by decide), upA_s, upA_n (by decide), upA_s, upA_n (by decide)]
      by_cases e9 : m = p * H + j
      · rw [e9, upF_s, upF_s]; exact ⟨hr.2.2.1.symm, (b6 c_60).2.2.2.symm⟩
      · rw [upF_n e9, upF_n e9]; exact hs.2.2.2 m q1 (by omega)
    · refine w_aload (pc' := 64) k28_63 rfl rfl ?_
      refine w_aload (pc' := 65) k28_64 rfl rfl ?_
      refine w_getR (pc' := 68) (v := 5) k28_65 rfl (hL.1 3 (5, 14) rfl) (hL.2 3 7 5 rfl) ?_
      refine w_iload (pc' := 69) k28_68 rfl rfl ?_
      refine w_iald (pc' := 70) (v := podS H E p) k28_69 rfl (hL.1 5 (0, 45) rfl) (by omega) (by rw [upA_n (by decide)]; exact i5) ?_
      refine w_iload (pc' := 71) k28_70 rfl rfl ?_
      refine w_callE (pc' := 74) (as := [.inr (some 3), .inl _, .inl _]) k28_71 rfl rfl (co_v rfl rfl (hL.1 3 (5, 14) rfl)) (by decide) (m29s hL hK (by rw [upA_n (by decide), hs.2.1 2 (by decide)]; exact h2) (by rw [upA_n (by decide), hs.2.1 1 (by decide)]; exact h1) (by have := b5 c_60; omega) (by omega)) ?_
      refine w_goto k28_74 ?_
      refine w_iast (pc' := 89) k28_88 rfl (hL.1 9 (0, 108) rfl) (by omega) ?_
      refine w_aload (pc' := 90) k28_89 rfl rfl ?_
      refine w_dup (pc' := 91) k28_90 rfl ?_
      refine w_getI (pc' := 94) (ki := 5) (v := p * H + j) k28_91 rfl (hL.1 3 (5, 14) rfl) rfl (by rw [upA_n (by decide), upA_n (by decide)]; exact hs.2.2.1) ?_
      refine w_c1 (pc' := 95) k28_94 rfl ?_
      refine w_iadd (pc' := 96) k28_95 rfl (by omega) ?_
      refine w_putI (pc' := 99) (ki := 5) k28_96 rfl (hL.1 3 (5, 14) rfl) rfl ?_
      refine w_iinc (pc' := 102) (ls' := [_, _, _]) k28_99 rfl rfl (by omega) rfl ?_
      refine w_goto k28_102 ?_
      refine ih (j + 1) _ (by omega) (by omega) ⟨fun a q1 q2 q3 => by rw [upA_n q1, upA_n q3, upA_n q2]; exact hs.1 a q1 q2 q3, fun i q => by rw [upA_s, upF_n q, upA_n (by decide), upA_n (by decide)]; exact hs.2.1 i q, by rw [upA_s, upF_s, Int.add_assoc], fun m q1 q2 => ?_⟩
      rw [upA_n (by decide), upA_n (by decide), upA_s, upA_n (by decide), upA_s, upA_n (by decide)]
      by_cases e9 : m = p * H + j
      · rw [e9, upF_s, upF_s]; exact ⟨hr.2.2.1.symm, (b5 c_60).2.2.2.symm⟩
      · rw [upF_n e9, upF_n e9]; exact hs.2.2.2 m q1 (by omega)
theorem m28o (hL : LC sh R) (hK : KP K H E HO S L) (h2 : I 3 2 = E) (h1 : I 3 1 = H) (hs4 : ∀ m, 0 ≤ m → m < S → I 4 m = tierS E m ∧ I 5 m = podS H E m ∧ I 6 m = placeS H E m) {Q : VV → Hp → Prop} (kk : ∀ I2 v1 v2, LN I I2 H E (2 * E * H) → WP X (d + 2) 28 111 [.inr (some 3), v1, v2] [] (sh, R, I2) 0 0 Q) : ∀ (k : Nat) (p : Int) (v2 : VV) (I1 : Nat → Int → Int), p + k = 2 * E → 0 ≤ p → LN I I1 H E (p * H) → WP X (d + 2) 28 7 [.inr (some 3), .inl p, v2] [] (sh, R, I1) 0 0 Q := by
  intro k
  have hH := hK.r
  induction k with
  | zero =>
    rintro p v2 I1 hk hp hs
    have e : p = 2 * E := by omega
    subst e
    refine w_iload (pc' := 8) k28_7 rfl rfl ?_
    refine w_c1 (pc' := 9) k28_8 rfl ?_
    refine w_aload (pc' := 10) k28_9 rfl rfl ?_
    refine w_getI (pc' := 13) (ki := 2) (v := E) k28_10 rfl (hL.1 3 (5, 14) rfl) rfl (by rw [hs.2.1 2 (by decide)]; exact h2) ?_
    refine w_imul (pc' := 14) k28_13 rfl (by first | omega | (rcases hK with ⟨rfl, rfl, rfl, rfl, rfl, rfl⟩ | ⟨rfl, rfl, rfl, rfl, rfl, rfl⟩ | ⟨rfl, rfl, rfl, rfl, rfl, rfl⟩ <;> omega)) ?_
    refine w_ic_ge (pc' := 17) k28_14 rfl (fun c_14 => ?_) (fun c_14 => absurd c_14 (by omega))
    exact kk _ _ _ hs
  | succ k ih =>
    rintro p v2 I1 hk hp hs
    refine w_iload (pc' := 8) k28_7 rfl rfl ?_
    refine w_c1 (pc' := 9) k28_8 rfl ?_
    refine w_aload (pc' := 10) k28_9 rfl rfl ?_
    refine w_getI (pc' := 13) (ki := 2) (v := E) k28_10 rfl (hL.1 3 (5, 14) rfl) rfl (by rw [hs.2.1 2 (by decide)]; exact h2) ?_
    refine w_imul (pc' := 14) k28_13 rfl (by first | omega | (rcases hK with ⟨rfl, rfl, rfl, rfl, rfl, rfl⟩ | ⟨rfl, rfl, rfl, rfl, rfl, rfl⟩ | ⟨rfl, rfl, rfl, rfl, rfl, rfl⟩ <;> omega)) ?_
    refine w_ic_ge (pc' := 17) k28_14 rfl (fun c_14 => absurd c_14 (by omega)) (fun c_14 => ?_)
    refine w_c1 (pc' := 18) k28_17 rfl ?_
    refine w_istore (pc' := 19) (ls' := [_, _, _]) k28_18 rfl rfl rfl ?_
    refine m28i hL hK h2 h1 hs4 ⟨hp, by omega⟩ (fun I2 hs2 => ?_) H.toNat 0 _ (by omega) (by omega) (by rw [Int.add_zero]; exact hs)
    refine w_iinc (pc' := 108) (ls' := [_, _, _]) k28_105 rfl rfl (by omega) rfl ?_
    refine w_goto k28_108 ?_
    exact ih (p + 1) _ _ (by omega) (by omega) hs2
theorem m28 (hL : LC sh R) (hK : KP K H E HO S L) (h2 : I 3 2 = E) (h1 : I 3 1 = H) (hs4 : ∀ m, 0 ≤ m → m < S → I 4 m = tierS E m ∧ I 5 m = podS H E m ∧ I 6 m = placeS H E m) : WPM X (d + 2) 28 [.inr (some 3)] (sh, R, I) 0 0 (fun _ h' => ∃ I', h' = (sh, R, I') ∧ LN I I' H E L) := by
  have hH := hK.r
  have e3 : 2 * E * H = L := by (rcases hK with ⟨rfl, rfl, rfl, rfl, rfl, rfl⟩ | ⟨rfl, rfl, rfl, rfl, rfl, rfl⟩ | ⟨rfl, rfl, rfl, rfl, rfl, rfl⟩ <;> omega)
  have f0 : (upA I 3 (upF (I 3) 5 0)) 3 2 = E := by rw [upA_s, upF_n (by decide)]; exact h2
  have f1 : (upA I 3 (upF (I 3) 5 0)) 3 1 = H := by rw [upA_s, upF_n (by decide)]; exact h1
  have f2 : ∀ I', LN (upA I 3 (upF (I 3) 5 0)) I' H E L → LN I I' H E L := fun I' h => ⟨fun a q1 q2 q3 => by rw [h.1 a q1 q2 q3, upA_n q1], fun j q => by rw [h.2.1 j q, upA_s, upF_n q], h.2.2⟩
  show WP X (d + 2) 28 0 [.inr (some 3), .inr none, .inr none] [] (sh, R, I) 0 0 _
  refine w_aload (pc' := 1) k28_0 rfl rfl ?_
  refine w_c1 (pc' := 2) k28_1 rfl ?_
  refine w_putI (pc' := 5) (ki := 5) k28_2 rfl (hL.1 3 (5, 14) rfl) rfl ?_
  refine w_c1 (pc' := 6) k28_5 rfl ?_
  refine w_istore (pc' := 7) (ls' := [_, _, _]) k28_6 rfl rfl rfl ?_
  refine m28o hL hK f0 f1 (fun m q1 q2 => by rw [upA_n (by decide), upA_n (by decide), upA_n (by decide)]; exact hs4 m q1 q2) (fun I2 v1 v2 hs => ?_) (2 * E).toNat 0 _ _ (by omega) (by omega) ⟨fun _ _ _ _ => rfl, fun _ _ => rfl, by rw [upA_s, upF_s]; omega, fun m q1 q2 => by omega⟩
  exact w_retv k28_111 ⟨_, rfl, f2 _ (e3 ▸ hs)⟩
theorem m24 (hL : LC sh R) (hK : KP K H E HO S L) : WPM X (d + 3) 24 [.inr (some 3), .inl K] (sh, R, I) 0 0 (fun _ h' => ∃ I', h' = (sh, R, I') ∧ (∀ a, a < 3 ∨ 11 < a → I' a = I a) ∧ SP I' K H E HO S L) := by
  have hH := hK.r
  have eh : K / 2 = H := by (rcases hK with ⟨rfl, rfl, rfl, rfl, rfl, rfl⟩ | ⟨rfl, rfl, rfl, rfl, rfl, rfl⟩ | ⟨rfl, rfl, rfl, rfl, rfl, rfl⟩ <;> omega)
  have ee : K * H = E := by (rcases hK with ⟨rfl, rfl, rfl, rfl, rfl, rfl⟩ | ⟨rfl, rfl, rfl, rfl, rfl, rfl⟩ | ⟨rfl, rfl, rfl, rfl, rfl, rfl⟩ <;> omega)
  show WP X (d + 3) 24 0 [.inr (some 3), .inl K] [] (sh, R, I) 0 0 _
  refine w_aload (pc' := 1) k24_0 rfl rfl ?_
  refine w_iload (pc' := 2) k24_1 rfl rfl ?_
  refine w_putI (pc' := 5) (ki := 0) k24_2 rfl (hL.1 3 (5, 14) rfl) rfl ?_
  refine w_aload (pc' := 6) k24_5 rfl rfl ?_
  refine w_iload (pc' := 7) k24_6 rfl rfl ?_
  refine w_c1 (pc' := 8) k24_7 rfl ?_
  refine w_idiv (pc' := 9) k24_8 rfl (by first | omega | (rcases hK with ⟨rfl, rfl, rfl, rfl, rfl, rfl⟩ | ⟨rfl, rfl, rfl, rfl, rfl, rfl⟩ | ⟨rfl, rfl, rfl, rfl, rfl, rfl⟩ <;> omega)) ?_
  rw [eh]
  refine w_putI (pc' := 12) (ki := 1) k24_9 rfl (hL.1 3 (5, 14) rfl) rfl ?_
  refine w_aload (pc' := 13) k24_12 rfl rfl ?_
  refine w_aload (pc' := 14) k24_13 rfl rfl ?_
  refine w_getI (pc' := 17) (ki := 0) (v := K) k24_14 rfl (hL.1 3 (5, 14) rfl) rfl (by rw [upA_s, upF_n (by decide), upA_s, upF_s]) ?_
  refine w_aload (pc' := 18) k24_17 rfl rfl ?_
  refine w_getI (pc' := 21) (ki := 1) (v := H) k24_18 rfl (hL.1 3 (5, 14) rfl) rfl (by rw [upA_s, upF_s]) ?_
  refine w_imul (pc' := 22) k24_21 rfl (by first | omega | (rcases hK with ⟨rfl, rfl, rfl, rfl, rfl, rfl⟩ | ⟨rfl, rfl, rfl, rfl, rfl, rfl⟩ | ⟨rfl, rfl, rfl, rfl, rfl, rfl⟩ <;> omega)) ?_
  rw [ee]
  refine w_putI (pc' := 25) (ki := 2) k24_22 rfl (hL.1 3 (5, 14) rfl) rfl ?_
  have j0 : (upA (upA (upA I 3 (upF (I 3) 0 K)) 3 (upF (upA I 3 (upF (I 3) 0 K) 3) 1 H)) 3 (upF (upA (upA I 3 (upF (I 3) 0 K)) 3 (upF (upA I 3 (upF (I 3) 0 K) 3) 1 H) 3) 2 E)) 3 0 = K := by rw [upA_s, upF_n (by decide), upA_s, upF_n (by decide), upA_s, upF_s]
  have j1 : (upA (upA (upA I 3 (upF (I 3) 0 K)) 3 (upF (upA I 3 (upF (I 3) 0 K) 3) 1 H)) 3 (upF (upA (upA I 3 (upF (I 3) 0 K)) 3 (upF (upA I 3 (upF (I 3) 0 K) 3) 1 H) 3) 2 E)) 3 1 = H := by rw [upA_s, upF_n (by decide), upA_s, upF_s]
  have j2 : (upA (upA (upA I 3 (upF (I 3) 0 K)) 3 (upF (upA I 3 (upF (I 3) 0 K) 3) 1 H)) 3 (upF (upA (upA I 3 (upF (I 3) 0 K)) 3 (upF (upA I 3 (upF (I 3) 0 K) 3) 1 H) 3) 2 E)) 3 2 = E := by rw [upA_s, upF_s]
  refine w_aload (pc' := 26) k24_25 rfl rfl ?_
  refine w_callV (pc' := 29) (as := [.inr (some 3)]) k24_26 rfl rfl (co_v rfl rfl (hL.1 3 (5, 14) rfl)) (by decide) (m25 hL hK j0 j1) (fun r_26 h_26 hq => ?_)
  obtain ⟨I_1, rfl, s1⟩ := hq
  refine w_aload (pc' := 30) k24_29 rfl rfl ?_
  refine w_callV (pc' := 33) (as := [.inr (some 3)]) k24_30 rfl rfl (co_v rfl rfl (hL.1 3 (5, 14) rfl)) (by decide) (m27 hL hK (by rw [s1.2.1 2 (by decide)]; exact j2) (by rw [s1.2.1 1 (by decide)]; exact j1)) (fun r_30 h_30 hq => ?_)
  obtain ⟨I_2, rfl, s2⟩ := hq
  refine w_aload (pc' := 34) k24_33 rfl rfl ?_
  refine w_callV (pc' := 37) (as := [.inr (some 3)]) k24_34 rfl rfl (co_v rfl rfl (hL.1 3 (5, 14) rfl)) (by decide) (m28 hL hK (by rw [s2.2.1 2 (by decide), s1.2.1 2 (by decide)]; exact j2) (by rw [s2.2.1 1 (by decide), s1.2.1 1 (by decide)]; exact j1) (fun m q1 q2 => by rw [s2.1 4 (by decide) (by decide) (by decide), s2.1 5 (by decide) (by decide) (by decide), s2.1 6 (by decide) (by decide) (by decide)]; exact ⟨(s1.2.2.2 m q1 q2).1, (s1.2.2.2 m q1 q2).2.1, (s1.2.2.2 m q1 q2).2.2.1⟩)) (fun r_34 h_34 hq => ?_)
  obtain ⟨I_3, rfl, s3⟩ := hq
  refine w_retv k24_37 ⟨_, rfl, fun a q => by rw [s3.1 a (by omega) (by omega) (by omega), s2.1 a (by omega) (by omega) (by omega), s1.1 a (by omega), upA_n (by omega), upA_n (by omega), upA_n (by omega)], ?_, ?_, ?_, ?_, ?_, s3.2.2.1, fun m q1 q2 => ?_, fun m q1 q2 => s3.2.2.2 m q1 q2, fun m q1 q2 => ?_⟩
  · rw [s3.2.1 0 (by decide), s2.2.1 0 (by decide), s1.2.1 0 (by decide)]; exact j0
  · rw [s3.2.1 1 (by decide), s2.2.1 1 (by decide), s1.2.1 1 (by decide)]; exact j1
  · rw [s3.2.1 2 (by decide), s2.2.1 2 (by decide), s1.2.1 2 (by decide)]; exact j2
  · rw [s3.2.1 3 (by decide)]; exact s2.2.2.1
  · rw [s3.2.1 4 (by decide), s2.2.1 4 (by decide)]; exact s1.2.2.1
  · rw [s3.1 4 (by decide) (by decide) (by decide), s3.1 5 (by decide) (by decide) (by decide), s3.1 6 (by decide) (by decide) (by decide), s3.1 7 (by decide) (by decide) (by decide), s2.1 4 (by decide) (by decide) (by decide), s2.1 5 (by decide) (by decide) (by decide), s2.1 6 (by decide) (by decide) (by decide), s2.1 7 (by decide) (by decide) (by decide)]; exact s1.2.2.2 m q1 q2
  · rw [s3.1 10 (by decide) (by decide) (by decide), s3.1 11 (by decide) (by decide) (by decide)]; exact s2.2.2.2 m q1 q2
end C43
