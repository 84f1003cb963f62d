/-! ===== REFERENCE: begins, knows, lay ===== -/
section M88
variable {X : Nat × (Int → Int)} {d : Nat} {sh : List (Nat × Nat)} {R : Nat → Nat → Option Nat} {I : Nat → Int → Int} {K H E HO S L B : Int} {A : AS}
variable {tx : Int → Int} {len : Int}
theorem k115a (hM : LM sh R) {Q : VV → Hp → Prop} {v1 : VV} (C : ∀ (I1 : Nat → Int → Int) (v2 : VV), (∀ a, a ≠ 59 → I1 a = I a) → (∀ l, 0 ≤ l → l < 108 → I1 59 l = 0) → WP X (d + 1) 115 43 [.inr (some 57), v1, v2] [] (sh, R, I1) 0 0 Q) : ∀ (k m : Nat) (i : Int) (I1 : Nat → Int → Int), m + k = 108 → i = (m : Int) → (∀ a, a ≠ 59 → I1 a = I a) → (∀ l : Int, 0 ≤ l → l < (m : Int) → I1 59 l = 0) → WP X (d + 1) 115 24 [.inr (some 57), v1, .inl i] [] (sh, R, I1) 0 0 Q := by
  intro k
  induction k with
  | zero =>
    rintro m i I1 hk rfl h1 h2
    refine w_iload (pc' := 25) k115_24 rfl rfl ?_
    refine w_c2 (pc' := 27) k115_25 rfl ?_
    refine w_ic_ge (pc' := 30) k115_27 rfl (fun c_27 => ?_) (fun c_27 => absurd c_27 (by omega))
    exact C _ _ h1 (fun l q1 q2 => h2 l q1 (by omega))
  | succ k ih =>
    rintro m i I1 hk rfl h1 h2
    refine w_iload (pc' := 25) k115_24 rfl rfl ?_
    refine w_c2 (pc' := 27) k115_25 rfl ?_
    refine w_ic_ge (pc' := 30) k115_27 rfl (fun c_27 => absurd c_27 (by omega)) (fun c_27 => ?_)
    refine w_aload (pc' := 31) k115_30 rfl rfl ?_
    refine w_getR (pc' := 34) (v := 59) k115_31 rfl (hM.1 57 (11, 30) rfl) (hM.2 57 4 59 rfl) ?_
    refine w_iload (pc' := 35) k115_34 rfl rfl ?_
    refine w_c1 (pc' := 36) k115_35 rfl ?_
    refine w_iast (pc' := 37) k115_36 rfl (hM.1 59 (0, 108) rfl) (by omega) ?_
    refine w_iinc (pc' := 40) (ls' := [_, _, _]) k115_37 rfl rfl (by omega) rfl ?_
    refine w_goto k115_40 ?_
    refine ih (m + 1) _ _ (by omega) (by omega) (fun a q => by rw [upA_n q, h1 a q]) (fun l q1 q2 => ?_)
    rw [upA_s]
    by_cases c : l = m
    · subst c; rw [upF_s]
    · rw [upF_n c]; exact h2 l q1 (by omega)
theorem k115b (hM : LM sh R) {Q : VV → Hp → Prop} {v1 : VV} (C : ∀ (I1 : Nat → Int → Int) (v2 : VV), (∀ a, a ≠ 60 → I1 a = I a) → (∀ l, 0 ≤ l → l < 4860 → I1 60 l = 0) → WP X (d + 1) 115 65 [.inr (some 57), v1, v2] [] (sh, R, I1) 0 0 Q) : ∀ (k m : Nat) (i : Int) (I1 : Nat → Int → Int), m + k = 4860 → i = (m : Int) → (∀ a, a ≠ 60 → I1 a = I a) → (∀ l : Int, 0 ≤ l → l < (m : Int) → I1 60 l = 0) → WP X (d + 1) 115 45 [.inr (some 57), v1, .inl i] [] (sh, R, I1) 0 0 Q := by
  intro k
  induction k with
  | zero =>
    rintro m i I1 hk rfl h1 h2
    refine w_iload (pc' := 46) k115_45 rfl rfl ?_
    refine w_c3 (pc' := 49) k115_46 rfl ?_
    refine w_ic_ge (pc' := 52) k115_49 rfl (fun c_49 => ?_) (fun c_49 => absurd c_49 (by omega))
    exact C _ _ h1 (fun l q1 q2 => h2 l q1 (by omega))
  | succ k ih =>
    rintro m i I1 hk rfl h1 h2
    refine w_iload (pc' := 46) k115_45 rfl rfl ?_
    refine w_c3 (pc' := 49) k115_46 rfl ?_
    refine w_ic_ge (pc' := 52) k115_49 rfl (fun c_49 => absurd c_49 (by omega)) (fun c_49 => ?_)
    refine w_aload (pc' := 53) k115_52 rfl rfl ?_
    refine w_getR (pc' := 56) (v := 60) k115_53 rfl (hM.1 57 (11, 30) rfl) (hM.2 57 5 60 rfl) ?_
    refine w_iload (pc' := 57) k115_56 rfl rfl ?_
    refine w_c1 (pc' := 58) k115_57 rfl ?_
    refine w_iast (pc' := 59) k115_58 rfl (hM.1 60 (0, 4860) rfl) (by omega) ?_
    refine w_iinc (pc' := 62) (ls' := [_, _, _]) k115_59 rfl rfl (by omega) rfl ?_
    refine w_goto k115_62 ?_
    refine ih (m + 1) _ _ (by omega) (by omega) (fun a q => by rw [upA_n q, h1 a q]) (fun l q1 q2 => ?_)
    rw [upA_s]
    by_cases c : l = m
    · subst c; rw [upF_s]
    · rw [upF_n c]; exact h2 l q1 (by omega)
theorem m115 (hM : LM sh R) {k : Int} (hk : 0 ≤ k ∧ k ≤ 6) : WPM X (d + 1) 115 [.inr (some 57), .inl k] (sh, R, I) 0 0 (fun _ h' => ∃ I', h' = (sh, R, I') ∧ (∀ a, a ≠ 57 → a ≠ 59 → a ≠ 60 → I' a = I a) ∧ (∀ j, j ≠ 2 → j ≠ 3 → j ≠ 7 → j ≠ 9 → I' 57 j = I 57 j) ∧ I' 57 2 = k ∧ I' 57 3 = k / 2 ∧ I' 57 9 = 0 ∧ (∀ l, 0 ≤ l → l < 108 → I' 59 l = 0) ∧ (∀ l, 0 ≤ l → l < 4860 → I' 60 l = 0)) := by
  show WP X (d + 1) 115 0 [.inr (some 57), .inl k, .inr none] [] (sh, R, I) 0 0 _
  refine w_aload (pc' := 1) k115_0 rfl rfl ?_
  refine w_iload (pc' := 2) k115_1 rfl rfl ?_
  refine w_putI (pc' := 5) (ki := 2) k115_2 rfl (hM.1 57 (11, 30) rfl) rfl ?_
  refine w_aload (pc' := 6) k115_5 rfl rfl ?_
  refine w_iload (pc' := 7) k115_6 rfl rfl ?_
  refine w_c1 (pc' := 8) k115_7 rfl ?_
  refine w_idiv (pc' := 9) k115_8 rfl (by omega) ?_
  refine w_putI (pc' := 12) (ki := 3) k115_9 rfl (hM.1 57 (11, 30) rfl) rfl ?_
  refine w_aload (pc' := 13) k115_12 rfl rfl ?_
  refine w_c1 (pc' := 14) k115_13 rfl ?_
  refine w_putI (pc' := 17) (ki := 7) k115_14 rfl (hM.1 57 (11, 30) rfl) rfl ?_
  refine w_aload (pc' := 18) k115_17 rfl rfl ?_
  refine w_c1 (pc' := 19) k115_18 rfl ?_
  refine w_putI (pc' := 22) (ki := 9) k115_19 rfl (hM.1 57 (11, 30) rfl) rfl ?_
  refine w_c1 (pc' := 23) k115_22 rfl ?_
  refine w_istore (pc' := 24) (ls' := [_, _, _]) k115_23 rfl rfl rfl ?_
  refine k115a hM (fun I1 v2 e1 e2 => ?_) 108 0 _ _ (by omega) rfl (fun _ _ => rfl) (fun l q1 q2 => absurd q1 (by omega))
  refine w_c1 (pc' := 44) k115_43 rfl ?_
  refine w_istore (pc' := 45) (ls' := [_, _, _]) k115_44 rfl rfl rfl ?_
  refine k115b hM (fun I2 v2 g1 g2 => ?_) 4860 0 _ _ (by omega) rfl (fun _ _ => rfl) (fun l q1 q2 => absurd q1 (by omega))
  have e57 : I2 57 = upF (upF (upF (upF (I 57) 2 k) 3 (k / 2)) 7 0) 9 0 := by rw [g1 57 (by decide), e1 57 (by decide), upA_s, upA_s, upA_s, upA_s]
  exact w_retv k115_65 ⟨_, rfl, fun a q1 q2 q3 => by rw [g1 a q3, e1 a q2, upA_n q1, upA_n q1, upA_n q1, upA_n q1], fun j q1 q2 q3 q4 => by rw [e57, upF_n q4, upF_n q3, upF_n q2, upF_n q1], by rw [e57, upF_n (by decide), upF_n (by decide), upF_n (by decide), upF_s], by rw [e57, upF_n (by decide), upF_n (by decide), upF_s], by rw [e57, upF_s], fun l q1 q2 => by rw [g1 59 (by decide)]; exact e2 l q1 q2, g2⟩
theorem m116l (hM : LM sh R) {l : Int} (hl : 0 ≤ l ∧ l < 108) : ∀ (k m : Nat) (i : Int) (I1 : Nat → Int → Int), m + k = 45 → i = (m : Int) → (∀ a, a ≠ 59 → a ≠ 60 → I1 a = I a) → I1 59 = upF (I 59) l 1 → (∀ j, 0 ≤ j → j < 4860 → I1 60 j = if j % 108 = l ∧ j / 108 < (m : Int) then 1 else I 60 j) → WP X (d + 1) 116 9 [.inr (some 57), .inl l, .inl i] [] (sh, R, I1) 0 0 (fun _ h' => ∃ I', h' = (sh, R, I') ∧ (∀ a, a ≠ 59 → a ≠ 60 → I' a = I a) ∧ I' 59 = upF (I 59) l 1 ∧ (∀ j, 0 ≤ j → j < 4860 → I' 60 j = if j % 108 = l then 1 else I 60 j)) := by
  intro k
  induction k with
  | zero =>
    rintro m i I1 hk rfl h1 h2 h3
    refine w_iload (pc' := 10) k116_9 rfl rfl ?_
    refine w_c2 (pc' := 12) k116_10 rfl ?_
    refine w_ic_ge (pc' := 15) k116_12 rfl (fun c_12 => ?_) (fun c_12 => absurd c_12 (by omega))
    refine w_retv k116_33 ⟨_, rfl, h1, h2, fun j q1 q2 => ?_⟩
    rw [h3 j q1 q2]
    by_cases c : j % 108 = l
    · rw [if_pos c, if_pos ⟨c, by omega⟩]
    · rw [if_neg c, if_neg (fun z => c z.1)]
  | succ k ih =>
    rintro m i I1 hk rfl h1 h2 h3
    refine w_iload (pc' := 10) k116_9 rfl rfl ?_
    refine w_c2 (pc' := 12) k116_10 rfl ?_
    refine w_ic_ge (pc' := 15) k116_12 rfl (fun c_12 => absurd c_12 (by omega)) (fun c_12 => ?_)
    refine w_aload (pc' := 16) k116_15 rfl rfl ?_
    refine w_getR (pc' := 19) (v := 60) k116_16 rfl (hM.1 57 (11, 30) rfl) (hM.2 57 5 60 rfl) ?_
    refine w_c2 (pc' := 21) k116_19 rfl ?_
    refine w_iload (pc' := 22) k116_21 rfl rfl ?_
    refine w_imul (pc' := 23) k116_22 rfl (by omega) ?_
    refine w_iload (pc' := 24) k116_23 rfl rfl ?_
    refine w_iadd (pc' := 25) k116_24 rfl (by omega) ?_
    refine w_c1 (pc' := 26) k116_25 rfl ?_
    refine w_iast (pc' := 27) k116_26 rfl (hM.1 60 (0, 4860) rfl) (by omega) ?_
    refine w_iinc (pc' := 30) (ls' := [_, _, _]) k116_27 rfl rfl (by omega) rfl ?_
    refine w_goto k116_30 ?_
    refine ih (m + 1) _ _ (by omega) (by omega) (fun a q1 q2 => by rw [upA_n q2, h1 a q1 q2]) (by rw [upA_n (by decide), h2]) (fun j q1 q2 => ?_)
    rw [upA_s]
    by_cases c : j = 108 * (m : Int) + l
    · rw [c, upF_s, if_pos (by omega)]
    · rw [upF_n c, h3 j q1 q2]
      by_cases c2 : j % 108 = l ∧ j / 108 < (m : Int)
      · rw [if_pos c2, if_pos ⟨c2.1, by omega⟩]
      · rw [if_neg c2, if_neg (by omega)]
theorem m116 (hM : LM sh R) {l : Int} (hl : 0 ≤ l ∧ l < 108) : WPM X (d + 1) 116 [.inr (some 57), .inl l] (sh, R, I) 0 0 (fun _ h' => ∃ I', h' = (sh, R, I') ∧ (∀ a, a ≠ 59 → a ≠ 60 → I' a = I a) ∧ I' 59 = upF (I 59) l 1 ∧ (∀ j, 0 ≤ j → j < 4860 → I' 60 j = if j % 108 = l then 1 else I 60 j)) := by
  show WP X (d + 1) 116 0 [.inr (some 57), .inl l, .inr none] [] (sh, R, I) 0 0 _
  refine w_aload (pc' := 1) k116_0 rfl rfl ?_
  refine w_getR (pc' := 4) (v := 59) k116_1 rfl (hM.1 57 (11, 30) rfl) (hM.2 57 4 59 rfl) ?_
  refine w_iload (pc' := 5) k116_4 rfl rfl ?_
  refine w_c1 (pc' := 6) k116_5 rfl ?_
  refine w_iast (pc' := 7) k116_6 rfl (hM.1 59 (0, 108) rfl) (by omega) ?_
  refine w_c1 (pc' := 8) k116_7 rfl ?_
  refine w_istore (pc' := 9) (ls' := [_, _, _]) k116_8 rfl rfl rfl ?_
  exact m116l hM hl 45 0 _ _ (by omega) rfl (fun a q1 q2 => by rw [upA_n q1]) (by rw [upA_s]) (fun j q1 q2 => by rw [upA_n (by decide), if_neg (by omega)])
theorem k128 (hM : LM sh R) {Q : VV → Hp → Prop} (C : ∀ v1 : VV, WP X (d + 7) 128 61 [.inr (some 57), v1] [] (sh, R, upA I 62 (cqF (I 62) (I 67) 0 0 64)) 0 0 Q) : ∀ (k m : Nat) (i : Int) (I1 : Nat → Int → Int), m + k = 64 → i = (m : Int) → I1 = upA I 62 (cqF (I 62) (I 67) 0 0 m) → WP X (d + 7) 128 37 [.inr (some 57), .inl i] [] (sh, R, I1) 0 0 Q := by
  intro k
  induction k with
  | zero =>
    rintro m i I1 hk rfl rfl
    have e : m = 64 := by omega
    subst e
    refine w_iload (pc' := 38) k128_37 rfl rfl ?_
    refine w_c2 (pc' := 40) k128_38 rfl ?_
    refine w_ic_ge (pc' := 43) k128_40 rfl (fun c_40 => ?_) (fun c_40 => absurd c_40 (by omega))
    exact C _
  | succ k ih =>
    rintro m i I1 hk rfl e
    refine w_iload (pc' := 38) k128_37 rfl rfl ?_
    refine w_c2 (pc' := 40) k128_38 rfl ?_
    refine w_ic_ge (pc' := 43) k128_40 rfl (fun c_40 => absurd c_40 (by omega)) (fun c_40 => ?_)
    refine w_aload (pc' := 44) k128_43 rfl rfl ?_
    refine w_getR (pc' := 47) (v := 62) k128_44 rfl (hM.1 57 (11, 30) rfl) (hM.2 57 8 62 rfl) ?_
    refine w_iload (pc' := 48) k128_47 rfl rfl ?_
    refine w_aload (pc' := 49) k128_48 rfl rfl ?_
    refine w_getR (pc' := 52) (v := 67) k128_49 rfl (hM.1 57 (11, 30) rfl) (hM.2 57 16 67 rfl) ?_
    refine w_iload (pc' := 53) k128_52 rfl rfl ?_
    refine w_iald (pc' := 54) (v := I 67 (0 + (m : Int))) k128_53 rfl (hM.1 67 (0, 64) rfl) (by omega) (by rw [e, upA_n (by decide), Int.zero_add]) ?_
    refine w_iast (pc' := 55) k128_54 rfl (hM.1 62 (0, 64) rfl) (by omega) ?_
    refine w_iinc (pc' := 58) (ls' := [_, _]) k128_55 rfl rfl (by omega) rfl ?_
    refine w_goto k128_58 ?_
    exact ih (m + 1) _ _ (by omega) (by omega) (by rw [e, upA_s, upA_uu, cqF_s (by omega) rfl])
/-- cuts taken over up to m -/
def KC (I I1 : Nat → Int → Int) (c : Int → Int) (m : Int) : Prop := (∀ a, a ≠ 59 → a ≠ 60 → I1 a = I a) ∧ (∀ l, 0 ≤ l → l < 108 → I1 59 l = if l < m then c l else 0) ∧ (∀ j, 0 ≤ j → j < 4860 → I1 60 j = if j % 108 < m then c (j % 108) else 0)
theorem m128k (hM : LM sh R) {Q : VV → Hp → Prop} {c : Int → Int} (hc : ∀ l, c l = 0 ∨ c l = 1) (h68 : ∀ l, 0 ≤ l → l < 108 → I 68 l = c l) (C : ∀ (I1 : Nat → Int → Int) (v1 : VV), KC I I1 c 108 → WP X (d + 7) 128 90 [.inr (some 57), v1] [] (sh, R, I1) 0 0 Q) : ∀ (k m : Nat) (i : Int) (I1 : Nat → Int → Int), m + k = 108 → i = (m : Int) → KC I I1 c m → WP X (d + 7) 128 63 [.inr (some 57), .inl i] [] (sh, R, I1) 0 0 Q := by
  intro k
  induction k with
  | zero =>
    rintro m i I1 hk rfl h
    have e : m = 108 := by omega
    subst e
    refine w_iload (pc' := 64) k128_63 rfl rfl ?_
    refine w_c2 (pc' := 66) k128_64 rfl ?_
    refine w_ic_ge (pc' := 69) k128_66 rfl (fun c_66 => ?_) (fun c_66 => absurd c_66 (by omega))
    exact C _ _ h
  | succ k ih =>
    rintro m i I1 hk rfl h
    have hv : I1 68 (m : Int) = c m := by rw [h.1 68 (by decide) (by decide)]; exact h68 m (by omega) (by omega)
    have hc1 := hc m
    refine w_iload (pc' := 64) k128_63 rfl rfl ?_
    refine w_c2 (pc' := 66) k128_64 rfl ?_
    refine w_ic_ge (pc' := 69) k128_66 rfl (fun c_66 => absurd c_66 (by omega)) (fun c_66 => ?_)
    refine w_aload (pc' := 70) k128_69 rfl rfl ?_
    refine w_getR (pc' := 73) (v := 68) k128_70 rfl (hM.1 57 (11, 30) rfl) (hM.2 57 17 68 rfl) ?_
    refine w_iload (pc' := 74) k128_73 rfl rfl ?_
    refine w_iald (pc' := 75) (v := c m) k128_74 rfl (hM.1 68 (0, 108) rfl) (by omega) hv ?_
    refine w_c1 (pc' := 76) k128_75 rfl ?_
    refine w_ic_ne (pc' := 79) k128_76 rfl (fun c_76 => ?_) (fun c_76 => ?_)
    · refine w_iinc (pc' := 87) (ls' := [_, _]) k128_84 rfl rfl (by omega) rfl ?_
      refine w_goto k128_87 ?_
      refine ih (m + 1) _ _ (by omega) (by omega) ⟨h.1, fun l q1 q2 => ?_, fun j q1 q2 => ?_⟩
      · rw [h.2.1 l q1 q2]
        by_cases e : l = m
        · subst e; rw [if_neg (by omega), if_pos (by omega)]; omega
        · by_cases e2 : l < (m : Int)
          · rw [if_pos e2, if_pos (by omega)]
          · rw [if_neg e2, if_neg (by omega)]
      · rw [h.2.2 j q1 q2]
        by_cases e : j % 108 = m
        · rw [e, if_neg (by omega), if_pos (by omega)]; omega
        · by_cases e2 : j % 108 < (m : Int)
          · rw [if_pos e2, if_pos (by omega)]
          · rw [if_neg e2, if_neg (by omega)]
    · refine w_aload (pc' := 80) k128_79 rfl rfl ?_
      refine w_iload (pc' := 81) k128_80 rfl rfl ?_
      refine w_callV (pc' := 84) (as := [.inr (some 57), .inl _]) k128_81 rfl rfl (co_v rfl rfl (hM.1 57 (11, 30) rfl)) (by decide) (m116 hM (l := (m : Int)) (by omega)) (fun r_81 h_81 hq => ?_)
      obtain ⟨I_2, rfl, t1, t2, t3⟩ := hq
      refine w_iinc (pc' := 87) (ls' := [_, _]) k128_84 rfl rfl (by omega) rfl ?_
      refine w_goto k128_87 ?_
      refine ih (m + 1) _ _ (by omega) (by omega) ⟨fun a q1 q2 => by rw [t1 a q1 q2, h.1 a q1 q2], fun l q1 q2 => ?_, fun j q1 q2 => ?_⟩
      · rw [t2]
        by_cases e : l = m
        · subst e; rw [upF_s, if_pos (by omega), c_76]
        · rw [upF_n e, h.2.1 l q1 q2]
          by_cases e2 : l < (m : Int)
          · rw [if_pos e2, if_pos (by omega)]
          · rw [if_neg e2, if_neg (by omega)]
      · rw [t3 j q1 q2, h.2.2 j q1 q2]
        by_cases e : j % 108 = m
        · rw [if_pos e, e, if_pos (by omega), c_76]
        · rw [if_neg e]
          by_cases e2 : j % 108 < (m : Int)
          · rw [if_pos e2, if_pos (by omega)]
          · rw [if_neg e2, if_neg (by omega)]
theorem m128f (hM : LM sh R) (ht : MT I tx len) (hx : ∀ v stE, readR tx len 300 ps0 0 v stE → ¬ (v = -4 ∧ stE.1 ≠ 0)) : WPM X (d + 7) 128 [.inr (some 57)] (sh, R, I) 0 0 (fun r h' => r = .inl (-2) ∧ ∃ I', h' = (sh, R, I') ∧ SX I I') := by
  show WP X (d + 7) 128 0 [.inr (some 57), .inr none] [] (sh, R, I) 0 0 _
  refine w_aload (pc' := 1) k128_0 rfl rfl ?_
  refine w_callI (pc' := 4) (as := [.inr (some 57)]) k128_1 rfl rfl (co_v rfl rfl (hM.1 57 (11, 30) rfl)) (by decide) (m124 hM ht) (fun z_1 h_1 hq => ?_)
  obtain ⟨v, stE, I_1, e9, rfl, sx, rd, hs⟩ := hq
  obtain rfl := Sum.inl.inj e9
  refine w_c2 (pc' := 6) k128_4 rfl ?_
  refine w_ic_ne (pc' := 9) k128_6 rfl (fun c_6 => ?_) (fun c_6 => ?_)
  · refine w_c2 (pc' := 18) k128_16 rfl ?_
    exact w_reti k128_18 ⟨rfl, _, rfl, sx⟩
  · refine w_aload (pc' := 10) k128_9 rfl rfl ?_
    refine w_getI (pc' := 13) (ki := 14) (v := stE.1) k128_10 rfl (hM.1 57 (11, 30) rfl) rfl ((hs c_6).1) ?_
    refine w_if_ne (pc' := 16) k128_13 rfl (fun c_13 => ?_) (fun c_13 => ?_)
    · exact absurd ⟨c_6, c_13⟩ (hx _ _ rd)
    · refine w_c2 (pc' := 18) k128_16 rfl ?_
      exact w_reti k128_18 ⟨rfl, _, rfl, sx⟩
theorem m128s (hM : LM sh R) (ht : MT I tx len) (hK : KP K H E HO S L) (hx : ∀ v stE, readR tx len 300 ps0 0 v stE → v = -4 ∧ stE.1 = K) : WPM X (d + 7) 128 [.inr (some 57)] (sh, R, I) 0 0 (fun r h' => r = .inl HO ∧ ∃ stE I', h' = (sh, R, I') ∧ readR tx len 300 ps0 0 (-4) stE ∧ (∀ a, a < 57 ∨ 77 < a → I' a = I a) ∧ MG sh R I' K H E HO S L 1 (layA stE, layA stE, layA stE, 0) tx len) := by
  have hr := hK.r
  show WP X (d + 7) 128 0 [.inr (some 57), .inr none] [] (sh, R, I) 0 0 _
  refine w_aload (pc' := 1) k128_0 rfl rfl ?_
  refine w_callI (pc' := 4) (as := [.inr (some 57)]) k128_1 rfl rfl (co_v rfl rfl (hM.1 57 (11, 30) rfl)) (by decide) (m124 hM ht) (fun z_1 h_1 hq => ?_)
  obtain ⟨v, stE, I_1, e9, rfl, sx, rd, hs⟩ := hq
  obtain rfl := Sum.inl.inj e9
  have hx1 := hx _ _ rd
  obtain ⟨hv4, hst⟩ := hx1
  subst hv4
  have hx1 := hx _ _ rd
  have hs := hs rfl
  have hok := read_ok 300 ⟨Or.inl rfl, fun _ => rfl, ⟨Int.le_refl _, by decide⟩, fun f q1 q2 => absurd q1 (by have q2 : f < 0 := q2; omega), fun l => Or.inl rfl⟩ rd rfl (Int.le_refl _)
  have hn16 := hok.2.2.1
  refine w_c2 (pc' := 6) k128_4 rfl ?_
  refine w_ic_ne (pc' := 9) k128_6 rfl (fun c_6 => absurd c_6 (by decide)) (fun c_6 => ?_)
  refine w_aload (pc' := 10) k128_9 rfl rfl ?_
  refine w_getI (pc' := 13) (ki := 14) (v := stE.1) k128_10 rfl (hM.1 57 (11, 30) rfl) rfl hs.1 ?_
  refine w_if_ne (pc' := 16) k128_13 rfl (fun c_13 => ?_) (fun c_13 => absurd c_13 (by omega))
  refine w_aload (pc' := 20) k128_19 rfl rfl ?_
  refine w_aload (pc' := 21) k128_20 rfl rfl ?_
  refine w_getI (pc' := 24) (ki := 14) (v := stE.1) k128_21 rfl (hM.1 57 (11, 30) rfl) rfl hs.1 ?_
  refine w_callV (pc' := 27) (as := [.inr (some 57), .inl _]) k128_24 rfl rfl (co_v rfl rfl (hM.1 57 (11, 30) rfl)) (by decide) (m115 hM (by omega)) (fun r_24 h_24 hq => ?_)
  obtain ⟨I_2, rfl, b1, b2, b3, b4, b5, b6, b7⟩ := hq
  rw [hst] at b3 b4
  refine w_aload (pc' := 28) k128_27 rfl rfl ?_
  refine w_aload (pc' := 29) k128_28 rfl rfl ?_
  refine w_getI (pc' := 32) (ki := 15) (v := stE.2.1) k128_29 rfl (hM.1 57 (11, 30) rfl) rfl (by rw [b2 15 (by decide) (by decide) (by decide) (by decide)]; exact hs.2.1) ?_
  refine w_putI (pc' := 35) (ki := 7) k128_32 rfl (hM.1 57 (11, 30) rfl) rfl ?_
  refine w_c1 (pc' := 36) k128_35 rfl ?_
  refine w_istore (pc' := 37) (ls' := [_, _]) k128_36 rfl rfl rfl ?_
  refine k128 hM (fun v1 => ?_) 64 0 _ _ (by omega) rfl (by rw [cqF_0, upA_id])
  refine w_c1 (pc' := 62) k128_61 rfl ?_
  refine w_istore (pc' := 63) (ls' := [_, _]) k128_62 rfl rfl rfl ?_
  refine m128k hM (c := stE.2.2.2.2.2) hok.2.2.2.2 (fun l q1 q2 => by rw [upA_n (by decide), upA_n (by decide), b1 68 (by decide) (by decide) (by decide)]; exact hs.2.2.2 l q1 q2) (fun I3 v1 h3 => ?_) 108 0 _ _ (by omega) rfl ⟨fun _ _ _ => rfl, fun l q1 q2 => by rw [upA_n (by decide), upA_n (by decide), if_neg (by omega)]; exact b6 l q1 q2, fun j q1 q2 => by rw [upA_n (by decide), upA_n (by decide), if_neg (by omega)]; exact b7 j q1 q2⟩
  have h2p : KC _ _ _ _ := h3
  have e57 : I3 57 = upF (I_2 57) 7 stE.2.1 := by rw [h3.1 57 (by decide) (by decide), upA_n (by decide), upA_s]
  have eo : ∀ a, a ≠ 57 → a ≠ 59 → a ≠ 60 → a ≠ 62 → I3 a = I_2 a := fun a q1 q2 q3 q4 => by rw [h3.1 a q2 q3, upA_n q4, upA_n q1]
  have e62 : I3 62 = cqF (I_2 62) (I_2 67) 0 0 64 := by rw [h3.1 62 (by decide) (by decide), upA_s, upA_n (by decide), upA_n (by decide)]
  have eH : H = K / 2 := by rcases hK with ⟨rfl, rfl, _⟩ | ⟨rfl, rfl, _⟩ | ⟨rfl, rfl, _⟩ <;> rfl
  have t67 : I_2 67 = I_1 67 := b1 67 (by decide) (by decide) (by decide)
  have hmf : MF sh R I3 K H E HO S L 1 (layA stE) := by
    refine ⟨hM, hK, by rw [e57, upF_n (by decide), b3], by rw [e57, upF_n (by decide), b4, eH], ⟨by rw [e57, upF_s]; rfl, fun l q1 q2 => by rw [h3.2.1 l q1 (by omega), if_pos (by omega)]; rfl, fun n l q1 q2 q3 q4 => ?_, fun f q1 q2 => ?_⟩, lay_AB hK hx1.2 rd, by omega⟩
    · rw [h3.2.2 _ (by omega) (by omega), if_pos (by omega), show (108 * n + l) % 108 = l by omega]; rfl
    · have q3 : f < stE.2.1 := q2
      have h8 := hs.2.2.1 f q1 q3
      rw [e62, ← Int.zero_add (4 * f), cqF_in ⟨by omega, by omega⟩, Int.zero_add, ← Int.zero_add (4 * f + 1), cqF_in ⟨by omega, by omega⟩, Int.zero_add, ← Int.zero_add (4 * f + 2), cqF_in ⟨by omega, by omega⟩, Int.zero_add, ← Int.zero_add (4 * f + 3), cqF_in ⟨by omega, by omega⟩, Int.zero_add, t67]
      exact h8
  refine w_aload (pc' := 91) k128_90 rfl rfl ?_
  refine w_callE (pc' := 94) (as := [.inr (some 57)]) k128_91 rfl rfl (co_v rfl rfl (hM.1 57 (11, 30) rfl)) (by decide) (m129 hmf) ?_
  exact w_reti k128_94 ⟨rfl, stE, _, rfl, rd, fun a q => by rw [eo a (by omega) (by omega) (by omega) (by omega), b1 a (by omega) (by omega) (by omega), sx.1 a (by omega) (by omega) (by omega)], hmf, by rw [e57, upF_n (by decide)]; exact b5, ⟨(show (0 : Int) ≤ 0 ∧ (0 : Int) ≤ 2 by decide), fun q => absurd (show (1 : Int) ≤ 0 from q) (by decide), fun q => absurd (show (0 : Int) = 2 from q) (by decide)⟩, ht.keep (by rw [e57, upF_n (by decide), b2 0 (by decide) (by decide) (by decide) (by decide), sx.2 0 (by decide) (by decide) (by decide)]) (by rw [eo 58 (by decide) (by decide) (by decide) (by decide), b1 58 (by decide) (by decide) (by decide), sx.1 58 (by decide) (by decide) (by decide)])⟩
end M88
