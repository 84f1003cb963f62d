/-! ===== CLASS: the parts made ===== -/
section C55
variable {X : Nat × (Int → Int)} {d : Nat} {R : Nat → Nat → Option Nat} {I : Nat → Int → Int}
theorem m11_1 : WPM X (d + 1) 11 [.inr (some 1)] ([(10, 12), (4, 4)], R, I) 1 200 (fun _ h' => ∃ R' I', h' = ([(10, 12), (4, 4), (1, 200)], R', I') ∧ (∀ a k, a ≠ 1 → a < 2 → R' a k = R a k) ∧ (∀ a, a < 2 → I' a = I a) ∧ R' 1 0 = some 2) := by
  show WP X (d + 1) 11 0 [.inr (some 1)] [] ([(10, 12), (4, 4)], R, I) 1 200 _
  refine w_aload (pc' := 1) k11_0 rfl rfl ?_
  refine w_oi (pc' := 4) k11_1 rfl rfl ?_
  refine w_aload (pc' := 5) k11_4 rfl rfl ?_
  refine w_c3 (pc' := 8) k11_5 rfl ?_
  refine w_newc (pc' := 10) (n := 200) (q := 2) k11_8 rfl rfl rfl (by decide) ?_
  refine w_putRF (pc' := 13) k11_10 rfl rfl (by decide) ?_
  refine w_retv k11_13 ⟨_, _, rfl, fun a k q1 q2 => ?_, fun a q1 => ?_, ?_⟩
  · rw [upR_n (by omega), upR_n (by omega)]
  · rw [upA_n (by omega)]
  · simp [upR, upK]
theorem m23_3 : WPM X (d + 1) 23 [.inr (some 3)] ([(10, 12), (4, 4), (1, 200), (5, 14)], R, I) 8 504 (fun _ h' => ∃ R' I', h' = ([(10, 12), (4, 4), (1, 200), (5, 14), (0, 45), (0, 45), (0, 45), (0, 45), (0, 108), (0, 108), (0, 54), (0, 54)], R', I') ∧ (∀ a k, a ≠ 3 → a < 4 → R' a k = R a k) ∧ (∀ a, a < 4 → I' a = I a) ∧ R' 3 6 = some 4 ∧ R' 3 7 = some 5 ∧ R' 3 8 = some 6 ∧ R' 3 9 = some 7 ∧ R' 3 10 = some 8 ∧ R' 3 11 = some 9 ∧ R' 3 12 = some 10 ∧ R' 3 13 = some 11) := by
  show WP X (d + 1) 23 0 [.inr (some 3)] [] ([(10, 12), (4, 4), (1, 200), (5, 14)], R, I) 8 504 _
  refine w_aload (pc' := 1) k23_0 rfl rfl ?_
  refine w_oi (pc' := 4) k23_1 rfl rfl ?_
  refine w_aload (pc' := 5) k23_4 rfl rfl ?_
  refine w_c2 (pc' := 7) k23_5 rfl ?_
  refine w_newi (pc' := 9) (n := 45) (q := 4) k23_7 rfl rfl rfl (by decide) ?_
  refine w_putRF (pc' := 12) k23_9 rfl rfl (by decide) ?_
  refine w_aload (pc' := 13) k23_12 rfl rfl ?_
  refine w_c2 (pc' := 15) k23_13 rfl ?_
  refine w_newi (pc' := 17) (n := 45) (q := 5) k23_15 rfl rfl rfl (by decide) ?_
  refine w_putRF (pc' := 20) k23_17 rfl rfl (by decide) ?_
  refine w_aload (pc' := 21) k23_20 rfl rfl ?_
  refine w_c2 (pc' := 23) k23_21 rfl ?_
  refine w_newi (pc' := 25) (n := 45) (q := 6) k23_23 rfl rfl rfl (by decide) ?_
  refine w_putRF (pc' := 28) k23_25 rfl rfl (by decide) ?_
  refine w_aload (pc' := 29) k23_28 rfl rfl ?_
  refine w_c2 (pc' := 31) k23_29 rfl ?_
  refine w_newi (pc' := 33) (n := 45) (q := 7) k23_31 rfl rfl rfl (by decide) ?_
  refine w_putRF (pc' := 36) k23_33 rfl rfl (by decide) ?_
  refine w_aload (pc' := 37) k23_36 rfl rfl ?_
  refine w_c2 (pc' := 39) k23_37 rfl ?_
  refine w_newi (pc' := 41) (n := 108) (q := 8) k23_39 rfl rfl rfl (by decide) ?_
  refine w_putRF (pc' := 44) k23_41 rfl rfl (by decide) ?_
  refine w_aload (pc' := 45) k23_44 rfl rfl ?_
  refine w_c2 (pc' := 47) k23_45 rfl ?_
  refine w_newi (pc' := 49) (n := 108) (q := 9) k23_47 rfl rfl rfl (by decide) ?_
  refine w_putRF (pc' := 52) k23_49 rfl rfl (by decide) ?_
  refine w_aload (pc' := 53) k23_52 rfl rfl ?_
  refine w_c2 (pc' := 55) k23_53 rfl ?_
  refine w_newi (pc' := 57) (n := 54) (q := 10) k23_55 rfl rfl rfl (by decide) ?_
  refine w_putRF (pc' := 60) k23_57 rfl rfl (by decide) ?_
  refine w_aload (pc' := 61) k23_60 rfl rfl ?_
  refine w_c2 (pc' := 63) k23_61 rfl ?_
  refine w_newi (pc' := 65) (n := 54) (q := 11) k23_63 rfl rfl rfl (by decide) ?_
  refine w_putRF (pc' := 68) k23_65 rfl rfl (by decide) ?_
  refine w_retv k23_68 ⟨_, _, rfl, fun a k q1 q2 => ?_, fun a q1 => ?_, ?_, ?_, ?_, ?_, ?_, ?_, ?_, ?_⟩
  · rw [upR_n (by omega), upR_n (by omega), upR_n (by omega), upR_n (by omega), upR_n (by omega), upR_n (by omega), upR_n (by omega), upR_n (by omega), upR_n (by omega), upR_n (by omega), upR_n (by omega), upR_n (by omega), upR_n (by omega), upR_n (by omega), upR_n (by omega), upR_n (by omega)]
  · rw [upA_n (by omega), upA_n (by omega), upA_n (by omega), upA_n (by omega), upA_n (by omega), upA_n (by omega), upA_n (by omega), upA_n (by omega)]
  · simp [upR, upK]
  · simp [upR, upK]
  · simp [upR, upK]
  · simp [upR, upK]
  · simp [upR, upK]
  · simp [upR, upK]
  · simp [upR, upK]
  · simp [upR, upK]
theorem m5_12 : WPM X (d + 1) 5 [.inr (some 12), .inr (some 3)] ([(10, 12), (4, 4), (1, 200), (5, 14), (0, 45), (0, 45), (0, 45), (0, 45), (0, 108), (0, 108), (0, 54), (0, 54), (3, 5)], R, I) 2 10 (fun _ h' => ∃ R' I', h' = ([(10, 12), (4, 4), (1, 200), (5, 14), (0, 45), (0, 45), (0, 45), (0, 45), (0, 108), (0, 108), (0, 54), (0, 54), (3, 5), (0, 5), (0, 5)], R', I') ∧ (∀ a k, a ≠ 12 → a < 13 → R' a k = R a k) ∧ (∀ a, a < 13 → I' a = I a) ∧ R' 12 0 = some 3 ∧ R' 12 1 = some 13 ∧ R' 12 2 = some 14) := by
  show WP X (d + 1) 5 0 [.inr (some 12), .inr (some 3)] [] ([(10, 12), (4, 4), (1, 200), (5, 14), (0, 45), (0, 45), (0, 45), (0, 45), (0, 108), (0, 108), (0, 54), (0, 54), (3, 5)], R, I) 2 10 _
  refine w_aload (pc' := 1) k5_0 rfl rfl ?_
  refine w_oi (pc' := 4) k5_1 rfl rfl ?_
  refine w_aload (pc' := 5) k5_4 rfl rfl ?_
  refine w_c1 (pc' := 6) k5_5 rfl ?_
  refine w_newi (pc' := 8) (n := 5) (q := 13) k5_6 rfl rfl rfl (by decide) ?_
  refine w_putRF (pc' := 11) k5_8 rfl rfl (by decide) ?_
  refine w_aload (pc' := 12) k5_11 rfl rfl ?_
  refine w_c1 (pc' := 13) k5_12 rfl ?_
  refine w_newi (pc' := 15) (n := 5) (q := 14) k5_13 rfl rfl rfl (by decide) ?_
  refine w_putRF (pc' := 18) k5_15 rfl rfl (by decide) ?_
  refine w_aload (pc' := 19) k5_18 rfl rfl ?_
  refine w_aload (pc' := 20) k5_19 rfl rfl ?_
  refine w_putRF (pc' := 23) k5_20 rfl rfl (by decide) ?_
  refine w_retv k5_23 ⟨_, _, rfl, fun a k q1 q2 => ?_, fun a q1 => ?_, ?_, ?_, ?_⟩
  · rw [upR_n (by omega), upR_n (by omega), upR_n (by omega), upR_n (by omega), upR_n (by omega)]
  · rw [upA_n (by omega), upA_n (by omega)]
  · simp [upR, upK]
  · simp [upR, upK]
  · simp [upR, upK]
theorem m58_15 : WPM X (d + 1) 58 [.inr (some 15), .inr (some 3)] ([(10, 12), (4, 4), (1, 200), (5, 14), (0, 45), (0, 45), (0, 45), (0, 45), (0, 108), (0, 108), (0, 54), (0, 54), (3, 5), (0, 5), (0, 5), (8, 2)], R, I) 1 45 (fun _ h' => ∃ R' I', h' = ([(10, 12), (4, 4), (1, 200), (5, 14), (0, 45), (0, 45), (0, 45), (0, 45), (0, 108), (0, 108), (0, 54), (0, 54), (3, 5), (0, 5), (0, 5), (8, 2), (0, 45)], R', I') ∧ (∀ a k, a ≠ 15 → a < 16 → R' a k = R a k) ∧ (∀ a, a < 16 → I' a = I a) ∧ R' 15 0 = some 3 ∧ R' 15 1 = some 16) := by
  show WP X (d + 1) 58 0 [.inr (some 15), .inr (some 3)] [] ([(10, 12), (4, 4), (1, 200), (5, 14), (0, 45), (0, 45), (0, 45), (0, 45), (0, 108), (0, 108), (0, 54), (0, 54), (3, 5), (0, 5), (0, 5), (8, 2)], R, I) 1 45 _
  refine w_aload (pc' := 1) k58_0 rfl rfl ?_
  refine w_oi (pc' := 4) k58_1 rfl rfl ?_
  refine w_aload (pc' := 5) k58_4 rfl rfl ?_
  refine w_c2 (pc' := 7) k58_5 rfl ?_
  refine w_newi (pc' := 9) (n := 45) (q := 16) k58_7 rfl rfl rfl (by decide) ?_
  refine w_putRF (pc' := 12) k58_9 rfl rfl (by decide) ?_
  refine w_aload (pc' := 13) k58_12 rfl rfl ?_
  refine w_aload (pc' := 14) k58_13 rfl rfl ?_
  refine w_putRF (pc' := 17) k58_14 rfl rfl (by decide) ?_
  refine w_retv k58_17 ⟨_, _, rfl, fun a k q1 q2 => ?_, fun a q1 => ?_, ?_, ?_⟩
  · rw [upR_n (by omega), upR_n (by omega), upR_n (by omega)]
  · rw [upA_n (by omega)]
  · simp [upR, upK]
  · simp [upR, upK]
theorem m61_17 : WPM X (d + 1) 61 [.inr (some 17), .inr (some 3)] ([(10, 12), (4, 4), (1, 200), (5, 14), (0, 45), (0, 45), (0, 45), (0, 45), (0, 108), (0, 108), (0, 54), (0, 54), (3, 5), (0, 5), (0, 5), (8, 2), (0, 45), (9, 3)], R, I) 0 0 (fun _ h' => ∃ R' I', h' = ([(10, 12), (4, 4), (1, 200), (5, 14), (0, 45), (0, 45), (0, 45), (0, 45), (0, 108), (0, 108), (0, 54), (0, 54), (3, 5), (0, 5), (0, 5), (8, 2), (0, 45), (9, 3)], R', I') ∧ (∀ a k, a ≠ 17 → a < 18 → R' a k = R a k) ∧ (∀ a, a < 18 → I' a = I a) ∧ R' 17 0 = some 3) := by
  show WP X (d + 1) 61 0 [.inr (some 17), .inr (some 3)] [] ([(10, 12), (4, 4), (1, 200), (5, 14), (0, 45), (0, 45), (0, 45), (0, 45), (0, 108), (0, 108), (0, 54), (0, 54), (3, 5), (0, 5), (0, 5), (8, 2), (0, 45), (9, 3)], R, I) 0 0 _
  refine w_aload (pc' := 1) k61_0 rfl rfl ?_
  refine w_oi (pc' := 4) k61_1 rfl rfl ?_
  refine w_aload (pc' := 5) k61_4 rfl rfl ?_
  refine w_aload (pc' := 6) k61_5 rfl rfl ?_
  refine w_putRF (pc' := 9) k61_6 rfl rfl (by decide) ?_
  refine w_retv k61_9 ⟨_, _, rfl, fun a k q1 q2 => ?_, fun a q1 => ?_, ?_⟩
  · rw [upR_n (by omega)]
  · rfl
  · simp [upR, upK]
theorem m0_18 : WPM X (d + 1) 0 [.inr (some 18), .inr (some 3), .inr (some 12)] ([(10, 12), (4, 4), (1, 200), (5, 14), (0, 45), (0, 45), (0, 45), (0, 45), (0, 108), (0, 108), (0, 54), (0, 54), (3, 5), (0, 5), (0, 5), (8, 2), (0, 45), (9, 3), (2, 5)], R, I) 2 216 (fun _ h' => ∃ R' I', h' = ([(10, 12), (4, 4), (1, 200), (5, 14), (0, 45), (0, 45), (0, 45), (0, 45), (0, 108), (0, 108), (0, 54), (0, 54), (3, 5), (0, 5), (0, 5), (8, 2), (0, 45), (9, 3), (2, 5), (0, 108), (0, 108)], R', I') ∧ (∀ a k, a ≠ 18 → a < 19 → R' a k = R a k) ∧ (∀ a, a < 19 → I' a = I a) ∧ R' 18 0 = some 3 ∧ R' 18 1 = some 12 ∧ R' 18 2 = some 19 ∧ R' 18 3 = some 20) := by
  show WP X (d + 1) 0 0 [.inr (some 18), .inr (some 3), .inr (some 12)] [] ([(10, 12), (4, 4), (1, 200), (5, 14), (0, 45), (0, 45), (0, 45), (0, 45), (0, 108), (0, 108), (0, 54), (0, 54), (3, 5), (0, 5), (0, 5), (8, 2), (0, 45), (9, 3), (2, 5)], R, I) 2 216 _
  refine w_aload (pc' := 1) k0_0 rfl rfl ?_
  refine w_oi (pc' := 4) k0_1 rfl rfl ?_
  refine w_aload (pc' := 5) k0_4 rfl rfl ?_
  refine w_c2 (pc' := 7) k0_5 rfl ?_
  refine w_newi (pc' := 9) (n := 108) (q := 19) k0_7 rfl rfl rfl (by decide) ?_
  refine w_putRF (pc' := 12) k0_9 rfl rfl (by decide) ?_
  refine w_aload (pc' := 13) k0_12 rfl rfl ?_
  refine w_c2 (pc' := 15) k0_13 rfl ?_
  refine w_newi (pc' := 17) (n := 108) (q := 20) k0_15 rfl rfl rfl (by decide) ?_
  refine w_putRF (pc' := 20) k0_17 rfl rfl (by decide) ?_
  refine w_aload (pc' := 21) k0_20 rfl rfl ?_
  refine w_aload (pc' := 22) k0_21 rfl rfl ?_
  refine w_putRF (pc' := 25) k0_22 rfl rfl (by decide) ?_
  refine w_aload (pc' := 26) k0_25 rfl rfl ?_
  refine w_aload (pc' := 27) k0_26 rfl rfl ?_
  refine w_putRF (pc' := 30) k0_27 rfl rfl (by decide) ?_
  refine w_retv k0_30 ⟨_, _, rfl, fun a k q1 q2 => ?_, fun a q1 => ?_, ?_, ?_, ?_, ?_⟩
  · rw [upR_n (by omega), upR_n (by omega), upR_n (by omega), upR_n (by omega), upR_n (by omega), upR_n (by omega)]
  · rw [upA_n (by omega), upA_n (by omega)]
  · simp [upR, upK]
  · simp [upR, upK]
  · simp [upR, upK]
  · simp [upR, upK]
theorem m35_21 : WPM X (d + 1) 35 [.inr (some 21), .inr (some 3), .inr (some 12)] ([(10, 12), (4, 4), (1, 200), (5, 14), (0, 45), (0, 45), (0, 45), (0, 45), (0, 108), (0, 108), (0, 54), (0, 54), (3, 5), (0, 5), (0, 5), (8, 2), (0, 45), (9, 3), (2, 5), (0, 108), (0, 108), (6, 5)], R, I) 3 436 (fun _ h' => ∃ R' I', h' = ([(10, 12), (4, 4), (1, 200), (5, 14), (0, 45), (0, 45), (0, 45), (0, 45), (0, 108), (0, 108), (0, 54), (0, 54), (3, 5), (0, 5), (0, 5), (8, 2), (0, 45), (9, 3), (2, 5), (0, 108), (0, 108), (6, 5), (0, 96), (0, 16), (0, 324)], R', I') ∧ (∀ a k, a ≠ 21 → a < 22 → R' a k = R a k) ∧ (∀ a, a < 22 → I' a = I a) ∧ R' 21 0 = some 3 ∧ R' 21 1 = some 12 ∧ R' 21 2 = some 22 ∧ R' 21 3 = some 23 ∧ R' 21 4 = some 24) := by
  show WP X (d + 1) 35 0 [.inr (some 21), .inr (some 3), .inr (some 12)] [] ([(10, 12), (4, 4), (1, 200), (5, 14), (0, 45), (0, 45), (0, 45), (0, 45), (0, 108), (0, 108), (0, 54), (0, 54), (3, 5), (0, 5), (0, 5), (8, 2), (0, 45), (9, 3), (2, 5), (0, 108), (0, 108), (6, 5)], R, I) 3 436 _
  refine w_aload (pc' := 1) k35_0 rfl rfl ?_
  refine w_oi (pc' := 4) k35_1 rfl rfl ?_
  refine w_aload (pc' := 5) k35_4 rfl rfl ?_
  refine w_c2 (pc' := 7) k35_5 rfl ?_
  refine w_newi (pc' := 9) (n := 96) (q := 22) k35_7 rfl rfl rfl (by decide) ?_
  refine w_putRF (pc' := 12) k35_9 rfl rfl (by decide) ?_
  refine w_aload (pc' := 13) k35_12 rfl rfl ?_
  refine w_c2 (pc' := 15) k35_13 rfl ?_
  refine w_newi (pc' := 17) (n := 16) (q := 23) k35_15 rfl rfl rfl (by decide) ?_
  refine w_putRF (pc' := 20) k35_17 rfl rfl (by decide) ?_
  refine w_aload (pc' := 21) k35_20 rfl rfl ?_
  refine w_c3 (pc' := 24) k35_21 rfl ?_
  refine w_newi (pc' := 26) (n := 324) (q := 24) k35_24 rfl rfl rfl (by decide) ?_
  refine w_putRF (pc' := 29) k35_26 rfl rfl (by decide) ?_
  refine w_aload (pc' := 30) k35_29 rfl rfl ?_
  refine w_aload (pc' := 31) k35_30 rfl rfl ?_
  refine w_putRF (pc' := 34) k35_31 rfl rfl (by decide) ?_
  refine w_aload (pc' := 35) k35_34 rfl rfl ?_
  refine w_aload (pc' := 36) k35_35 rfl rfl ?_
  refine w_putRF (pc' := 39) k35_36 rfl rfl (by decide) ?_
  refine w_retv k35_39 ⟨_, _, rfl, fun a k q1 q2 => ?_, fun a q1 => ?_, ?_, ?_, ?_, ?_, ?_⟩
  · rw [upR_n (by omega), upR_n (by omega), upR_n (by omega), upR_n (by omega), upR_n (by omega), upR_n (by omega), upR_n (by omega), upR_n (by omega)]
  · rw [upA_n (by omega), upA_n (by omega), upA_n (by omega)]
  · simp [upR, upK]
  · simp [upR, upK]
  · simp [upR, upK]
  · simp [upR, upK]
  · simp [upR, upK]
theorem m45_25 : WPM X (d + 1) 45 [.inr (some 25)] ([(10, 12), (4, 4), (1, 200), (5, 14), (0, 45), (0, 45), (0, 45), (0, 45), (0, 108), (0, 108), (0, 54), (0, 54), (3, 5), (0, 5), (0, 5), (8, 2), (0, 45), (9, 3), (2, 5), (0, 108), (0, 108), (6, 5), (0, 96), (0, 16), (0, 324), (7, 9)], R, I) 6 172 (fun _ h' => ∃ R' I', h' = ([(10, 12), (4, 4), (1, 200), (5, 14), (0, 45), (0, 45), (0, 45), (0, 45), (0, 108), (0, 108), (0, 54), (0, 54), (3, 5), (0, 5), (0, 5), (8, 2), (0, 45), (9, 3), (2, 5), (0, 108), (0, 108), (6, 5), (0, 96), (0, 16), (0, 324), (7, 9), (0, 108), (0, 16), (0, 16), (0, 16), (0, 16), (0, 0)], R', I') ∧ (∀ a k, a ≠ 25 → a < 26 → R' a k = R a k) ∧ (∀ a, a < 26 → I' a = I a) ∧ R' 25 0 = some 26 ∧ R' 25 1 = some 27 ∧ R' 25 2 = some 28 ∧ R' 25 3 = some 29 ∧ R' 25 4 = some 30 ∧ R' 25 6 = some 31) := by
  show WP X (d + 1) 45 0 [.inr (some 25)] [] ([(10, 12), (4, 4), (1, 200), (5, 14), (0, 45), (0, 45), (0, 45), (0, 45), (0, 108), (0, 108), (0, 54), (0, 54), (3, 5), (0, 5), (0, 5), (8, 2), (0, 45), (9, 3), (2, 5), (0, 108), (0, 108), (6, 5), (0, 96), (0, 16), (0, 324), (7, 9)], R, I) 6 172 _
  refine w_aload (pc' := 1) k45_0 rfl rfl ?_
  refine w_oi (pc' := 4) k45_1 rfl rfl ?_
  refine w_aload (pc' := 5) k45_4 rfl rfl ?_
  refine w_c2 (pc' := 7) k45_5 rfl ?_
  refine w_newi (pc' := 9) (n := 108) (q := 26) k45_7 rfl rfl rfl (by decide) ?_
  refine w_putRF (pc' := 12) k45_9 rfl rfl (by decide) ?_
  refine w_aload (pc' := 13) k45_12 rfl rfl ?_
  refine w_c2 (pc' := 15) k45_13 rfl ?_
  refine w_newi (pc' := 17) (n := 16) (q := 27) k45_15 rfl rfl rfl (by decide) ?_
  refine w_putRF (pc' := 20) k45_17 rfl rfl (by decide) ?_
  refine w_aload (pc' := 21) k45_20 rfl rfl ?_
  refine w_c2 (pc' := 23) k45_21 rfl ?_
  refine w_newi (pc' := 25) (n := 16) (q := 28) k45_23 rfl rfl rfl (by decide) ?_
  refine w_putRF (pc' := 28) k45_25 rfl rfl (by decide) ?_
  refine w_aload (pc' := 29) k45_28 rfl rfl ?_
  refine w_c2 (pc' := 31) k45_29 rfl ?_
  refine w_newi (pc' := 33) (n := 16) (q := 29) k45_31 rfl rfl rfl (by decide) ?_
  refine w_putRF (pc' := 36) k45_33 rfl rfl (by decide) ?_
  refine w_aload (pc' := 37) k45_36 rfl rfl ?_
  refine w_c2 (pc' := 39) k45_37 rfl ?_
  refine w_newi (pc' := 41) (n := 16) (q := 30) k45_39 rfl rfl rfl (by decide) ?_
  refine w_putRF (pc' := 44) k45_41 rfl rfl (by decide) ?_
  refine w_aload (pc' := 45) k45_44 rfl rfl ?_
  refine w_c1 (pc' := 46) k45_45 rfl ?_
  refine w_newi (pc' := 48) (n := 0) (q := 31) k45_46 rfl rfl rfl (by decide) ?_
  refine w_putR (pc' := 51) k45_48 rfl rfl (by decide) ?_
  refine w_retv k45_51 ⟨_, _, rfl, fun a k q1 q2 => ?_, fun a q1 => ?_, ?_, ?_, ?_, ?_, ?_, ?_⟩
  · rw [upR_n (by omega), upR_n (by omega), upR_n (by omega), upR_n (by omega), upR_n (by omega), upR_n (by omega), upR_n (by omega), upR_n (by omega), upR_n (by omega), upR_n (by omega), upR_n (by omega), upR_n (by omega)]
  · rw [upA_n (by omega), upA_n (by omega), upA_n (by omega), upA_n (by omega), upA_n (by omega), upA_n (by omega)]
  · simp [upR, upK]
  · simp [upR, upK]
  · simp [upR, upK]
  · simp [upR, upK]
  · simp [upR, upK]
  · simp [upR, upK]
theorem m45_32 : WPM X (d + 1) 45 [.inr (some 32)] ([(10, 12), (4, 4), (1, 200), (5, 14), (0, 45), (0, 45), (0, 45), (0, 45), (0, 108), (0, 108), (0, 54), (0, 54), (3, 5), (0, 5), (0, 5), (8, 2), (0, 45), (9, 3), (2, 5), (0, 108), (0, 108), (6, 5), (0, 96), (0, 16), (0, 324), (7, 9), (0, 108), (0, 16), (0, 16), (0, 16), (0, 16), (0, 0), (7, 9)], R, I) 6 172 (fun _ h' => ∃ R' I', h' = ([(10, 12), (4, 4), (1, 200), (5, 14), (0, 45), (0, 45), (0, 45), (0, 45), (0, 108), (0, 108), (0, 54), (0, 54), (3, 5), (0, 5), (0, 5), (8, 2), (0, 45), (9, 3), (2, 5), (0, 108), (0, 108), (6, 5), (0, 96), (0, 16), (0, 324), (7, 9), (0, 108), (0, 16), (0, 16), (0, 16), (0, 16), (0, 0), (7, 9), (0, 108), (0, 16), (0, 16), (0, 16), (0, 16), (0, 0)], R', I') ∧ (∀ a k, a ≠ 32 → a < 33 → R' a k = R a k) ∧ (∀ a, a < 33 → I' a = I a) ∧ R' 32 0 = some 33 ∧ R' 32 1 = some 34 ∧ R' 32 2 = some 35 ∧ R' 32 3 = some 36 ∧ R' 32 4 = some 37 ∧ R' 32 6 = some 38) := by
  show WP X (d + 1) 45 0 [.inr (some 32)] [] ([(10, 12), (4, 4), (1, 200), (5, 14), (0, 45), (0, 45), (0, 45), (0, 45), (0, 108), (0, 108), (0, 54), (0, 54), (3, 5), (0, 5), (0, 5), (8, 2), (0, 45), (9, 3), (2, 5), (0, 108), (0, 108), (6, 5), (0, 96), (0, 16), (0, 324), (7, 9), (0, 108), (0, 16), (0, 16), (0, 16), (0, 16), (0, 0), (7, 9)], R, I) 6 172 _
  refine w_aload (pc' := 1) k45_0 rfl rfl ?_
  refine w_oi (pc' := 4) k45_1 rfl rfl ?_
  refine w_aload (pc' := 5) k45_4 rfl rfl ?_
  refine w_c2 (pc' := 7) k45_5 rfl ?_
  refine w_newi (pc' := 9) (n := 108) (q := 33) k45_7 rfl rfl rfl (by decide) ?_
  refine w_putRF (pc' := 12) k45_9 rfl rfl (by decide) ?_
  refine w_aload (pc' := 13) k45_12 rfl rfl ?_
  refine w_c2 (pc' := 15) k45_13 rfl ?_
  refine w_newi (pc' := 17) (n := 16) (q := 34) k45_15 rfl rfl rfl (by decide) ?_
  refine w_putRF (pc' := 20) k45_17 rfl rfl (by decide) ?_
  refine w_aload (pc' := 21) k45_20 rfl rfl ?_
  refine w_c2 (pc' := 23) k45_21 rfl ?_
  refine w_newi (pc' := 25) (n := 16) (q := 35) k45_23 rfl rfl rfl (by decide) ?_
  refine w_putRF (pc' := 28) k45_25 rfl rfl (by decide) ?_
  refine w_aload (pc' := 29) k45_28 rfl rfl ?_
  refine w_c2 (pc' := 31) k45_29 rfl ?_
  refine w_newi (pc' := 33) (n := 16) (q := 36) k45_31 rfl rfl rfl (by decide) ?_
  refine w_putRF (pc' := 36) k45_33 rfl rfl (by decide) ?_
  refine w_aload (pc' := 37) k45_36 rfl rfl ?_
  refine w_c2 (pc' := 39) k45_37 rfl ?_
  refine w_newi (pc' := 41) (n := 16) (q := 37) k45_39 rfl rfl rfl (by decide) ?_
  refine w_putRF (pc' := 44) k45_41 rfl rfl (by decide) ?_
  refine w_aload (pc' := 45) k45_44 rfl rfl ?_
  refine w_c1 (pc' := 46) k45_45 rfl ?_
  refine w_newi (pc' := 48) (n := 0) (q := 38) k45_46 rfl rfl rfl (by decide) ?_
  refine w_putR (pc' := 51) k45_48 rfl rfl (by decide) ?_
  refine w_retv k45_51 ⟨_, _, rfl, fun a k q1 q2 => ?_, fun a q1 => ?_, ?_, ?_, ?_, ?_, ?_, ?_⟩
  · rw [upR_n (by omega), upR_n (by omega), upR_n (by omega), upR_n (by omega), upR_n (by omega), upR_n (by omega), upR_n (by omega), upR_n (by omega), upR_n (by omega), upR_n (by omega), upR_n (by omega), upR_n (by omega)]
  · rw [upA_n (by omega), upA_n (by omega), upA_n (by omega), upA_n (by omega), upA_n (by omega), upA_n (by omega)]
  · simp [upR, upK]
  · simp [upR, upK]
  · simp [upR, upK]
  · simp [upR, upK]
  · simp [upR, upK]
  · simp [upR, upK]
theorem m45_39 : WPM X (d + 1) 45 [.inr (some 39)] ([(10, 12), (4, 4), (1, 200), (5, 14), (0, 45), (0, 45), (0, 45), (0, 45), (0, 108), (0, 108), (0, 54), (0, 54), (3, 5), (0, 5), (0, 5), (8, 2), (0, 45), (9, 3), (2, 5), (0, 108), (0, 108), (6, 5), (0, 96), (0, 16), (0, 324), (7, 9), (0, 108), (0, 16), (0, 16), (0, 16), (0, 16), (0, 0), (7, 9), (0, 108), (0, 16), (0, 16), (0, 16), (0, 16), (0, 0), (7, 9)], R, I) 6 172 (fun _ h' => ∃ R' I', h' = ([(10, 12), (4, 4), (1, 200), (5, 14), (0, 45), (0, 45), (0, 45), (0, 45), (0, 108), (0, 108), (0, 54), (0, 54), (3, 5), (0, 5), (0, 5), (8, 2), (0, 45), (9, 3), (2, 5), (0, 108), (0, 108), (6, 5), (0, 96), (0, 16), (0, 324), (7, 9), (0, 108), (0, 16), (0, 16), (0, 16), (0, 16), (0, 0), (7, 9), (0, 108), (0, 16), (0, 16), (0, 16), (0, 16), (0, 0), (7, 9), (0, 108), (0, 16), (0, 16), (0, 16), (0, 16), (0, 0)], R', I') ∧ (∀ a k, a ≠ 39 → a < 40 → R' a k = R a k) ∧ (∀ a, a < 40 → I' a = I a) ∧ R' 39 0 = some 40 ∧ R' 39 1 = some 41 ∧ R' 39 2 = some 42 ∧ R' 39 3 = some 43 ∧ R' 39 4 = some 44 ∧ R' 39 6 = some 45) := by
  show WP X (d + 1) 45 0 [.inr (some 39)] [] ([(10, 12), (4, 4), (1, 200), (5, 14), (0, 45), (0, 45), (0, 45), (0, 45), (0, 108), (0, 108), (0, 54), (0, 54), (3, 5), (0, 5), (0, 5), (8, 2), (0, 45), (9, 3), (2, 5), (0, 108), (0, 108), (6, 5), (0, 96), (0, 16), (0, 324), (7, 9), (0, 108), (0, 16), (0, 16), (0, 16), (0, 16), (0, 0), (7, 9), (0, 108), (0, 16), (0, 16), (0, 16), (0, 16), (0, 0), (7, 9)], R, I) 6 172 _
  refine w_aload (pc' := 1) k45_0 rfl rfl ?_
  refine w_oi (pc' := 4) k45_1 rfl rfl ?_
  refine w_aload (pc' := 5) k45_4 rfl rfl ?_
  refine w_c2 (pc' := 7) k45_5 rfl ?_
  refine w_newi (pc' := 9) (n := 108) (q := 40) k45_7 rfl rfl rfl (by decide) ?_
  refine w_putRF (pc' := 12) k45_9 rfl rfl (by decide) ?_
  refine w_aload (pc' := 13) k45_12 rfl rfl ?_
  refine w_c2 (pc' := 15) k45_13 rfl ?_
  refine w_newi (pc' := 17) (n := 16) (q := 41) k45_15 rfl rfl rfl (by decide) ?_
  refine w_putRF (pc' := 20) k45_17 rfl rfl (by decide) ?_
  refine w_aload (pc' := 21) k45_20 rfl rfl ?_
  refine w_c2 (pc' := 23) k45_21 rfl ?_
  refine w_newi (pc' := 25) (n := 16) (q := 42) k45_23 rfl rfl rfl (by decide) ?_
  refine w_putRF (pc' := 28) k45_25 rfl rfl (by decide) ?_
  refine w_aload (pc' := 29) k45_28 rfl rfl ?_
  refine w_c2 (pc' := 31) k45_29 rfl ?_
  refine w_newi (pc' := 33) (n := 16) (q := 43) k45_31 rfl rfl rfl (by decide) ?_
  refine w_putRF (pc' := 36) k45_33 rfl rfl (by decide) ?_
  refine w_aload (pc' := 37) k45_36 rfl rfl ?_
  refine w_c2 (pc' := 39) k45_37 rfl ?_
  refine w_newi (pc' := 41) (n := 16) (q := 44) k45_39 rfl rfl rfl (by decide) ?_
  refine w_putRF (pc' := 44) k45_41 rfl rfl (by decide) ?_
  refine w_aload (pc' := 45) k45_44 rfl rfl ?_
  refine w_c1 (pc' := 46) k45_45 rfl ?_
  refine w_newi (pc' := 48) (n := 0) (q := 45) k45_46 rfl rfl rfl (by decide) ?_
  refine w_putR (pc' := 51) k45_48 rfl rfl (by decide) ?_
  refine w_retv k45_51 ⟨_, _, rfl, fun a k q1 q2 => ?_, fun a q1 => ?_, ?_, ?_, ?_, ?_, ?_, ?_⟩
  · rw [upR_n (by omega), upR_n (by omega), upR_n (by omega), upR_n (by omega), upR_n (by omega), upR_n (by omega), upR_n (by omega), upR_n (by omega), upR_n (by omega), upR_n (by omega), upR_n (by omega), upR_n (by omega)]
  · rw [upA_n (by omega), upA_n (by omega), upA_n (by omega), upA_n (by omega), upA_n (by omega), upA_n (by omega)]
  · simp [upR, upK]
  · simp [upR, upK]
  · simp [upR, upK]
  · simp [upR, upK]
  · simp [upR, upK]
  · simp [upR, upK]
theorem m45_46 : WPM X (d + 1) 45 [.inr (some 46)] ([(10, 12), (4, 4), (1, 200), (5, 14), (0, 45), (0, 45), (0, 45), (0, 45), (0, 108), (0, 108), (0, 54), (0, 54), (3, 5), (0, 5), (0, 5), (8, 2), (0, 45), (9, 3), (2, 5), (0, 108), (0, 108), (6, 5), (0, 96), (0, 16), (0, 324), (7, 9), (0, 108), (0, 16), (0, 16), (0, 16), (0, 16), (0, 0), (7, 9), (0, 108), (0, 16), (0, 16), (0, 16), (0, 16), (0, 0), (7, 9), (0, 108), (0, 16), (0, 16), (0, 16), (0, 16), (0, 0), (7, 9)], R, I) 6 172 (fun _ h' => ∃ R' I', h' = ([(10, 12), (4, 4), (1, 200), (5, 14), (0, 45), (0, 45), (0, 45), (0, 45), (0, 108), (0, 108), (0, 54), (0, 54), (3, 5), (0, 5), (0, 5), (8, 2), (0, 45), (9, 3), (2, 5), (0, 108), (0, 108), (6, 5), (0, 96), (0, 16), (0, 324), (7, 9), (0, 108), (0, 16), (0, 16), (0, 16), (0, 16), (0, 0), (7, 9), (0, 108), (0, 16), (0, 16), (0, 16), (0, 16), (0, 0), (7, 9), (0, 108), (0, 16), (0, 16), (0, 16), (0, 16), (0, 0), (7, 9), (0, 108), (0, 16), (0, 16), (0, 16), (0, 16), (0, 0)], R', I') ∧ (∀ a k, a ≠ 46 → a < 47 → R' a k = R a k) ∧ (∀ a, a < 47 → I' a = I a) ∧ R' 46 0 = some 47 ∧ R' 46 1 = some 48 ∧ R' 46 2 = some 49 ∧ R' 46 3 = some 50 ∧ R' 46 4 = some 51 ∧ R' 46 6 = some 52) := by
  show WP X (d + 1) 45 0 [.inr (some 46)] [] ([(10, 12), (4, 4), (1, 200), (5, 14), (0, 45), (0, 45), (0, 45), (0, 45), (0, 108), (0, 108), (0, 54), (0, 54), (3, 5), (0, 5), (0, 5), (8, 2), (0, 45), (9, 3), (2, 5), (0, 108), (0, 108), (6, 5), (0, 96), (0, 16), (0, 324), (7, 9), (0, 108), (0, 16), (0, 16), (0, 16), (0, 16), (0, 0), (7, 9), (0, 108), (0, 16), (0, 16), (0, 16), (0, 16), (0, 0), (7, 9), (0, 108), (0, 16), (0, 16), (0, 16), (0, 16), (0, 0), (7, 9)], R, I) 6 172 _
  refine w_aload (pc' := 1) k45_0 rfl rfl ?_
  refine w_oi (pc' := 4) k45_1 rfl rfl ?_
  refine w_aload (pc' := 5) k45_4 rfl rfl ?_
  refine w_c2 (pc' := 7) k45_5 rfl ?_
  refine w_newi (pc' := 9) (n := 108) (q := 47) k45_7 rfl rfl rfl (by decide) ?_
  refine w_putRF (pc' := 12) k45_9 rfl rfl (by decide) ?_
  refine w_aload (pc' := 13) k45_12 rfl rfl ?_
  refine w_c2 (pc' := 15) k45_13 rfl ?_
  refine w_newi (pc' := 17) (n := 16) (q := 48) k45_15 rfl rfl rfl (by decide) ?_
  refine w_putRF (pc' := 20) k45_17 rfl rfl (by decide) ?_
  refine w_aload (pc' := 21) k45_20 rfl rfl ?_
  refine w_c2 (pc' := 23) k45_21 rfl ?_
  refine w_newi (pc' := 25) (n := 16) (q := 49) k45_23 rfl rfl rfl (by decide) ?_
  refine w_putRF (pc' := 28) k45_25 rfl rfl (by decide) ?_
  refine w_aload (pc' := 29) k45_28 rfl rfl ?_
  refine w_c2 (pc' := 31) k45_29 rfl ?_
  refine w_newi (pc' := 33) (n := 16) (q := 50) k45_31 rfl rfl rfl (by decide) ?_
  refine w_putRF (pc' := 36) k45_33 rfl rfl (by decide) ?_
  refine w_aload (pc' := 37) k45_36 rfl rfl ?_
  refine w_c2 (pc' := 39) k45_37 rfl ?_
  refine w_newi (pc' := 41) (n := 16) (q := 51) k45_39 rfl rfl rfl (by decide) ?_
  refine w_putRF (pc' := 44) k45_41 rfl rfl (by decide) ?_
  refine w_aload (pc' := 45) k45_44 rfl rfl ?_
  refine w_c1 (pc' := 46) k45_45 rfl ?_
  refine w_newi (pc' := 48) (n := 0) (q := 52) k45_46 rfl rfl rfl (by decide) ?_
  refine w_putR (pc' := 51) k45_48 rfl rfl (by decide) ?_
  refine w_retv k45_51 ⟨_, _, rfl, fun a k q1 q2 => ?_, fun a q1 => ?_, ?_, ?_, ?_, ?_, ?_, ?_⟩
  · rw [upR_n (by omega), upR_n (by omega), upR_n (by omega), upR_n (by omega), upR_n (by omega), upR_n (by omega), upR_n (by omega), upR_n (by omega), upR_n (by omega), upR_n (by omega), upR_n (by omega), upR_n (by omega)]
  · rw [upA_n (by omega), upA_n (by omega), upA_n (by omega), upA_n (by omega), upA_n (by omega), upA_n (by omega)]
  · simp [upR, upK]
  · simp [upR, upK]
  · simp [upR, upK]
  · simp [upR, upK]
  · simp [upR, upK]
  · simp [upR, upK]
end C55
