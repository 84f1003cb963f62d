/-! ===== CLASS: all made ===== -/
def rCl : List (List (Option Nat)) := [[some 1, some 3, some 12, some 15, some 17, some 18, some 21], [some 2], [], [none, none, none, none, none, none, some 4, some 5, some 6, some 7, some 8, some 9, some 10, some 11], [], [], [], [], [], [], [], [], [some 3, some 13, some 14], [], [], [some 3, some 16], [], [some 3], [some 3, some 12, some 19, some 20], [], [], [some 3, some 12, some 22, some 23, some 24], [], [], [], [some 26, some 27, some 28, some 29, some 30], [], [], [], [], [], [], [some 33, some 34, some 35, some 36, some 37], [], [], [], [], [], [], [some 40, some 41, some 42, some 43, some 44], [], [], [], [], [], [], [some 47, some 48, some 49, some 50, some 51], [], [], [], [], [], []]
def rcL : List (Nat × Nat × Nat) := [(0, 0, 1), (0, 1, 3), (0, 2, 12), (0, 3, 15), (0, 4, 17), (0, 5, 18), (0, 6, 21), (1, 0, 2), (3, 6, 4), (3, 7, 5), (3, 8, 6), (3, 9, 7), (3, 10, 8), (3, 11, 9), (3, 12, 10), (3, 13, 11), (12, 0, 3), (12, 1, 13), (12, 2, 14), (15, 0, 3), (15, 1, 16), (17, 0, 3), (18, 0, 3), (18, 1, 12), (18, 2, 19), (18, 3, 20), (21, 0, 3), (21, 1, 12), (21, 2, 22), (21, 3, 23), (21, 4, 24), (25, 0, 26), (25, 1, 27), (25, 2, 28), (25, 3, 29), (25, 4, 30), (32, 0, 33), (32, 1, 34), (32, 2, 35), (32, 3, 36), (32, 4, 37), (39, 0, 40), (39, 1, 41), (39, 2, 42), (39, 3, 43), (39, 4, 44), (46, 0, 47), (46, 1, 48), (46, 2, 49), (46, 3, 50), (46, 4, 51)]
theorem rC_in {a k v : Nat} (h : rC a k = some v) : (a, k, v) ∈ rcL := by
  have ha : a < 53 := by
    rcases (show a < 53 ∨ 53 ≤ a by omega) with q | q
    · exact q
    · obtain ⟨j, rfl⟩ : ∃ j, a = 53 + j := ⟨a - 53, by omega⟩
      exact absurd h (by unfold rC; simp)
  have hk : k < 14 := by
    rcases (show k < 14 ∨ 14 ≤ k by omega) with q | q
    · exact q
    · have hn : ∀ a, a < 53 → (([0, 0, 0, 0, 0, 0, 0, 0, 0, 0, 0, 0, 0, 0, 0, 0, 0, 0, 0, 0, 0, 0, 0, 0, 0, 0, 0, 0, 0, 0, 0, 0, 0, 0, 0, 0, 0, 0, 0, 0, 0, 0, 0, 0, 0, 0, 0, 0, 0, 0, 0, 0, 0] : List Nat).getD a 0) ≤ 14 := by decide
      have hz : ∀ a, a < 53 → ∀ j, rC a (14 + j) = none := by
        intro a ha j
        have hz2 : ∀ a, a < 53 → ∀ l, (rCl.getD a []) = l → l.length ≤ 14 → l.getD (14 + j) none = none := fun a _ l _ h3 => by
          rw [List.getD_eq_getElem?_getD, List.getElem?_eq_none (by omega)]; rfl
        exact hz2 a ha _ rfl ((by decide : ∀ a, a < 53 → (rCl.getD a []).length ≤ 14) a ha)
      obtain ⟨j, rfl⟩ : ∃ j, k = 14 + j := ⟨k - 14, by omega⟩
      exact absurd h (by rw [hz a ha j]; exact fun z => Option.some_ne_none v z.symm)
  have hd : ∀ a, a < 53 → ∀ k, k < 14 → (match rC a k with | none => true | some v => decide ((a, k, v) ∈ rcL)) = true := by decide
  have h2 := hd a ha k hk
  rw [h] at h2
  exact of_decide_eq_true h2
section C56
variable {X : Nat × (Int → Int)} {d : Nat} {R : Nat → Nat → Option Nat} {I : Nat → Int → Int}
/-- the object made, its parts made; then what follows at the text -/
theorem m68a {Q : VV → Hp → Prop} {bc bs : Nat} (hb : 52 ≤ bc ∧ 2173 ≤ bs) (kk : ∀ R' I' bc' bs', LC ([(10, 12), (4, 4), (1, 200), (5, 14), (0, 45), (0, 45), (0, 45), (0, 45), (0, 108), (0, 108), (0, 54), (0, 54), (3, 5), (0, 5), (0, 5), (8, 2), (0, 45), (9, 3), (2, 5), (0, 108), (0, 108), (6, 5), (0, 96), (0, 16), (0, 324), (7, 9), (0, 108), (0, 16), (0, 16), (0, 16), (0, 16), (0, 0), (7, 9), (0, 108), (0, 16), (0, 16), (0, 16), (0, 16), (0, 0), (7, 9), (0, 108), (0, 16), (0, 16), (0, 16), (0, 16), (0, 0), (7, 9), (0, 108), (0, 16), (0, 16), (0, 16), (0, 16), (0, 0)]) R' → (R' 0 7 = some 25 ∧ R' 0 8 = some 32 ∧ R' 0 9 = some 39 ∧ R' 0 10 = some 46) → (∀ s, isS s → R' s 6 = some (s + 6)) → I' 1 1 = 0 → bc ≤ bc' + 52 → bs ≤ bs' + 2173 → WP X (d + 8) 68 153 [.inr (some 0), .inr none] [] ([(10, 12), (4, 4), (1, 200), (5, 14), (0, 45), (0, 45), (0, 45), (0, 45), (0, 108), (0, 108), (0, 54), (0, 54), (3, 5), (0, 5), (0, 5), (8, 2), (0, 45), (9, 3), (2, 5), (0, 108), (0, 108), (6, 5), (0, 96), (0, 16), (0, 324), (7, 9), (0, 108), (0, 16), (0, 16), (0, 16), (0, 16), (0, 0), (7, 9), (0, 108), (0, 16), (0, 16), (0, 16), (0, 16), (0, 0), (7, 9), (0, 108), (0, 16), (0, 16), (0, 16), (0, 16), (0, 0), (7, 9), (0, 108), (0, 16), (0, 16), (0, 16), (0, 16), (0, 0)], R', I') bc' bs' Q) : WP X (d + 8) 68 0 [.inr (some 0), .inr none] [] ([(10, 12)], R, I) bc bs Q := by
  obtain ⟨bc, rfl⟩ : ∃ k, bc = k + 52 := ⟨bc - 52, by omega⟩
  obtain ⟨bs, rfl⟩ : ∃ k, bs = k + 2173 := ⟨bs - 2173, by omega⟩
  refine w_aload (pc' := 1) k68_0 rfl rfl ?_
  refine w_oi (pc' := 4) k68_1 rfl rfl ?_
  refine w_aload (pc' := 5) k68_4 rfl rfl ?_
  refine w_new (pc' := 8) (q := 1) k68_5 rfl rfl (by refine ⟨?_, ?_, by decide⟩ <;> omega) ?_
  refine w_dup (pc' := 9) k68_8 rfl ?_
  refine w_callM (pc' := 12) (as := [.inr (some 1)]) k68_9 rfl rfl (co_i (Or.inr rfl) rfl rfl) ⟨by omega, by omega⟩ (m11_1) (fun r_9 h_9 hq => ?_)
  obtain ⟨R_1, I_1, rfl, r_1, i_1, f1_0⟩ := hq
  have o_1 : I_1 1 1 = 0 := by rw [i_1 1 (by decide)]; simp [upA]
  refine w_putRF (pc' := 15) k68_12 rfl rfl (by decide) ?_
  refine w_aload (pc' := 16) k68_15 rfl rfl ?_
  refine w_new (pc' := 19) (q := 3) k68_16 rfl rfl (by refine ⟨?_, ?_, by decide⟩ <;> omega) ?_
  refine w_dup (pc' := 20) k68_19 rfl ?_
  refine w_callM (pc' := 23) (as := [.inr (some 3)]) k68_20 rfl rfl (co_i (Or.inr rfl) rfl rfl) ⟨by omega, by omega⟩ (m23_3) (fun r_20 h_20 hq => ?_)
  obtain ⟨R_2, I_2, rfl, r_2, i_2, f3_6, f3_7, f3_8, f3_9, f3_10, f3_11, f3_12, f3_13⟩ := hq
  have z2_0 : R_2 0 0 = some 1 := (r_2 0 0 (by decide) (by decide)).trans (by simp [upR, upK])
  have e_2 : ∀ a k, a ≠ 0 → a < 3 → R_2 a k = R_1 a k := fun a k q1 q2 => (r_2 a k (by omega) (by omega)).trans (by rw [upR_n (by omega), upR_n q1])
  have o_2 : I_2 1 1 = 0 := by rw [i_2 1 (by decide)]; rw [upA_n (by decide)]; exact o_1
  refine w_putRF (pc' := 26) k68_23 rfl rfl (by decide) ?_
  refine w_aload (pc' := 27) k68_26 rfl rfl ?_
  refine w_new (pc' := 30) (q := 12) k68_27 rfl rfl (by refine ⟨?_, ?_, by decide⟩ <;> omega) ?_
  refine w_dup (pc' := 31) k68_30 rfl ?_
  refine w_aload (pc' := 32) k68_31 rfl rfl ?_
  refine w_getR (pc' := 35) (v := 3) k68_32 rfl rfl (by simp [upR, upK]) ?_
  refine w_callM (pc' := 38) (as := [.inr (some 12), .inr (some 3)]) k68_35 rfl rfl (co_i (Or.inl rfl) rfl rfl) ⟨by omega, by omega⟩ (m5_12) (fun r_35 h_35 hq => ?_)
  obtain ⟨R_3, I_3, rfl, r_3, i_3, f12_0, f12_1, f12_2⟩ := hq
  have z3_0 : R_3 0 0 = some 1 := (r_3 0 0 (by decide) (by decide)).trans (by simp [upR, upK, z2_0])
  have z3_1 : R_3 0 1 = some 3 := (r_3 0 1 (by decide) (by decide)).trans (by simp [upR, upK])
  have e_3 : ∀ a k, a ≠ 0 → a < 12 → R_3 a k = R_2 a k := fun a k q1 q2 => (r_3 a k (by omega) (by omega)).trans (by rw [upR_n (by omega), upR_n q1])
  have o_3 : I_3 1 1 = 0 := by rw [i_3 1 (by decide)]; rw [upA_n (by decide)]; exact o_2
  refine w_putRF (pc' := 41) k68_38 rfl rfl (by decide) ?_
  refine w_aload (pc' := 42) k68_41 rfl rfl ?_
  refine w_new (pc' := 45) (q := 15) k68_42 rfl rfl (by refine ⟨?_, ?_, by decide⟩ <;> omega) ?_
  refine w_dup (pc' := 46) k68_45 rfl ?_
  refine w_aload (pc' := 47) k68_46 rfl rfl ?_
  refine w_getR (pc' := 50) (v := 3) k68_47 rfl rfl (by simp [upR, upK, z3_1]) ?_
  refine w_callM (pc' := 53) (as := [.inr (some 15), .inr (some 3)]) k68_50 rfl rfl (co_i (Or.inl rfl) rfl rfl) ⟨by omega, by omega⟩ (m58_15) (fun r_50 h_50 hq => ?_)
  obtain ⟨R_4, I_4, rfl, r_4, i_4, f15_0, f15_1⟩ := hq
  have z4_0 : R_4 0 0 = some 1 := (r_4 0 0 (by decide) (by decide)).trans (by simp [upR, upK, z3_0])
  have z4_1 : R_4 0 1 = some 3 := (r_4 0 1 (by decide) (by decide)).trans (by simp [upR, upK, z3_1])
  have z4_2 : R_4 0 2 = some 12 := (r_4 0 2 (by decide) (by decide)).trans (by simp [upR, upK])
  have e_4 : ∀ a k, a ≠ 0 → a < 15 → R_4 a k = R_3 a k := fun a k q1 q2 => (r_4 a k (by omega) (by omega)).trans (by rw [upR_n (by omega), upR_n q1])
  have o_4 : I_4 1 1 = 0 := by rw [i_4 1 (by decide)]; rw [upA_n (by decide)]; exact o_3
  refine w_putRF (pc' := 56) k68_53 rfl rfl (by decide) ?_
  refine w_aload (pc' := 57) k68_56 rfl rfl ?_
  refine w_new (pc' := 60) (q := 17) k68_57 rfl rfl (by refine ⟨?_, ?_, by decide⟩ <;> omega) ?_
  refine w_dup (pc' := 61) k68_60 rfl ?_
  refine w_aload (pc' := 62) k68_61 rfl rfl ?_
  refine w_getR (pc' := 65) (v := 3) k68_62 rfl rfl (by simp [upR, upK, z4_1]) ?_
  refine w_callM (pc' := 68) (as := [.inr (some 17), .inr (some 3)]) k68_65 rfl rfl (co_i (Or.inl rfl) rfl rfl) ⟨by omega, by omega⟩ (m61_17) (fun r_65 h_65 hq => ?_)
  obtain ⟨R_5, I_5, rfl, r_5, i_5, f17_0⟩ := hq
  have z5_0 : R_5 0 0 = some 1 := (r_5 0 0 (by decide) (by decide)).trans (by simp [upR, upK, z4_0])
  have z5_1 : R_5 0 1 = some 3 := (r_5 0 1 (by decide) (by decide)).trans (by simp [upR, upK, z4_1])
  have z5_2 : R_5 0 2 = some 12 := (r_5 0 2 (by decide) (by decide)).trans (by simp [upR, upK, z4_2])
  have z5_3 : R_5 0 3 = some 15 := (r_5 0 3 (by decide) (by decide)).trans (by simp [upR, upK])
  have e_5 : ∀ a k, a ≠ 0 → a < 17 → R_5 a k = R_4 a k := fun a k q1 q2 => (r_5 a k (by omega) (by omega)).trans (by rw [upR_n (by omega), upR_n q1])
  have o_5 : I_5 1 1 = 0 := by rw [i_5 1 (by decide)]; rw [upA_n (by decide)]; exact o_4
  refine w_putRF (pc' := 71) k68_68 rfl rfl (by decide) ?_
  refine w_aload (pc' := 72) k68_71 rfl rfl ?_
  refine w_new (pc' := 75) (q := 18) k68_72 rfl rfl (by refine ⟨?_, ?_, by decide⟩ <;> omega) ?_
  refine w_dup (pc' := 76) k68_75 rfl ?_
  refine w_aload (pc' := 77) k68_76 rfl rfl ?_
  refine w_getR (pc' := 80) (v := 3) k68_77 rfl rfl (by simp [upR, upK, z5_1]) ?_
  refine w_aload (pc' := 81) k68_80 rfl rfl ?_
  refine w_getR (pc' := 84) (v := 12) k68_81 rfl rfl (by simp [upR, upK, z5_2]) ?_
  refine w_callM (pc' := 87) (as := [.inr (some 18), .inr (some 3), .inr (some 12)]) k68_84 rfl rfl (co_i (Or.inl rfl) rfl rfl) ⟨by omega, by omega⟩ (m0_18) (fun r_84 h_84 hq => ?_)
  obtain ⟨R_6, I_6, rfl, r_6, i_6, f18_0, f18_1, f18_2, f18_3⟩ := hq
  have z6_0 : R_6 0 0 = some 1 := (r_6 0 0 (by decide) (by decide)).trans (by simp [upR, upK, z5_0])
  have z6_1 : R_6 0 1 = some 3 := (r_6 0 1 (by decide) (by decide)).trans (by simp [upR, upK, z5_1])
  have z6_2 : R_6 0 2 = some 12 := (r_6 0 2 (by decide) (by decide)).trans (by simp [upR, upK, z5_2])
  have z6_3 : R_6 0 3 = some 15 := (r_6 0 3 (by decide) (by decide)).trans (by simp [upR, upK, z5_3])
  have z6_4 : R_6 0 4 = some 17 := (r_6 0 4 (by decide) (by decide)).trans (by simp [upR, upK])
  have e_6 : ∀ a k, a ≠ 0 → a < 18 → R_6 a k = R_5 a k := fun a k q1 q2 => (r_6 a k (by omega) (by omega)).trans (by rw [upR_n (by omega), upR_n q1])
  have o_6 : I_6 1 1 = 0 := by rw [i_6 1 (by decide)]; rw [upA_n (by decide)]; exact o_5
  refine w_putRF (pc' := 90) k68_87 rfl rfl (by decide) ?_
  refine w_aload (pc' := 91) k68_90 rfl rfl ?_
  refine w_new (pc' := 94) (q := 21) k68_91 rfl rfl (by refine ⟨?_, ?_, by decide⟩ <;> omega) ?_
  refine w_dup (pc' := 95) k68_94 rfl ?_
  refine w_aload (pc' := 96) k68_95 rfl rfl ?_
  refine w_getR (pc' := 99) (v := 3) k68_96 rfl rfl (by simp [upR, upK, z6_1]) ?_
  refine w_aload (pc' := 100) k68_99 rfl rfl ?_
  refine w_getR (pc' := 103) (v := 12) k68_100 rfl rfl (by simp [upR, upK, z6_2]) ?_
  refine w_callM (pc' := 106) (as := [.inr (some 21), .inr (some 3), .inr (some 12)]) k68_103 rfl rfl (co_i (Or.inl rfl) rfl rfl) ⟨by omega, by omega⟩ (m35_21) (fun r_103 h_103 hq => ?_)
  obtain ⟨R_7, I_7, rfl, r_7, i_7, f21_0, f21_1, f21_2, f21_3, f21_4⟩ := hq
  have z7_0 : R_7 0 0 = some 1 := (r_7 0 0 (by decide) (by decide)).trans (by simp [upR, upK, z6_0])
  have z7_1 : R_7 0 1 = some 3 := (r_7 0 1 (by decide) (by decide)).trans (by simp [upR, upK, z6_1])
  have z7_2 : R_7 0 2 = some 12 := (r_7 0 2 (by decide) (by decide)).trans (by simp [upR, upK, z6_2])
  have z7_3 : R_7 0 3 = some 15 := (r_7 0 3 (by decide) (by decide)).trans (by simp [upR, upK, z6_3])
  have z7_4 : R_7 0 4 = some 17 := (r_7 0 4 (by decide) (by decide)).trans (by simp [upR, upK, z6_4])
  have z7_5 : R_7 0 5 = some 18 := (r_7 0 5 (by decide) (by decide)).trans (by simp [upR, upK])
  have e_7 : ∀ a k, a ≠ 0 → a < 21 → R_7 a k = R_6 a k := fun a k q1 q2 => (r_7 a k (by omega) (by omega)).trans (by rw [upR_n (by omega), upR_n q1])
  have o_7 : I_7 1 1 = 0 := by rw [i_7 1 (by decide)]; rw [upA_n (by decide)]; exact o_6
  refine w_putRF (pc' := 109) k68_106 rfl rfl (by decide) ?_
  refine w_aload (pc' := 110) k68_109 rfl rfl ?_
  refine w_new (pc' := 113) (q := 25) k68_110 rfl rfl (by refine ⟨?_, ?_, by decide⟩ <;> omega) ?_
  refine w_dup (pc' := 114) k68_113 rfl ?_
  refine w_callM (pc' := 117) (as := [.inr (some 25)]) k68_114 rfl rfl (co_i (Or.inr rfl) rfl rfl) ⟨by omega, by omega⟩ (m45_25) (fun r_114 h_114 hq => ?_)
  obtain ⟨R_8, I_8, rfl, r_8, i_8, f25_0, f25_1, f25_2, f25_3, f25_4, f25_6⟩ := hq
  have z8_0 : R_8 0 0 = some 1 := (r_8 0 0 (by decide) (by decide)).trans (by simp [upR, upK, z7_0])
  have z8_1 : R_8 0 1 = some 3 := (r_8 0 1 (by decide) (by decide)).trans (by simp [upR, upK, z7_1])
  have z8_2 : R_8 0 2 = some 12 := (r_8 0 2 (by decide) (by decide)).trans (by simp [upR, upK, z7_2])
  have z8_3 : R_8 0 3 = some 15 := (r_8 0 3 (by decide) (by decide)).trans (by simp [upR, upK, z7_3])
  have z8_4 : R_8 0 4 = some 17 := (r_8 0 4 (by decide) (by decide)).trans (by simp [upR, upK, z7_4])
  have z8_5 : R_8 0 5 = some 18 := (r_8 0 5 (by decide) (by decide)).trans (by simp [upR, upK, z7_5])
  have z8_6 : R_8 0 6 = some 21 := (r_8 0 6 (by decide) (by decide)).trans (by simp [upR, upK])
  have e_8 : ∀ a k, a ≠ 0 → a < 25 → R_8 a k = R_7 a k := fun a k q1 q2 => (r_8 a k (by omega) (by omega)).trans (by rw [upR_n (by omega), upR_n q1])
  have o_8 : I_8 1 1 = 0 := by rw [i_8 1 (by decide)]; rw [upA_n (by decide)]; exact o_7
  refine w_putR (pc' := 120) k68_117 rfl rfl (by decide) ?_
  refine w_aload (pc' := 121) k68_120 rfl rfl ?_
  refine w_new (pc' := 124) (q := 32) k68_121 rfl rfl (by refine ⟨?_, ?_, by decide⟩ <;> omega) ?_
  refine w_dup (pc' := 125) k68_124 rfl ?_
  refine w_callM (pc' := 128) (as := [.inr (some 32)]) k68_125 rfl rfl (co_i (Or.inr rfl) rfl rfl) ⟨by omega, by omega⟩ (m45_32) (fun r_125 h_125 hq => ?_)
  obtain ⟨R_9, I_9, rfl, r_9, i_9, f32_0, f32_1, f32_2, f32_3, f32_4, f32_6⟩ := hq
  have z9_0 : R_9 0 0 = some 1 := (r_9 0 0 (by decide) (by decide)).trans (by simp [upR, upK, z8_0])
  have z9_1 : R_9 0 1 = some 3 := (r_9 0 1 (by decide) (by decide)).trans (by simp [upR, upK, z8_1])
  have z9_2 : R_9 0 2 = some 12 := (r_9 0 2 (by decide) (by decide)).trans (by simp [upR, upK, z8_2])
  have z9_3 : R_9 0 3 = some 15 := (r_9 0 3 (by decide) (by decide)).trans (by simp [upR, upK, z8_3])
  have z9_4 : R_9 0 4 = some 17 := (r_9 0 4 (by decide) (by decide)).trans (by simp [upR, upK, z8_4])
  have z9_5 : R_9 0 5 = some 18 := (r_9 0 5 (by decide) (by decide)).trans (by simp [upR, upK, z8_5])
  have z9_6 : R_9 0 6 = some 21 := (r_9 0 6 (by decide) (by decide)).trans (by simp [upR, upK, z8_6])
  have z9_7 : R_9 0 7 = some 25 := (r_9 0 7 (by decide) (by decide)).trans (by simp [upR, upK])
  have e_9 : ∀ a k, a ≠ 0 → a < 32 → R_9 a k = R_8 a k := fun a k q1 q2 => (r_9 a k (by omega) (by omega)).trans (by rw [upR_n (by omega), upR_n q1])
  have o_9 : I_9 1 1 = 0 := by rw [i_9 1 (by decide)]; rw [upA_n (by decide)]; exact o_8
  refine w_putR (pc' := 131) k68_128 rfl rfl (by decide) ?_
  refine w_aload (pc' := 132) k68_131 rfl rfl ?_
  refine w_new (pc' := 135) (q := 39) k68_132 rfl rfl (by refine ⟨?_, ?_, by decide⟩ <;> omega) ?_
  refine w_dup (pc' := 136) k68_135 rfl ?_
  refine w_callM (pc' := 139) (as := [.inr (some 39)]) k68_136 rfl rfl (co_i (Or.inr rfl) rfl rfl) ⟨by omega, by omega⟩ (m45_39) (fun r_136 h_136 hq => ?_)
  obtain ⟨R_10, I_10, rfl, r_10, i_10, f39_0, f39_1, f39_2, f39_3, f39_4, f39_6⟩ := hq
  have z10_0 : R_10 0 0 = some 1 := (r_10 0 0 (by decide) (by decide)).trans (by simp [upR, upK, z9_0])
  have z10_1 : R_10 0 1 = some 3 := (r_10 0 1 (by decide) (by decide)).trans (by simp [upR, upK, z9_1])
  have z10_2 : R_10 0 2 = some 12 := (r_10 0 2 (by decide) (by decide)).trans (by simp [upR, upK, z9_2])
  have z10_3 : R_10 0 3 = some 15 := (r_10 0 3 (by decide) (by decide)).trans (by simp [upR, upK, z9_3])
  have z10_4 : R_10 0 4 = some 17 := (r_10 0 4 (by decide) (by decide)).trans (by simp [upR, upK, z9_4])
  have z10_5 : R_10 0 5 = some 18 := (r_10 0 5 (by decide) (by decide)).trans (by simp [upR, upK, z9_5])
  have z10_6 : R_10 0 6 = some 21 := (r_10 0 6 (by decide) (by decide)).trans (by simp [upR, upK, z9_6])
  have z10_7 : R_10 0 7 = some 25 := (r_10 0 7 (by decide) (by decide)).trans (by simp [upR, upK, z9_7])
  have z10_8 : R_10 0 8 = some 32 := (r_10 0 8 (by decide) (by decide)).trans (by simp [upR, upK])
  have e_10 : ∀ a k, a ≠ 0 → a < 39 → R_10 a k = R_9 a k := fun a k q1 q2 => (r_10 a k (by omega) (by omega)).trans (by rw [upR_n (by omega), upR_n q1])
  have o_10 : I_10 1 1 = 0 := by rw [i_10 1 (by decide)]; rw [upA_n (by decide)]; exact o_9
  refine w_putR (pc' := 142) k68_139 rfl rfl (by decide) ?_
  refine w_aload (pc' := 143) k68_142 rfl rfl ?_
  refine w_new (pc' := 146) (q := 46) k68_143 rfl rfl (by refine ⟨?_, ?_, by decide⟩ <;> omega) ?_
  refine w_dup (pc' := 147) k68_146 rfl ?_
  refine w_callM (pc' := 150) (as := [.inr (some 46)]) k68_147 rfl rfl (co_i (Or.inr rfl) rfl rfl) ⟨by omega, by omega⟩ (m45_46) (fun r_147 h_147 hq => ?_)
  obtain ⟨R_11, I_11, rfl, r_11, i_11, f46_0, f46_1, f46_2, f46_3, f46_4, f46_6⟩ := hq
  have z11_0 : R_11 0 0 = some 1 := (r_11 0 0 (by decide) (by decide)).trans (by simp [upR, upK, z10_0])
  have z11_1 : R_11 0 1 = some 3 := (r_11 0 1 (by decide) (by decide)).trans (by simp [upR, upK, z10_1])
  have z11_2 : R_11 0 2 = some 12 := (r_11 0 2 (by decide) (by decide)).trans (by simp [upR, upK, z10_2])
  have z11_3 : R_11 0 3 = some 15 := (r_11 0 3 (by decide) (by decide)).trans (by simp [upR, upK, z10_3])
  have z11_4 : R_11 0 4 = some 17 := (r_11 0 4 (by decide) (by decide)).trans (by simp [upR, upK, z10_4])
  have z11_5 : R_11 0 5 = some 18 := (r_11 0 5 (by decide) (by decide)).trans (by simp [upR, upK, z10_5])
  have z11_6 : R_11 0 6 = some 21 := (r_11 0 6 (by decide) (by decide)).trans (by simp [upR, upK, z10_6])
  have z11_7 : R_11 0 7 = some 25 := (r_11 0 7 (by decide) (by decide)).trans (by simp [upR, upK, z10_7])
  have z11_8 : R_11 0 8 = some 32 := (r_11 0 8 (by decide) (by decide)).trans (by simp [upR, upK, z10_8])
  have z11_9 : R_11 0 9 = some 39 := (r_11 0 9 (by decide) (by decide)).trans (by simp [upR, upK])
  have e_11 : ∀ a k, a ≠ 0 → a < 46 → R_11 a k = R_10 a k := fun a k q1 q2 => (r_11 a k (by omega) (by omega)).trans (by rw [upR_n (by omega), upR_n q1])
  have o_11 : I_11 1 1 = 0 := by rw [i_11 1 (by decide)]; rw [upA_n (by decide)]; exact o_10
  refine w_putR (pc' := 153) k68_150 rfl rfl (by decide) ?_
  refine kk _ _ _ _ ⟨fun a q h => h, fun a k v h => ?_⟩ ⟨by simp [upR, upK, z11_7], by simp [upR, upK, z11_8], by simp [upR, upK, z11_9], by simp [upR, upK]⟩ (fun s hs => ?_) o_11 (by omega) (by omega)
  · have h2 := rC_in h
    simp only [rcL, List.mem_cons, List.mem_nil_iff, or_false, Prod.mk.injEq, List.not_mem_nil] at h2
    rcases h2 with ⟨rfl, rfl, rfl⟩ | ⟨rfl, rfl, rfl⟩ | ⟨rfl, rfl, rfl⟩ | ⟨rfl, rfl, rfl⟩ | ⟨rfl, rfl, rfl⟩ | ⟨rfl, rfl, rfl⟩ | ⟨rfl, rfl, rfl⟩ | ⟨rfl, rfl, rfl⟩ | ⟨rfl, rfl, rfl⟩ | ⟨rfl, rfl, rfl⟩ | ⟨rfl, rfl, rfl⟩ | ⟨rfl, rfl, rfl⟩ | ⟨rfl, rfl, rfl⟩ | ⟨rfl, rfl, rfl⟩ | ⟨rfl, rfl, rfl⟩ | ⟨rfl, rfl, rfl⟩ | ⟨rfl, rfl, rfl⟩ | ⟨rfl, rfl, rfl⟩ | ⟨rfl, rfl, rfl⟩ | ⟨rfl, rfl, rfl⟩ | ⟨rfl, rfl, rfl⟩ | ⟨rfl, rfl, rfl⟩ | ⟨rfl, rfl, rfl⟩ | ⟨rfl, rfl, rfl⟩ | ⟨rfl, rfl, rfl⟩ | ⟨rfl, rfl, rfl⟩ | ⟨rfl, rfl, rfl⟩ | ⟨rfl, rfl, rfl⟩ | ⟨rfl, rfl, rfl⟩ | ⟨rfl, rfl, rfl⟩ | ⟨rfl, rfl, rfl⟩ | ⟨rfl, rfl, rfl⟩ | ⟨rfl, rfl, rfl⟩ | ⟨rfl, rfl, rfl⟩ | ⟨rfl, rfl, rfl⟩ | ⟨rfl, rfl, rfl⟩ | ⟨rfl, rfl, rfl⟩ | ⟨rfl, rfl, rfl⟩ | ⟨rfl, rfl, rfl⟩ | ⟨rfl, rfl, rfl⟩ | ⟨rfl, rfl, rfl⟩ | ⟨rfl, rfl, rfl⟩ | ⟨rfl, rfl, rfl⟩ | ⟨rfl, rfl, rfl⟩ | ⟨rfl, rfl, rfl⟩ | ⟨rfl, rfl, rfl⟩ | ⟨rfl, rfl, rfl⟩ | ⟨rfl, rfl, rfl⟩ | ⟨rfl, rfl, rfl⟩ | ⟨rfl, rfl, rfl⟩ | ⟨rfl, rfl, rfl⟩
    · simp [upR, upK, z11_0]
    · simp [upR, upK, z11_1]
    · simp [upR, upK, z11_2]
    · simp [upR, upK, z11_3]
    · simp [upR, upK, z11_4]
    · simp [upR, upK, z11_5]
    · simp [upR, upK, z11_6]
    · rw [upR_n (by decide)]; exact (e_11 1 0 (by decide) (by decide)).trans ((e_10 1 0 (by decide) (by decide)).trans ((e_9 1 0 (by decide) (by decide)).trans ((e_8 1 0 (by decide) (by decide)).trans ((e_7 1 0 (by decide) (by decide)).trans ((e_6 1 0 (by decide) (by decide)).trans ((e_5 1 0 (by decide) (by decide)).trans ((e_4 1 0 (by decide) (by decide)).trans ((e_3 1 0 (by decide) (by decide)).trans ((e_2 1 0 (by decide) (by decide)).trans f1_0)))))))))
    · rw [upR_n (by decide)]; exact (e_11 3 6 (by decide) (by decide)).trans ((e_10 3 6 (by decide) (by decide)).trans ((e_9 3 6 (by decide) (by decide)).trans ((e_8 3 6 (by decide) (by decide)).trans ((e_7 3 6 (by decide) (by decide)).trans ((e_6 3 6 (by decide) (by decide)).trans ((e_5 3 6 (by decide) (by decide)).trans ((e_4 3 6 (by decide) (by decide)).trans ((e_3 3 6 (by decide) (by decide)).trans f3_6))))))))
    · rw [upR_n (by decide)]; exact (e_11 3 7 (by decide) (by decide)).trans ((e_10 3 7 (by decide) (by decide)).trans ((e_9 3 7 (by decide) (by decide)).trans ((e_8 3 7 (by decide) (by decide)).trans ((e_7 3 7 (by decide) (by decide)).trans ((e_6 3 7 (by decide) (by decide)).trans ((e_5 3 7 (by decide) (by decide)).trans ((e_4 3 7 (by decide) (by decide)).trans ((e_3 3 7 (by decide) (by decide)).trans f3_7))))))))
    · rw [upR_n (by decide)]; exact (e_11 3 8 (by decide) (by decide)).trans ((e_10 3 8 (by decide) (by decide)).trans ((e_9 3 8 (by decide) (by decide)).trans ((e_8 3 8 (by decide) (by decide)).trans ((e_7 3 8 (by decide) (by decide)).trans ((e_6 3 8 (by decide) (by decide)).trans ((e_5 3 8 (by decide) (by decide)).trans ((e_4 3 8 (by decide) (by decide)).trans ((e_3 3 8 (by decide) (by decide)).trans f3_8))))))))
    · rw [upR_n (by decide)]; exact (e_11 3 9 (by decide) (by decide)).trans ((e_10 3 9 (by decide) (by decide)).trans ((e_9 3 9 (by decide) (by decide)).trans ((e_8 3 9 (by decide) (by decide)).trans ((e_7 3 9 (by decide) (by decide)).trans ((e_6 3 9 (by decide) (by decide)).trans ((e_5 3 9 (by decide) (by decide)).trans ((e_4 3 9 (by decide) (by decide)).trans ((e_3 3 9 (by decide) (by decide)).trans f3_9))))))))
    · rw [upR_n (by decide)]; exact (e_11 3 10 (by decide) (by decide)).trans ((e_10 3 10 (by decide) (by decide)).trans ((e_9 3 10 (by decide) (by decide)).trans ((e_8 3 10 (by decide) (by decide)).trans ((e_7 3 10 (by decide) (by decide)).trans ((e_6 3 10 (by decide) (by decide)).trans ((e_5 3 10 (by decide) (by decide)).trans ((e_4 3 10 (by decide) (by decide)).trans ((e_3 3 10 (by decide) (by decide)).trans f3_10))))))))
    · rw [upR_n (by decide)]; exact (e_11 3 11 (by decide) (by decide)).trans ((e_10 3 11 (by decide) (by decide)).trans ((e_9 3 11 (by decide) (by decide)).trans ((e_8 3 11 (by decide) (by decide)).trans ((e_7 3 11 (by decide) (by decide)).trans ((e_6 3 11 (by decide) (by decide)).trans ((e_5 3 11 (by decide) (by decide)).trans ((e_4 3 11 (by decide) (by decide)).trans ((e_3 3 11 (by decide) (by decide)).trans f3_11))))))))
    · rw [upR_n (by decide)]; exact (e_11 3 12 (by decide) (by decide)).trans ((e_10 3 12 (by decide) (by decide)).trans ((e_9 3 12 (by decide) (by decide)).trans ((e_8 3 12 (by decide) (by decide)).trans ((e_7 3 12 (by decide) (by decide)).trans ((e_6 3 12 (by decide) (by decide)).trans ((e_5 3 12 (by decide) (by decide)).trans ((e_4 3 12 (by decide) (by decide)).trans ((e_3 3 12 (by decide) (by decide)).trans f3_12))))))))
    · rw [upR_n (by decide)]; exact (e_11 3 13 (by decide) (by decide)).trans ((e_10 3 13 (by decide) (by decide)).trans ((e_9 3 13 (by decide) (by decide)).trans ((e_8 3 13 (by decide) (by decide)).trans ((e_7 3 13 (by decide) (by decide)).trans ((e_6 3 13 (by decide) (by decide)).trans ((e_5 3 13 (by decide) (by decide)).trans ((e_4 3 13 (by decide) (by decide)).trans ((e_3 3 13 (by decide) (by decide)).trans f3_13))))))))
    · rw [upR_n (by decide)]; exact (e_11 12 0 (by decide) (by decide)).trans ((e_10 12 0 (by decide) (by decide)).trans ((e_9 12 0 (by decide) (by decide)).trans ((e_8 12 0 (by decide) (by decide)).trans ((e_7 12 0 (by decide) (by decide)).trans ((e_6 12 0 (by decide) (by decide)).trans ((e_5 12 0 (by decide) (by decide)).trans ((e_4 12 0 (by decide) (by decide)).trans f12_0)))))))
    · rw [upR_n (by decide)]; exact (e_11 12 1 (by decide) (by decide)).trans ((e_10 12 1 (by decide) (by decide)).trans ((e_9 12 1 (by decide) (by decide)).trans ((e_8 12 1 (by decide) (by decide)).trans ((e_7 12 1 (by decide) (by decide)).trans ((e_6 12 1 (by decide) (by decide)).trans ((e_5 12 1 (by decide) (by decide)).trans ((e_4 12 1 (by decide) (by decide)).trans f12_1)))))))
    · rw [upR_n (by decide)]; exact (e_11 12 2 (by decide) (by decide)).trans ((e_10 12 2 (by decide) (by decide)).trans ((e_9 12 2 (by decide) (by decide)).trans ((e_8 12 2 (by decide) (by decide)).trans ((e_7 12 2 (by decide) (by decide)).trans ((e_6 12 2 (by decide) (by decide)).trans ((e_5 12 2 (by decide) (by decide)).trans ((e_4 12 2 (by decide) (by decide)).trans f12_2)))))))
    · rw [upR_n (by decide)]; exact (e_11 15 0 (by decide) (by decide)).trans ((e_10 15 0 (by decide) (by decide)).trans ((e_9 15 0 (by decide) (by decide)).trans ((e_8 15 0 (by decide) (by decide)).trans ((e_7 15 0 (by decide) (by decide)).trans ((e_6 15 0 (by decide) (by decide)).trans ((e_5 15 0 (by decide) (by decide)).trans f15_0))))))
    · rw [upR_n (by decide)]; exact (e_11 15 1 (by decide) (by decide)).trans ((e_10 15 1 (by decide) (by decide)).trans ((e_9 15 1 (by decide) (by decide)).trans ((e_8 15 1 (by decide) (by decide)).trans ((e_7 15 1 (by decide) (by decide)).trans ((e_6 15 1 (by decide) (by decide)).trans ((e_5 15 1 (by decide) (by decide)).trans f15_1))))))
    · rw [upR_n (by decide)]; exact (e_11 17 0 (by decide) (by decide)).trans ((e_10 17 0 (by decide) (by decide)).trans ((e_9 17 0 (by decide) (by decide)).trans ((e_8 17 0 (by decide) (by decide)).trans ((e_7 17 0 (by decide) (by decide)).trans ((e_6 17 0 (by decide) (by decide)).trans f17_0)))))
    · rw [upR_n (by decide)]; exact (e_11 18 0 (by decide) (by decide)).trans ((e_10 18 0 (by decide) (by decide)).trans ((e_9 18 0 (by decide) (by decide)).trans ((e_8 18 0 (by decide) (by decide)).trans ((e_7 18 0 (by decide) (by decide)).trans f18_0))))
    · rw [upR_n (by decide)]; exact (e_11 18 1 (by decide) (by decide)).trans ((e_10 18 1 (by decide) (by decide)).trans ((e_9 18 1 (by decide) (by decide)).trans ((e_8 18 1 (by decide) (by decide)).trans ((e_7 18 1 (by decide) (by decide)).trans f18_1))))
    · rw [upR_n (by decide)]; exact (e_11 18 2 (by decide) (by decide)).trans ((e_10 18 2 (by decide) (by decide)).trans ((e_9 18 2 (by decide) (by decide)).trans ((e_8 18 2 (by decide) (by decide)).trans ((e_7 18 2 (by decide) (by decide)).trans f18_2))))
    · rw [upR_n (by decide)]; exact (e_11 18 3 (by decide) (by decide)).trans ((e_10 18 3 (by decide) (by decide)).trans ((e_9 18 3 (by decide) (by decide)).trans ((e_8 18 3 (by decide) (by decide)).trans ((e_7 18 3 (by decide) (by decide)).trans f18_3))))
    · rw [upR_n (by decide)]; exact (e_11 21 0 (by decide) (by decide)).trans ((e_10 21 0 (by decide) (by decide)).trans ((e_9 21 0 (by decide) (by decide)).trans ((e_8 21 0 (by decide) (by decide)).trans f21_0)))
    · rw [upR_n (by decide)]; exact (e_11 21 1 (by decide) (by decide)).trans ((e_10 21 1 (by decide) (by decide)).trans ((e_9 21 1 (by decide) (by decide)).trans ((e_8 21 1 (by decide) (by decide)).trans f21_1)))
    · rw [upR_n (by decide)]; exact (e_11 21 2 (by decide) (by decide)).trans ((e_10 21 2 (by decide) (by decide)).trans ((e_9 21 2 (by decide) (by decide)).trans ((e_8 21 2 (by decide) (by decide)).trans f21_2)))
    · rw [upR_n (by decide)]; exact (e_11 21 3 (by decide) (by decide)).trans ((e_10 21 3 (by decide) (by decide)).trans ((e_9 21 3 (by decide) (by decide)).trans ((e_8 21 3 (by decide) (by decide)).trans f21_3)))
    · rw [upR_n (by decide)]; exact (e_11 21 4 (by decide) (by decide)).trans ((e_10 21 4 (by decide) (by decide)).trans ((e_9 21 4 (by decide) (by decide)).trans ((e_8 21 4 (by decide) (by decide)).trans f21_4)))
    · rw [upR_n (by decide)]; exact (e_11 25 0 (by decide) (by decide)).trans ((e_10 25 0 (by decide) (by decide)).trans ((e_9 25 0 (by decide) (by decide)).trans f25_0))
    · rw [upR_n (by decide)]; exact (e_11 25 1 (by decide) (by decide)).trans ((e_10 25 1 (by decide) (by decide)).trans ((e_9 25 1 (by decide) (by decide)).trans f25_1))
    · rw [upR_n (by decide)]; exact (e_11 25 2 (by decide) (by decide)).trans ((e_10 25 2 (by decide) (by decide)).trans ((e_9 25 2 (by decide) (by decide)).trans f25_2))
    · rw [upR_n (by decide)]; exact (e_11 25 3 (by decide) (by decide)).trans ((e_10 25 3 (by decide) (by decide)).trans ((e_9 25 3 (by decide) (by decide)).trans f25_3))
    · rw [upR_n (by decide)]; exact (e_11 25 4 (by decide) (by decide)).trans ((e_10 25 4 (by decide) (by decide)).trans ((e_9 25 4 (by decide) (by decide)).trans f25_4))
    · rw [upR_n (by decide)]; exact (e_11 32 0 (by decide) (by decide)).trans ((e_10 32 0 (by decide) (by decide)).trans f32_0)
    · rw [upR_n (by decide)]; exact (e_11 32 1 (by decide) (by decide)).trans ((e_10 32 1 (by decide) (by decide)).trans f32_1)
    · rw [upR_n (by decide)]; exact (e_11 32 2 (by decide) (by decide)).trans ((e_10 32 2 (by decide) (by decide)).trans f32_2)
    · rw [upR_n (by decide)]; exact (e_11 32 3 (by decide) (by decide)).trans ((e_10 32 3 (by decide) (by decide)).trans f32_3)
    · rw [upR_n (by decide)]; exact (e_11 32 4 (by decide) (by decide)).trans ((e_10 32 4 (by decide) (by decide)).trans f32_4)
    · rw [upR_n (by decide)]; exact (e_11 39 0 (by decide) (by decide)).trans f39_0
    · rw [upR_n (by decide)]; exact (e_11 39 1 (by decide) (by decide)).trans f39_1
    · rw [upR_n (by decide)]; exact (e_11 39 2 (by decide) (by decide)).trans f39_2
    · rw [upR_n (by decide)]; exact (e_11 39 3 (by decide) (by decide)).trans f39_3
    · rw [upR_n (by decide)]; exact (e_11 39 4 (by decide) (by decide)).trans f39_4
    · rw [upR_n (by decide)]; exact f46_0
    · rw [upR_n (by decide)]; exact f46_1
    · rw [upR_n (by decide)]; exact f46_2
    · rw [upR_n (by decide)]; exact f46_3
    · rw [upR_n (by decide)]; exact f46_4
  · rcases hs with rfl | rfl | rfl | rfl
    · rw [upR_n (by decide)]; exact (e_11 25 6 (by decide) (by decide)).trans ((e_10 25 6 (by decide) (by decide)).trans ((e_9 25 6 (by decide) (by decide)).trans f25_6))
    · rw [upR_n (by decide)]; exact (e_11 32 6 (by decide) (by decide)).trans ((e_10 32 6 (by decide) (by decide)).trans f32_6)
    · rw [upR_n (by decide)]; exact (e_11 39 6 (by decide) (by decide)).trans f39_6
    · rw [upR_n (by decide)]; exact f46_6
end C56
