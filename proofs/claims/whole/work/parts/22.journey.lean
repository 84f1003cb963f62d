/-! ===== CLASS: Journey, from a middle; on; whole ways ===== -/
section C22
variable {X : Nat × (Int → Int)} {d : Nat} {sh : List (Nat × Nat)} {R : Nat → Nat → Option Nat} {I : Nat → Int → Int} {s g_s M_s : Nat} {K H E HO S L B : Int} {A : AS}
theorem srM_no {k : Int → Bool} {n b s : Int} (hk : k (b / H * H + (n - E) % H) = false) : ∀ (t : Nat) (x : Int), srM H E k n b s t x = -2
  | 0, _ => rfl
  | t + 1, x => by
    rw [srM, if_neg (by unfold leadsM; rw [hk]; simp)]
    exact srM_no hk t (x + 1)
theorem m10l (hF : CF sh R I K H E HO S L B s g_s M_s A) {n b ss : Int} (hn : E ≤ n ∧ n < 2 * E) (hb : 0 ≤ b ∧ b < HO) (hs : 0 ≤ ss ∧ ss < H * H) (hk0 : ev (aMk A n (b / H * H + (n - E) % H)) = true) {N : Nat} (hN : H = (N : Int)) : ∀ (k t : Nat) (x : Int) (v10 v11 : VV), t + k = N → x = (t : Int) → WP X (d + 2) 10 92 [.inr (some 12), .inr (some s), .inl n, .inl b, .inl ss, .inl (b / H), .inl ((n - E) % H), .inl (E + b / H / H * H + (n - E) % H), .inl (b % H + (n - E) % H + ss % H), .inl x, v10, v11] [] (sh, R, I) 0 0 (fun r h' => r = .inl (srM H E (fun l => ev (aMk A n l)) n b ss k x) ∧ h' = (sh, R, I)) := by
  have hF0 := hF
  obtain ⟨hL, hK, hsp, h_s, m_s, n_s, hg, hM, hLS, hcs, hab, hB⟩ := hF
  have hr := hK.r
  intro k
  induction k with
  | zero =>
    rintro t x v10 v11 hk rfl
    refine w_iload (pc' := 94) k10_92 rfl rfl ?_
    refine w_aload (pc' := 95) k10_94 rfl rfl ?_
    refine w_getR (pc' := 98) (v := 3) k10_95 rfl (hL.1 12 (3, 5) rfl) (hL.2 12 0 3 rfl) ?_
    refine w_getI (pc' := 101) (ki := 1) (v := H) k10_98 rfl (hL.1 3 (5, 14) rfl) rfl hsp.2.1 ?_
    refine w_ic_ge (pc' := 104) k10_101 rfl (fun c_101 => ?_) (fun c_101 => absurd c_101 (by omega))
    refine w_c2 (pc' := 170) k10_168 rfl ?_
    exact w_reti k10_170 ⟨rfl, rfl⟩
  | succ k ih =>
    rintro t x v10 v11 hk rfl
    have hj : 0 ≤ (b % H + (n - E) % H + ss % H + (t : Int)) % H ∧ (b % H + (n - E) % H + ss % H + (t : Int)) % H < H := ⟨Int.emod_nonneg _ (by omega), Int.emod_lt_of_pos _ (by omega)⟩
    have hf0 : 0 ≤ b % H + (n - E) % H + ss % H ∧ b % H + (n - E) % H + ss % H ≤ 9 := by
      clear ih hj
      rcases hK with ⟨rfl, rfl, rfl, rfl, rfl, rfl⟩ | ⟨rfl, rfl, rfl, rfl, rfl, rfl⟩ | ⟨rfl, rfl, rfl, rfl, rfl, rfl⟩ <;> omega
    refine w_iload (pc' := 94) k10_92 rfl rfl ?_
    refine w_aload (pc' := 95) k10_94 rfl rfl ?_
    refine w_getR (pc' := 98) (v := 3) k10_95 rfl (hL.1 12 (3, 5) rfl) (hL.2 12 0 3 rfl) ?_
    refine w_getI (pc' := 101) (ki := 1) (v := H) k10_98 rfl (hL.1 3 (5, 14) rfl) rfl hsp.2.1 ?_
    refine w_ic_ge (pc' := 104) k10_101 rfl (fun c_101 => absurd c_101 (by omega)) (fun c_101 => ?_)
    refine w_aload (pc' := 105) k10_104 rfl rfl ?_
    refine w_getR (pc' := 108) (v := 3) k10_105 rfl (hL.1 12 (3, 5) rfl) (hL.2 12 0 3 rfl) ?_
    refine w_iload (pc' := 110) k10_108 rfl rfl ?_
    refine w_iload (pc' := 112) k10_110 rfl rfl ?_
    refine w_iadd (pc' := 113) k10_112 rfl (by first | omega | (rcases hK with ⟨rfl, rfl, rfl, rfl, rfl, rfl⟩ | ⟨rfl, rfl, rfl, rfl, rfl, rfl⟩ | ⟨rfl, rfl, rfl, rfl, rfl, rfl⟩ <;> omega)) ?_
    refine w_callE (pc' := 116) (as := [.inr (some 3), .inl _]) k10_113 rfl rfl (co_v rfl rfl (hL.1 3 (5, 14) rfl)) (by decide) (m33 hF0 (by first | omega | (rcases hK with ⟨rfl, rfl, rfl, rfl, rfl, rfl⟩ | ⟨rfl, rfl, rfl, rfl, rfl, rfl⟩ | ⟨rfl, rfl, rfl, rfl, rfl, rfl⟩ <;> omega))) ?_
    refine w_istore (pc' := 118) (ls' := [_, _, _, _, _, _, _, _, _, _, _, _]) k10_116 rfl rfl rfl ?_
    generalize hje : (b % H + (n - E) % H + ss % H + (t : Int)) % H = j at hj ⊢
    refine w_aload (pc' := 119) k10_118 rfl rfl ?_
    refine w_getR (pc' := 122) (v := 3) k10_119 rfl (hL.1 12 (3, 5) rfl) (hL.2 12 0 3 rfl) ?_
    refine w_iload (pc' := 123) k10_122 rfl rfl ?_
    refine w_iload (pc' := 125) k10_123 rfl rfl ?_
    refine w_callE (pc' := 128) (as := [.inr (some 3), .inl _, .inl _]) k10_125 rfl rfl (co_v rfl rfl (hL.1 3 (5, 14) rfl)) (by decide) (m31 hF0 (by first | omega | (rcases hK with ⟨rfl, rfl, rfl, rfl, rfl, rfl⟩ | ⟨rfl, rfl, rfl, rfl, rfl, rfl⟩ | ⟨rfl, rfl, rfl, rfl, rfl, rfl⟩ <;> omega)) (by first | omega | (rcases hK with ⟨rfl, rfl, rfl, rfl, rfl, rfl⟩ | ⟨rfl, rfl, rfl, rfl, rfl, rfl⟩ | ⟨rfl, rfl, rfl, rfl, rfl, rfl⟩ <;> omega))) ?_
    refine w_istore (pc' := 130) (ls' := [_, _, _, _, _, _, _, _, _, _, _, _]) k10_128 rfl rfl rfl ?_
    refine w_aload (pc' := 131) k10_130 rfl rfl ?_
    refine w_iload (pc' := 132) k10_131 rfl rfl ?_
    refine w_iload (pc' := 134) k10_132 rfl rfl ?_
    refine w_callB (pc' := 137) (as := [.inr (some s), .inl _, .inl _]) k10_134 rfl rfl (co_v rfl rfl (hL.s0 h_s)) (by decide) (m52 hF0 (by first | omega | (rcases hK with ⟨rfl, rfl, rfl, rfl, rfl, rfl⟩ | ⟨rfl, rfl, rfl, rfl, rfl, rfl⟩ | ⟨rfl, rfl, rfl, rfl, rfl, rfl⟩ <;> omega)) (by first | omega | (rcases hK with ⟨rfl, rfl, rfl, rfl, rfl, rfl⟩ | ⟨rfl, rfl, rfl, rfl, rfl, rfl⟩ | ⟨rfl, rfl, rfl, rfl, rfl, rfl⟩ <;> omega))) (fun q_134 => ?_) (fun q_134 => ?_)
    · refine w_if_eq (pc' := 140) k10_137 rfl (fun c_137 => absurd c_137 (by decide)) (fun _ => ?_)
      refine w_aload (pc' := 141) k10_140 rfl rfl ?_
      refine w_iload (pc' := 142) k10_141 rfl rfl ?_
      refine w_aload (pc' := 143) k10_142 rfl rfl ?_
      refine w_getR (pc' := 146) (v := 3) k10_143 rfl (hL.1 12 (3, 5) rfl) (hL.2 12 0 3 rfl) ?_
      refine w_iload (pc' := 148) k10_146 rfl rfl ?_
      refine w_iload (pc' := 150) k10_148 rfl rfl ?_
      refine w_callE (pc' := 153) (as := [.inr (some 3), .inl _, .inl _]) k10_150 rfl rfl (co_v rfl rfl (hL.1 3 (5, 14) rfl)) (by decide) (m31 hF0 (by first | omega | (rcases hK with ⟨rfl, rfl, rfl, rfl, rfl, rfl⟩ | ⟨rfl, rfl, rfl, rfl, rfl, rfl⟩ | ⟨rfl, rfl, rfl, rfl, rfl, rfl⟩ <;> omega)) (by first | omega | (rcases hK with ⟨rfl, rfl, rfl, rfl, rfl, rfl⟩ | ⟨rfl, rfl, rfl, rfl, rfl, rfl⟩ | ⟨rfl, rfl, rfl, rfl, rfl, rfl⟩ <;> omega))) ?_
      refine w_callB (pc' := 156) (as := [.inr (some s), .inl _, .inl _]) k10_153 rfl rfl (co_v rfl rfl (hL.s0 h_s)) (by decide) (m52 hF0 (by first | omega | (rcases hK with ⟨rfl, rfl, rfl, rfl, rfl, rfl⟩ | ⟨rfl, rfl, rfl, rfl, rfl, rfl⟩ | ⟨rfl, rfl, rfl, rfl, rfl, rfl⟩ <;> omega)) (by first | omega | (rcases hK with ⟨rfl, rfl, rfl, rfl, rfl, rfl⟩ | ⟨rfl, rfl, rfl, rfl, rfl, rfl⟩ | ⟨rfl, rfl, rfl, rfl, rfl, rfl⟩ <;> omega))) (fun q_153 => ?_) (fun q_153 => ?_)
      · refine w_if_eq (pc' := 159) k10_156 rfl (fun c_156 => absurd c_156 (by decide)) (fun _ => ?_)
        refine w_iload (pc' := 161) k10_159 rfl rfl ?_
        exact w_reti k10_161 ⟨by rw [srM, hje, if_pos (by unfold leadsM; simp [q_134, q_153, hk0])], rfl⟩
      · refine w_if_eq (pc' := 159) k10_156 rfl (fun _ => ?_) (fun c_156 => absurd c_156 (by decide))
        refine w_iinc (pc' := 165) (ls' := [_, _, _, _, _, _, _, _, _, _, _, _]) k10_162 rfl rfl (by first | omega | (rcases hK with ⟨rfl, rfl, rfl, rfl, rfl, rfl⟩ | ⟨rfl, rfl, rfl, rfl, rfl, rfl⟩ | ⟨rfl, rfl, rfl, rfl, rfl, rfl⟩ <;> omega)) rfl ?_
        refine w_goto k10_165 ?_
        refine WP.mono (ih (t + 1) _ _ _ (by omega) (by omega)) (fun r h' hq => ?_)
        refine ⟨?_, hq.2⟩
        rw [hq.1, srM, hje, if_neg]
        unfold leadsM
        first | simp [q_134, q_153] | simp [q_134]
    · refine w_if_eq (pc' := 140) k10_137 rfl (fun _ => ?_) (fun c_137 => absurd c_137 (by decide))
      refine w_iinc (pc' := 165) (ls' := [_, _, _, _, _, _, _, _, _, _, _, _]) k10_162 rfl rfl (by first | omega | (rcases hK with ⟨rfl, rfl, rfl, rfl, rfl, rfl⟩ | ⟨rfl, rfl, rfl, rfl, rfl, rfl⟩ | ⟨rfl, rfl, rfl, rfl, rfl, rfl⟩ <;> omega)) rfl ?_
      refine w_goto k10_165 ?_
      refine WP.mono (ih (t + 1) _ _ _ (by omega) (by omega)) (fun r h' hq => ?_)
      refine ⟨?_, hq.2⟩
      rw [hq.1, srM, hje, if_neg]
      unfold leadsM
      first | simp [q_134, q_153] | simp [q_134]
theorem m10 (hF : CF sh R I K H E HO S L B s g_s M_s A) {n b ss : Int} (hn : E ≤ n ∧ n < 2 * E) (hb : 0 ≤ b ∧ b < HO) (hs : 0 ≤ ss ∧ ss < H * H) : RV X (d + 2) 10 [.inr (some 12), .inr (some s), .inl n, .inl b, .inl ss] (sh, R, I) (srM H E (fun l => ev (aMk A n l)) n b ss H.toNat 0) := by
  have hF0 := hF
  obtain ⟨hL, hK, hsp, h_s, m_s, n_s, hg, hM, hLS, hcs, hab, hB⟩ := hF
  have hr := hK.r
  show WP X (d + 2) 10 0 [.inr (some 12), .inr (some s), .inl n, .inl b, .inl ss, .inr none, .inr none, .inr none, .inr none, .inr none, .inr none, .inr none] [] (sh, R, I) 0 0 _
  refine w_aload (pc' := 1) k10_0 rfl rfl ?_
  refine w_getR (pc' := 4) (v := 3) k10_1 rfl (hL.1 12 (3, 5) rfl) (hL.2 12 0 3 rfl) ?_
  refine w_getR (pc' := 7) (v := 10) k10_4 rfl (hL.1 3 (5, 14) rfl) (hL.2 3 12 10 rfl) ?_
  refine w_iload (pc' := 8) k10_7 rfl rfl ?_
  refine w_iald (pc' := 9) (v := b / H) k10_8 rfl (hL.1 10 (0, 54) rfl) (by first | omega | (rcases hK with ⟨rfl, rfl, rfl, rfl, rfl, rfl⟩ | ⟨rfl, rfl, rfl, rfl, rfl, rfl⟩ | ⟨rfl, rfl, rfl, rfl, rfl, rfl⟩ <;> omega)) (hsp.2.2.2.2.2.2.2.2 b hb.1 hb.2).1 ?_
  refine w_istore (pc' := 11) (ls' := [_, _, _, _, _, _, _, _, _, _, _, _]) k10_9 rfl rfl rfl ?_
  refine w_aload (pc' := 12) k10_11 rfl rfl ?_
  refine w_getR (pc' := 15) (v := 3) k10_12 rfl (hL.1 12 (3, 5) rfl) (hL.2 12 0 3 rfl) ?_
  refine w_getR (pc' := 18) (v := 6) k10_15 rfl (hL.1 3 (5, 14) rfl) (hL.2 3 8 6 rfl) ?_
  refine w_iload (pc' := 19) k10_18 rfl rfl ?_
  refine w_iald (pc' := 20) (v := (n - E) % H) k10_19 rfl (hL.1 6 (0, 45) rfl) (by first | omega | (rcases hK with ⟨rfl, rfl, rfl, rfl, rfl, rfl⟩ | ⟨rfl, rfl, rfl, rfl, rfl, rfl⟩ | ⟨rfl, rfl, rfl, rfl, rfl, rfl⟩ <;> omega)) (((hsp.2.2.2.2.2.2.1 n (by first | omega | (rcases hK with ⟨rfl, rfl, rfl, rfl, rfl, rfl⟩ | ⟨rfl, rfl, rfl, rfl, rfl, rfl⟩ | ⟨rfl, rfl, rfl, rfl, rfl, rfl⟩ <;> omega)) (by first | omega | (rcases hK with ⟨rfl, rfl, rfl, rfl, rfl, rfl⟩ | ⟨rfl, rfl, rfl, rfl, rfl, rfl⟩ | ⟨rfl, rfl, rfl, rfl, rfl, rfl⟩ <;> omega)))).2.2.1.trans (place_m hn.1 hn.2)) ?_
  refine w_istore (pc' := 22) (ls' := [_, _, _, _, _, _, _, _, _, _, _, _]) k10_20 rfl rfl rfl ?_
  refine w_aload (pc' := 23) k10_22 rfl rfl ?_
  refine w_getR (pc' := 26) (v := 3) k10_23 rfl (hL.1 12 (3, 5) rfl) (hL.2 12 0 3 rfl) ?_
  refine w_aload (pc' := 27) k10_26 rfl rfl ?_
  refine w_getR (pc' := 30) (v := 3) k10_27 rfl (hL.1 12 (3, 5) rfl) (hL.2 12 0 3 rfl) ?_
  refine w_getR (pc' := 33) (v := 5) k10_30 rfl (hL.1 3 (5, 14) rfl) (hL.2 3 7 5 rfl) ?_
  refine w_iload (pc' := 35) k10_33 rfl rfl ?_
  refine w_iald (pc' := 36) (v := b / H / H) k10_35 rfl (hL.1 5 (0, 45) rfl) (by first | omega | (rcases hK with ⟨rfl, rfl, rfl, rfl, rfl, rfl⟩ | ⟨rfl, rfl, rfl, rfl, rfl, rfl⟩ | ⟨rfl, rfl, rfl, rfl, rfl, rfl⟩ <;> omega)) (((hsp.2.2.2.2.2.2.1 (b / H) (by first | omega | (rcases hK with ⟨rfl, rfl, rfl, rfl, rfl, rfl⟩ | ⟨rfl, rfl, rfl, rfl, rfl, rfl⟩ | ⟨rfl, rfl, rfl, rfl, rfl, rfl⟩ <;> omega)) (by first | omega | (rcases hK with ⟨rfl, rfl, rfl, rfl, rfl, rfl⟩ | ⟨rfl, rfl, rfl, rfl, rfl, rfl⟩ | ⟨rfl, rfl, rfl, rfl, rfl, rfl⟩ <;> omega)))).2.1.trans (pod_e (by first | omega | (rcases hK with ⟨rfl, rfl, rfl, rfl, rfl, rfl⟩ | ⟨rfl, rfl, rfl, rfl, rfl, rfl⟩ | ⟨rfl, rfl, rfl, rfl, rfl, rfl⟩ <;> omega)))) ?_
  refine w_iload (pc' := 38) k10_36 rfl rfl ?_
  refine w_callE (pc' := 41) (as := [.inr (some 3), .inl _, .inl _]) k10_38 rfl rfl (co_v rfl rfl (hL.1 3 (5, 14) rfl)) (by decide) (m29 hF0 (by first | omega | (rcases hK with ⟨rfl, rfl, rfl, rfl, rfl, rfl⟩ | ⟨rfl, rfl, rfl, rfl, rfl, rfl⟩ | ⟨rfl, rfl, rfl, rfl, rfl, rfl⟩ <;> omega)) (by first | omega | (rcases hK with ⟨rfl, rfl, rfl, rfl, rfl, rfl⟩ | ⟨rfl, rfl, rfl, rfl, rfl, rfl⟩ | ⟨rfl, rfl, rfl, rfl, rfl, rfl⟩ <;> omega))) ?_
  refine w_istore (pc' := 43) (ls' := [_, _, _, _, _, _, _, _, _, _, _, _]) k10_41 rfl rfl rfl ?_
  refine w_aload (pc' := 44) k10_43 rfl rfl ?_
  refine w_getR (pc' := 47) (v := 3) k10_44 rfl (hL.1 12 (3, 5) rfl) (hL.2 12 0 3 rfl) ?_
  refine w_getR (pc' := 50) (v := 11) k10_47 rfl (hL.1 3 (5, 14) rfl) (hL.2 3 13 11 rfl) ?_
  refine w_iload (pc' := 51) k10_50 rfl rfl ?_
  refine w_iald (pc' := 52) (v := b % H) k10_51 rfl (hL.1 11 (0, 54) rfl) (by first | omega | (rcases hK with ⟨rfl, rfl, rfl, rfl, rfl, rfl⟩ | ⟨rfl, rfl, rfl, rfl, rfl, rfl⟩ | ⟨rfl, rfl, rfl, rfl, rfl, rfl⟩ <;> omega)) (hsp.2.2.2.2.2.2.2.2 b hb.1 hb.2).2 ?_
  refine w_iload (pc' := 54) k10_52 rfl rfl ?_
  refine w_iadd (pc' := 55) k10_54 rfl (by first | omega | (rcases hK with ⟨rfl, rfl, rfl, rfl, rfl, rfl⟩ | ⟨rfl, rfl, rfl, rfl, rfl, rfl⟩ | ⟨rfl, rfl, rfl, rfl, rfl, rfl⟩ <;> omega)) ?_
  refine w_aload (pc' := 56) k10_55 rfl rfl ?_
  refine w_getR (pc' := 59) (v := 3) k10_56 rfl (hL.1 12 (3, 5) rfl) (hL.2 12 0 3 rfl) ?_
  refine w_iload (pc' := 61) k10_59 rfl rfl ?_
  refine w_callE (pc' := 64) (as := [.inr (some 3), .inl _]) k10_61 rfl rfl (co_v rfl rfl (hL.1 3 (5, 14) rfl)) (by decide) (m33 hF0 (by first | omega | (rcases hK with ⟨rfl, rfl, rfl, rfl, rfl, rfl⟩ | ⟨rfl, rfl, rfl, rfl, rfl, rfl⟩ | ⟨rfl, rfl, rfl, rfl, rfl, rfl⟩ <;> omega))) ?_
  refine w_iadd (pc' := 65) k10_64 rfl (by first | omega | (rcases hK with ⟨rfl, rfl, rfl, rfl, rfl, rfl⟩ | ⟨rfl, rfl, rfl, rfl, rfl, rfl⟩ | ⟨rfl, rfl, rfl, rfl, rfl, rfl⟩ <;> omega)) ?_
  refine w_istore (pc' := 67) (ls' := [_, _, _, _, _, _, _, _, _, _, _, _]) k10_65 rfl rfl rfl ?_
  refine w_aload (pc' := 68) k10_67 rfl rfl ?_
  refine w_iload (pc' := 69) k10_68 rfl rfl ?_
  refine w_aload (pc' := 70) k10_69 rfl rfl ?_
  refine w_getR (pc' := 73) (v := 3) k10_70 rfl (hL.1 12 (3, 5) rfl) (hL.2 12 0 3 rfl) ?_
  refine w_iload (pc' := 75) k10_73 rfl rfl ?_
  refine w_iload (pc' := 77) k10_75 rfl rfl ?_
  refine w_callE (pc' := 80) (as := [.inr (some 3), .inl _, .inl _]) k10_77 rfl rfl (co_v rfl rfl (hL.1 3 (5, 14) rfl)) (by decide) (m31 hF0 (by first | omega | (rcases hK with ⟨rfl, rfl, rfl, rfl, rfl, rfl⟩ | ⟨rfl, rfl, rfl, rfl, rfl, rfl⟩ | ⟨rfl, rfl, rfl, rfl, rfl, rfl⟩ <;> omega)) (by first | omega | (rcases hK with ⟨rfl, rfl, rfl, rfl, rfl, rfl⟩ | ⟨rfl, rfl, rfl, rfl, rfl, rfl⟩ | ⟨rfl, rfl, rfl, rfl, rfl, rfl⟩ <;> omega))) ?_
  refine w_callB (pc' := 83) (as := [.inr (some s), .inl _, .inl _]) k10_80 rfl rfl (co_v rfl rfl (hL.s0 h_s)) (by decide) (m52 hF0 (by first | omega | (rcases hK with ⟨rfl, rfl, rfl, rfl, rfl, rfl⟩ | ⟨rfl, rfl, rfl, rfl, rfl, rfl⟩ | ⟨rfl, rfl, rfl, rfl, rfl, rfl⟩ <;> omega)) (by first | omega | (rcases hK with ⟨rfl, rfl, rfl, rfl, rfl, rfl⟩ | ⟨rfl, rfl, rfl, rfl, rfl, rfl⟩ | ⟨rfl, rfl, rfl, rfl, rfl, rfl⟩ <;> omega))) (fun q_80 => ?_) (fun q_80 => ?_)
  · refine w_if_ne (pc' := 86) k10_83 rfl (fun _ => ?_) (fun c_83 => absurd c_83 (by decide))
    refine w_c1 (pc' := 90) k10_89 rfl ?_
    refine w_istore (pc' := 92) (ls' := [_, _, _, _, _, _, _, _, _, _, _, _]) k10_90 rfl rfl rfl ?_
    exact m10l hF0 hn hb hs q_80 (N := H.toNat) (by omega) H.toNat 0 _ _ _ (by omega) rfl
  · refine w_if_ne (pc' := 86) k10_83 rfl (fun c_83 => absurd c_83 (by decide)) (fun _ => ?_)
    refine w_c2 (pc' := 88) k10_86 rfl ?_
    exact w_reti k10_88 ⟨by rw [srM_no (by simpa using q_80)], rfl⟩
theorem m8e (hF : CF sh R I K H E HO S L B s g_s M_s A) {n b ss : Int} (hn : 0 ≤ n ∧ n < E) (hb : 0 ≤ b ∧ b < HO) (hs : 0 ≤ ss ∧ ss < H * H) : RV X (d + 3) 8 [.inr (some 12), .inr (some s), .inl n, .inl b, .inl ss] (sh, R, I) (nl H E A n b ss) := by
  have hF0 := hF
  obtain ⟨hL, hK, hsp, h_s, m_s, n_s, hg, hM, hLS, hcs, hab, hB⟩ := hF
  have hr := hK.r
  show WP X (d + 3) 8 0 [.inr (some 12), .inr (some s), .inl n, .inl b, .inl ss, .inr none, .inr none, .inr none, .inr none] [] (sh, R, I) 0 0 _
  refine w_aload (pc' := 1) k8_0 rfl rfl ?_
  refine w_getR (pc' := 4) (v := 3) k8_1 rfl (hL.1 12 (3, 5) rfl) (hL.2 12 0 3 rfl) ?_
  refine w_getR (pc' := 7) (v := 10) k8_4 rfl (hL.1 3 (5, 14) rfl) (hL.2 3 12 10 rfl) ?_
  refine w_iload (pc' := 8) k8_7 rfl rfl ?_
  refine w_iald (pc' := 9) (v := b / H) k8_8 rfl (hL.1 10 (0, 54) rfl) (by first | omega | (rcases hK with ⟨rfl, rfl, rfl, rfl, rfl, rfl⟩ | ⟨rfl, rfl, rfl, rfl, rfl, rfl⟩ | ⟨rfl, rfl, rfl, rfl, rfl, rfl⟩ <;> omega)) (hsp.2.2.2.2.2.2.2.2 b hb.1 hb.2).1 ?_
  refine w_istore (pc' := 11) (ls' := [_, _, _, _, _, _, _, _, _]) k8_9 rfl rfl rfl ?_
  refine w_iload (pc' := 12) k8_11 rfl rfl ?_
  refine w_iload (pc' := 14) k8_12 rfl rfl ?_
  refine w_ic_ne (pc' := 17) k8_14 rfl (fun c_14 => ?_) (fun c_14 => ?_)
  · refine w_aload (pc' := 21) k8_20 rfl rfl ?_
    refine w_getR (pc' := 24) (v := 3) k8_21 rfl (hL.1 12 (3, 5) rfl) (hL.2 12 0 3 rfl) ?_
    refine w_getR (pc' := 27) (v := 4) k8_24 rfl (hL.1 3 (5, 14) rfl) (hL.2 3 6 4 rfl) ?_
    refine w_iload (pc' := 28) k8_27 rfl rfl ?_
    refine w_iald (pc' := 29) (v := 0) k8_28 rfl (hL.1 4 (0, 45) rfl) (by first | omega | (rcases hK with ⟨rfl, rfl, rfl, rfl, rfl, rfl⟩ | ⟨rfl, rfl, rfl, rfl, rfl, rfl⟩ | ⟨rfl, rfl, rfl, rfl, rfl, rfl⟩ <;> omega)) (((hsp.2.2.2.2.2.2.1 n (by first | omega | (rcases hK with ⟨rfl, rfl, rfl, rfl, rfl, rfl⟩ | ⟨rfl, rfl, rfl, rfl, rfl, rfl⟩ | ⟨rfl, rfl, rfl, rfl, rfl, rfl⟩ <;> omega)) (by first | omega | (rcases hK with ⟨rfl, rfl, rfl, rfl, rfl, rfl⟩ | ⟨rfl, rfl, rfl, rfl, rfl, rfl⟩ | ⟨rfl, rfl, rfl, rfl, rfl, rfl⟩ <;> omega)))).1.trans (tier_e hn.2)) ?_
    refine w_if_ne (pc' := 32) k8_29 rfl (fun c_29 => absurd c_29 (by omega)) (fun c_29 => ?_)
    refine w_aload (pc' := 33) k8_32 rfl rfl ?_
    refine w_aload (pc' := 34) k8_33 rfl rfl ?_
    refine w_iload (pc' := 35) k8_34 rfl rfl ?_
    refine w_iload (pc' := 36) k8_35 rfl rfl ?_
    refine w_iload (pc' := 38) k8_36 rfl rfl ?_
    refine w_callE (pc' := 41) (as := [.inr (some 12), .inr (some s), .inl _, .inl _, .inl _]) k8_38 rfl rfl (co_v rfl rfl (hL.1 12 (3, 5) rfl)) (by decide) (m9 hF0 hn hb hs) ?_
    exact w_reti k8_41 ⟨by unfold nl; rw [if_neg c_14, if_pos hn.2], rfl⟩
  · refine w_c2 (pc' := 19) k8_17 rfl ?_
    exact w_reti k8_19 ⟨by unfold nl; rw [if_pos c_14], rfl⟩
theorem m8m (hF : CF sh R I K H E HO S L B s g_s M_s A) {n b ss : Int} (hn : E ≤ n ∧ n < 2 * E) (hb : 0 ≤ b ∧ b < HO) (hs : 0 ≤ ss ∧ ss < H * H) : RV X (d + 3) 8 [.inr (some 12), .inr (some s), .inl n, .inl b, .inl ss] (sh, R, I) (nl H E A n b ss) := by
  have hF0 := hF
  obtain ⟨hL, hK, hsp, h_s, m_s, n_s, hg, hM, hLS, hcs, hab, hB⟩ := hF
  have hr := hK.r
  show WP X (d + 3) 8 0 [.inr (some 12), .inr (some s), .inl n, .inl b, .inl ss, .inr none, .inr none, .inr none, .inr none] [] (sh, R, I) 0 0 _
  refine w_aload (pc' := 1) k8_0 rfl rfl ?_
  refine w_getR (pc' := 4) (v := 3) k8_1 rfl (hL.1 12 (3, 5) rfl) (hL.2 12 0 3 rfl) ?_
  refine w_getR (pc' := 7) (v := 10) k8_4 rfl (hL.1 3 (5, 14) rfl) (hL.2 3 12 10 rfl) ?_
  refine w_iload (pc' := 8) k8_7 rfl rfl ?_
  refine w_iald (pc' := 9) (v := b / H) k8_8 rfl (hL.1 10 (0, 54) rfl) (by first | omega | (rcases hK with ⟨rfl, rfl, rfl, rfl, rfl, rfl⟩ | ⟨rfl, rfl, rfl, rfl, rfl, rfl⟩ | ⟨rfl, rfl, rfl, rfl, rfl, rfl⟩ <;> omega)) (hsp.2.2.2.2.2.2.2.2 b hb.1 hb.2).1 ?_
  refine w_istore (pc' := 11) (ls' := [_, _, _, _, _, _, _, _, _]) k8_9 rfl rfl rfl ?_
  refine w_iload (pc' := 12) k8_11 rfl rfl ?_
  refine w_iload (pc' := 14) k8_12 rfl rfl ?_
  refine w_ic_ne (pc' := 17) k8_14 rfl (fun c_14 => ?_) (fun c_14 => absurd c_14 (by first | omega | (rcases hK with ⟨rfl, rfl, rfl, rfl, rfl, rfl⟩ | ⟨rfl, rfl, rfl, rfl, rfl, rfl⟩ | ⟨rfl, rfl, rfl, rfl, rfl, rfl⟩ <;> omega)))
  refine w_aload (pc' := 21) k8_20 rfl rfl ?_
  refine w_getR (pc' := 24) (v := 3) k8_21 rfl (hL.1 12 (3, 5) rfl) (hL.2 12 0 3 rfl) ?_
  refine w_getR (pc' := 27) (v := 4) k8_24 rfl (hL.1 3 (5, 14) rfl) (hL.2 3 6 4 rfl) ?_
  refine w_iload (pc' := 28) k8_27 rfl rfl ?_
  refine w_iald (pc' := 29) (v := 1) k8_28 rfl (hL.1 4 (0, 45) rfl) (by first | omega | (rcases hK with ⟨rfl, rfl, rfl, rfl, rfl, rfl⟩ | ⟨rfl, rfl, rfl, rfl, rfl, rfl⟩ | ⟨rfl, rfl, rfl, rfl, rfl, rfl⟩ <;> omega)) (((hsp.2.2.2.2.2.2.1 n (by first | omega | (rcases hK with ⟨rfl, rfl, rfl, rfl, rfl, rfl⟩ | ⟨rfl, rfl, rfl, rfl, rfl, rfl⟩ | ⟨rfl, rfl, rfl, rfl, rfl, rfl⟩ <;> omega)) (by first | omega | (rcases hK with ⟨rfl, rfl, rfl, rfl, rfl, rfl⟩ | ⟨rfl, rfl, rfl, rfl, rfl, rfl⟩ | ⟨rfl, rfl, rfl, rfl, rfl, rfl⟩ <;> omega)))).1.trans (tier_m hn.1 hn.2)) ?_
  refine w_if_ne (pc' := 32) k8_29 rfl (fun c_29 => ?_) (fun c_29 => absurd c_29 (by omega))
  refine w_aload (pc' := 43) k8_42 rfl rfl ?_
  refine w_getR (pc' := 46) (v := 3) k8_43 rfl (hL.1 12 (3, 5) rfl) (hL.2 12 0 3 rfl) ?_
  refine w_getR (pc' := 49) (v := 6) k8_46 rfl (hL.1 3 (5, 14) rfl) (hL.2 3 8 6 rfl) ?_
  refine w_iload (pc' := 50) k8_49 rfl rfl ?_
  refine w_iald (pc' := 51) (v := (n - E) % H) k8_50 rfl (hL.1 6 (0, 45) rfl) (by first | omega | (rcases hK with ⟨rfl, rfl, rfl, rfl, rfl, rfl⟩ | ⟨rfl, rfl, rfl, rfl, rfl, rfl⟩ | ⟨rfl, rfl, rfl, rfl, rfl, rfl⟩ <;> omega)) (((hsp.2.2.2.2.2.2.1 n (by first | omega | (rcases hK with ⟨rfl, rfl, rfl, rfl, rfl, rfl⟩ | ⟨rfl, rfl, rfl, rfl, rfl, rfl⟩ | ⟨rfl, rfl, rfl, rfl, rfl, rfl⟩ <;> omega)) (by first | omega | (rcases hK with ⟨rfl, rfl, rfl, rfl, rfl, rfl⟩ | ⟨rfl, rfl, rfl, rfl, rfl, rfl⟩ | ⟨rfl, rfl, rfl, rfl, rfl, rfl⟩ <;> omega)))).2.2.1.trans (place_m hn.1 hn.2)) ?_
  refine w_istore (pc' := 53) (ls' := [_, _, _, _, _, _, _, _, _]) k8_51 rfl rfl rfl ?_
  refine w_aload (pc' := 54) k8_53 rfl rfl ?_
  refine w_getR (pc' := 57) (v := 3) k8_54 rfl (hL.1 12 (3, 5) rfl) (hL.2 12 0 3 rfl) ?_
  refine w_aload (pc' := 58) k8_57 rfl rfl ?_
  refine w_getR (pc' := 61) (v := 3) k8_58 rfl (hL.1 12 (3, 5) rfl) (hL.2 12 0 3 rfl) ?_
  refine w_getR (pc' := 64) (v := 5) k8_61 rfl (hL.1 3 (5, 14) rfl) (hL.2 3 7 5 rfl) ?_
  refine w_iload (pc' := 66) k8_64 rfl rfl ?_
  refine w_iald (pc' := 67) (v := b / H / H) k8_66 rfl (hL.1 5 (0, 45) rfl) (by first | omega | (rcases hK with ⟨rfl, rfl, rfl, rfl, rfl, rfl⟩ | ⟨rfl, rfl, rfl, rfl, rfl, rfl⟩ | ⟨rfl, rfl, rfl, rfl, rfl, rfl⟩ <;> omega)) (((hsp.2.2.2.2.2.2.1 (b / H) (by first | omega | (rcases hK with ⟨rfl, rfl, rfl, rfl, rfl, rfl⟩ | ⟨rfl, rfl, rfl, rfl, rfl, rfl⟩ | ⟨rfl, rfl, rfl, rfl, rfl, rfl⟩ <;> omega)) (by first | omega | (rcases hK with ⟨rfl, rfl, rfl, rfl, rfl, rfl⟩ | ⟨rfl, rfl, rfl, rfl, rfl, rfl⟩ | ⟨rfl, rfl, rfl, rfl, rfl, rfl⟩ <;> omega)))).2.1.trans (pod_e (by first | omega | (rcases hK with ⟨rfl, rfl, rfl, rfl, rfl, rfl⟩ | ⟨rfl, rfl, rfl, rfl, rfl, rfl⟩ | ⟨rfl, rfl, rfl, rfl, rfl, rfl⟩ <;> omega)))) ?_
  refine w_iload (pc' := 69) k8_67 rfl rfl ?_
  refine w_callE (pc' := 72) (as := [.inr (some 3), .inl _, .inl _]) k8_69 rfl rfl (co_v rfl rfl (hL.1 3 (5, 14) rfl)) (by decide) (m29 hF0 (by first | omega | (rcases hK with ⟨rfl, rfl, rfl, rfl, rfl, rfl⟩ | ⟨rfl, rfl, rfl, rfl, rfl, rfl⟩ | ⟨rfl, rfl, rfl, rfl, rfl, rfl⟩ <;> omega)) (by first | omega | (rcases hK with ⟨rfl, rfl, rfl, rfl, rfl, rfl⟩ | ⟨rfl, rfl, rfl, rfl, rfl, rfl⟩ | ⟨rfl, rfl, rfl, rfl, rfl, rfl⟩ <;> omega))) ?_
  refine w_istore (pc' := 74) (ls' := [_, _, _, _, _, _, _, _, _]) k8_72 rfl rfl rfl ?_
  refine w_iload (pc' := 75) k8_74 rfl rfl ?_
  refine w_iload (pc' := 77) k8_75 rfl rfl ?_
  refine w_ic_eq (pc' := 80) k8_77 rfl (fun c_77 => ?_) (fun c_77 => ?_)
  · refine w_iload (pc' := 104) k8_103 rfl rfl ?_
    refine w_iload (pc' := 106) k8_104 rfl rfl ?_
    refine w_ic_ne (pc' := 109) k8_106 rfl (fun c_106 => absurd c_106 (by omega)) (fun c_106 => ?_)
    refine w_aload (pc' := 110) k8_109 rfl rfl ?_
    refine w_getR (pc' := 113) (v := 3) k8_110 rfl (hL.1 12 (3, 5) rfl) (hL.2 12 0 3 rfl) ?_
    refine w_iload (pc' := 115) k8_113 rfl rfl ?_
    refine w_iload (pc' := 117) k8_115 rfl rfl ?_
    refine w_callE (pc' := 120) (as := [.inr (some 3), .inl _, .inl _]) k8_117 rfl rfl (co_v rfl rfl (hL.1 3 (5, 14) rfl)) (by decide) (m31 hF0 (by first | omega | (rcases hK with ⟨rfl, rfl, rfl, rfl, rfl, rfl⟩ | ⟨rfl, rfl, rfl, rfl, rfl, rfl⟩ | ⟨rfl, rfl, rfl, rfl, rfl, rfl⟩ <;> omega)) (by first | omega | (rcases hK with ⟨rfl, rfl, rfl, rfl, rfl, rfl⟩ | ⟨rfl, rfl, rfl, rfl, rfl, rfl⟩ | ⟨rfl, rfl, rfl, rfl, rfl, rfl⟩ <;> omega))) ?_
    refine w_goto k8_120 ?_
    refine w_istore (pc' := 143) (ls' := [_, _, _, _, _, _, _, _, _]) k8_141 rfl rfl rfl ?_
    refine w_aload (pc' := 144) k8_143 rfl rfl ?_
    refine w_iload (pc' := 145) k8_144 rfl rfl ?_
    refine w_iload (pc' := 147) k8_145 rfl rfl ?_
    refine w_callB (pc' := 150) (as := [.inr (some s), .inl _, .inl _]) k8_147 rfl rfl (co_v rfl rfl (hL.s0 h_s)) (by decide) (m52 hF0 (by first | omega | (rcases hK with ⟨rfl, rfl, rfl, rfl, rfl, rfl⟩ | ⟨rfl, rfl, rfl, rfl, rfl, rfl⟩ | ⟨rfl, rfl, rfl, rfl, rfl, rfl⟩ <;> omega)) (by first | omega | (rcases hK with ⟨rfl, rfl, rfl, rfl, rfl, rfl⟩ | ⟨rfl, rfl, rfl, rfl, rfl, rfl⟩ | ⟨rfl, rfl, rfl, rfl, rfl, rfl⟩ <;> omega))) (fun q_147 => ?_) (fun q_147 => ?_)
    · refine w_if_eq (pc' := 153) k8_150 rfl (fun c_150 => absurd c_150 (by decide)) (fun _ => ?_)
      refine w_iload (pc' := 155) k8_153 rfl rfl ?_
      refine w_goto k8_155 ?_
      exact w_reti k8_160 ⟨by unfold nl; rw [if_neg c_14, if_neg (by omega), if_pos hn.2, if_pos (by clear q_147; first | omega | (rcases hK with ⟨rfl, rfl, rfl, rfl, rfl, rfl⟩ | ⟨rfl, rfl, rfl, rfl, rfl, rfl⟩ | ⟨rfl, rfl, rfl, rfl, rfl, rfl⟩ <;> omega))]; first | rw [if_pos q_147] | rw [if_neg q_147], rfl⟩
    · refine w_if_eq (pc' := 153) k8_150 rfl (fun _ => ?_) (fun c_150 => absurd c_150 (by decide))
      refine w_c2 (pc' := 160) k8_158 rfl ?_
      exact w_reti k8_160 ⟨by unfold nl; rw [if_neg c_14, if_neg (by omega), if_pos hn.2, if_pos (by clear q_147; first | omega | (rcases hK with ⟨rfl, rfl, rfl, rfl, rfl, rfl⟩ | ⟨rfl, rfl, rfl, rfl, rfl, rfl⟩ | ⟨rfl, rfl, rfl, rfl, rfl, rfl⟩ <;> omega))]; first | rw [if_pos q_147] | rw [if_neg q_147], rfl⟩
  · refine w_aload (pc' := 81) k8_80 rfl rfl ?_
    refine w_getR (pc' := 84) (v := 3) k8_81 rfl (hL.1 12 (3, 5) rfl) (hL.2 12 0 3 rfl) ?_
    refine w_getR (pc' := 87) (v := 4) k8_84 rfl (hL.1 3 (5, 14) rfl) (hL.2 3 6 4 rfl) ?_
    refine w_iload (pc' := 88) k8_87 rfl rfl ?_
    refine w_iald (pc' := 89) (v := 1) k8_88 rfl (hL.1 4 (0, 45) rfl) (by first | omega | (rcases hK with ⟨rfl, rfl, rfl, rfl, rfl, rfl⟩ | ⟨rfl, rfl, rfl, rfl, rfl, rfl⟩ | ⟨rfl, rfl, rfl, rfl, rfl, rfl⟩ <;> omega)) (((hsp.2.2.2.2.2.2.1 n (by first | omega | (rcases hK with ⟨rfl, rfl, rfl, rfl, rfl, rfl⟩ | ⟨rfl, rfl, rfl, rfl, rfl, rfl⟩ | ⟨rfl, rfl, rfl, rfl, rfl, rfl⟩ <;> omega)) (by first | omega | (rcases hK with ⟨rfl, rfl, rfl, rfl, rfl, rfl⟩ | ⟨rfl, rfl, rfl, rfl, rfl, rfl⟩ | ⟨rfl, rfl, rfl, rfl, rfl, rfl⟩ <;> omega)))).1.trans (tier_m hn.1 hn.2)) ?_
    refine w_c1 (pc' := 90) k8_89 rfl ?_
    refine w_ic_ne (pc' := 93) k8_90 rfl (fun c_90 => absurd c_90 (by omega)) (fun c_90 => ?_)
    refine w_aload (pc' := 94) k8_93 rfl rfl ?_
    refine w_aload (pc' := 95) k8_94 rfl rfl ?_
    refine w_iload (pc' := 96) k8_95 rfl rfl ?_
    refine w_iload (pc' := 97) k8_96 rfl rfl ?_
    refine w_iload (pc' := 99) k8_97 rfl rfl ?_
    refine w_callE (pc' := 102) (as := [.inr (some 12), .inr (some s), .inl _, .inl _, .inl _]) k8_99 rfl rfl (co_v rfl rfl (hL.1 12 (3, 5) rfl)) (by decide) (m10 hF0 hn hb hs) ?_
    exact w_reti k8_102 ⟨by unfold nl; rw [if_neg c_14, if_neg (by omega), if_pos hn.2, if_neg (by intro z; apply c_77; clear c_77; first | omega | (rcases hK with ⟨rfl, rfl, rfl, rfl, rfl, rfl⟩ | ⟨rfl, rfl, rfl, rfl, rfl, rfl⟩ | ⟨rfl, rfl, rfl, rfl, rfl, rfl⟩ <;> omega))], rfl⟩
theorem m8c (hF : CF sh R I K H E HO S L B s g_s M_s A) {n b ss : Int} (hn : 2 * E ≤ n ∧ n < S) (hb : 0 ≤ b ∧ b < HO) (hs : 0 ≤ ss ∧ ss < H * H) : RV X (d + 3) 8 [.inr (some 12), .inr (some s), .inl n, .inl b, .inl ss] (sh, R, I) (nl H E A n b ss) := by
  have hF0 := hF
  obtain ⟨hL, hK, hsp, h_s, m_s, n_s, hg, hM, hLS, hcs, hab, hB⟩ := hF
  have hr := hK.r
  show WP X (d + 3) 8 0 [.inr (some 12), .inr (some s), .inl n, .inl b, .inl ss, .inr none, .inr none, .inr none, .inr none] [] (sh, R, I) 0 0 _
  refine w_aload (pc' := 1) k8_0 rfl rfl ?_
  refine w_getR (pc' := 4) (v := 3) k8_1 rfl (hL.1 12 (3, 5) rfl) (hL.2 12 0 3 rfl) ?_
  refine w_getR (pc' := 7) (v := 10) k8_4 rfl (hL.1 3 (5, 14) rfl) (hL.2 3 12 10 rfl) ?_
  refine w_iload (pc' := 8) k8_7 rfl rfl ?_
  refine w_iald (pc' := 9) (v := b / H) k8_8 rfl (hL.1 10 (0, 54) rfl) (by first | omega | (rcases hK with ⟨rfl, rfl, rfl, rfl, rfl, rfl⟩ | ⟨rfl, rfl, rfl, rfl, rfl, rfl⟩ | ⟨rfl, rfl, rfl, rfl, rfl, rfl⟩ <;> omega)) (hsp.2.2.2.2.2.2.2.2 b hb.1 hb.2).1 ?_
  refine w_istore (pc' := 11) (ls' := [_, _, _, _, _, _, _, _, _]) k8_9 rfl rfl rfl ?_
  refine w_iload (pc' := 12) k8_11 rfl rfl ?_
  refine w_iload (pc' := 14) k8_12 rfl rfl ?_
  refine w_ic_ne (pc' := 17) k8_14 rfl (fun c_14 => ?_) (fun c_14 => absurd c_14 (by first | omega | (rcases hK with ⟨rfl, rfl, rfl, rfl, rfl, rfl⟩ | ⟨rfl, rfl, rfl, rfl, rfl, rfl⟩ | ⟨rfl, rfl, rfl, rfl, rfl, rfl⟩ <;> omega)))
  refine w_aload (pc' := 21) k8_20 rfl rfl ?_
  refine w_getR (pc' := 24) (v := 3) k8_21 rfl (hL.1 12 (3, 5) rfl) (hL.2 12 0 3 rfl) ?_
  refine w_getR (pc' := 27) (v := 4) k8_24 rfl (hL.1 3 (5, 14) rfl) (hL.2 3 6 4 rfl) ?_
  refine w_iload (pc' := 28) k8_27 rfl rfl ?_
  refine w_iald (pc' := 29) (v := 2) k8_28 rfl (hL.1 4 (0, 45) rfl) (by first | omega | (rcases hK with ⟨rfl, rfl, rfl, rfl, rfl, rfl⟩ | ⟨rfl, rfl, rfl, rfl, rfl, rfl⟩ | ⟨rfl, rfl, rfl, rfl, rfl, rfl⟩ <;> omega)) (((hsp.2.2.2.2.2.2.1 n (by first | omega | (rcases hK with ⟨rfl, rfl, rfl, rfl, rfl, rfl⟩ | ⟨rfl, rfl, rfl, rfl, rfl, rfl⟩ | ⟨rfl, rfl, rfl, rfl, rfl, rfl⟩ <;> omega)) (by first | omega | (rcases hK with ⟨rfl, rfl, rfl, rfl, rfl, rfl⟩ | ⟨rfl, rfl, rfl, rfl, rfl, rfl⟩ | ⟨rfl, rfl, rfl, rfl, rfl, rfl⟩ <;> omega)))).1.trans (tier_c hn.1 (by omega))) ?_
  refine w_if_ne (pc' := 32) k8_29 rfl (fun c_29 => ?_) (fun c_29 => absurd c_29 (by omega))
  refine w_aload (pc' := 43) k8_42 rfl rfl ?_
  refine w_getR (pc' := 46) (v := 3) k8_43 rfl (hL.1 12 (3, 5) rfl) (hL.2 12 0 3 rfl) ?_
  refine w_getR (pc' := 49) (v := 6) k8_46 rfl (hL.1 3 (5, 14) rfl) (hL.2 3 8 6 rfl) ?_
  refine w_iload (pc' := 50) k8_49 rfl rfl ?_
  refine w_iald (pc' := 51) (v := (n - 2 * E) / H) k8_50 rfl (hL.1 6 (0, 45) rfl) (by first | omega | (rcases hK with ⟨rfl, rfl, rfl, rfl, rfl, rfl⟩ | ⟨rfl, rfl, rfl, rfl, rfl, rfl⟩ | ⟨rfl, rfl, rfl, rfl, rfl, rfl⟩ <;> omega)) (((hsp.2.2.2.2.2.2.1 n (by first | omega | (rcases hK with ⟨rfl, rfl, rfl, rfl, rfl, rfl⟩ | ⟨rfl, rfl, rfl, rfl, rfl, rfl⟩ | ⟨rfl, rfl, rfl, rfl, rfl, rfl⟩ <;> omega)) (by first | omega | (rcases hK with ⟨rfl, rfl, rfl, rfl, rfl, rfl⟩ | ⟨rfl, rfl, rfl, rfl, rfl, rfl⟩ | ⟨rfl, rfl, rfl, rfl, rfl, rfl⟩ <;> omega)))).2.2.1.trans (place_c hn.1 (by omega))) ?_
  refine w_istore (pc' := 53) (ls' := [_, _, _, _, _, _, _, _, _]) k8_51 rfl rfl rfl ?_
  refine w_aload (pc' := 54) k8_53 rfl rfl ?_
  refine w_getR (pc' := 57) (v := 3) k8_54 rfl (hL.1 12 (3, 5) rfl) (hL.2 12 0 3 rfl) ?_
  refine w_aload (pc' := 58) k8_57 rfl rfl ?_
  refine w_getR (pc' := 61) (v := 3) k8_58 rfl (hL.1 12 (3, 5) rfl) (hL.2 12 0 3 rfl) ?_
  refine w_getR (pc' := 64) (v := 5) k8_61 rfl (hL.1 3 (5, 14) rfl) (hL.2 3 7 5 rfl) ?_
  refine w_iload (pc' := 66) k8_64 rfl rfl ?_
  refine w_iald (pc' := 67) (v := b / H / H) k8_66 rfl (hL.1 5 (0, 45) rfl) (by first | omega | (rcases hK with ⟨rfl, rfl, rfl, rfl, rfl, rfl⟩ | ⟨rfl, rfl, rfl, rfl, rfl, rfl⟩ | ⟨rfl, rfl, rfl, rfl, rfl, rfl⟩ <;> omega)) (((hsp.2.2.2.2.2.2.1 (b / H) (by first | omega | (rcases hK with ⟨rfl, rfl, rfl, rfl, rfl, rfl⟩ | ⟨rfl, rfl, rfl, rfl, rfl, rfl⟩ | ⟨rfl, rfl, rfl, rfl, rfl, rfl⟩ <;> omega)) (by first | omega | (rcases hK with ⟨rfl, rfl, rfl, rfl, rfl, rfl⟩ | ⟨rfl, rfl, rfl, rfl, rfl, rfl⟩ | ⟨rfl, rfl, rfl, rfl, rfl, rfl⟩ <;> omega)))).2.1.trans (pod_e (by first | omega | (rcases hK with ⟨rfl, rfl, rfl, rfl, rfl, rfl⟩ | ⟨rfl, rfl, rfl, rfl, rfl, rfl⟩ | ⟨rfl, rfl, rfl, rfl, rfl, rfl⟩ <;> omega)))) ?_
  refine w_iload (pc' := 69) k8_67 rfl rfl ?_
  refine w_callE (pc' := 72) (as := [.inr (some 3), .inl _, .inl _]) k8_69 rfl rfl (co_v rfl rfl (hL.1 3 (5, 14) rfl)) (by decide) (m29 hF0 (by first | omega | (rcases hK with ⟨rfl, rfl, rfl, rfl, rfl, rfl⟩ | ⟨rfl, rfl, rfl, rfl, rfl, rfl⟩ | ⟨rfl, rfl, rfl, rfl, rfl, rfl⟩ <;> omega)) (by first | omega | (rcases hK with ⟨rfl, rfl, rfl, rfl, rfl, rfl⟩ | ⟨rfl, rfl, rfl, rfl, rfl, rfl⟩ | ⟨rfl, rfl, rfl, rfl, rfl, rfl⟩ <;> omega))) ?_
  refine w_istore (pc' := 74) (ls' := [_, _, _, _, _, _, _, _, _]) k8_72 rfl rfl rfl ?_
  refine w_iload (pc' := 75) k8_74 rfl rfl ?_
  refine w_iload (pc' := 77) k8_75 rfl rfl ?_
  refine w_ic_eq (pc' := 80) k8_77 rfl (fun c_77 => absurd c_77 (by clear c_14; first | omega | (rcases hK with ⟨rfl, rfl, rfl, rfl, rfl, rfl⟩ | ⟨rfl, rfl, rfl, rfl, rfl, rfl⟩ | ⟨rfl, rfl, rfl, rfl, rfl, rfl⟩ <;> omega))) (fun c_77 => ?_)
  refine w_aload (pc' := 81) k8_80 rfl rfl ?_
  refine w_getR (pc' := 84) (v := 3) k8_81 rfl (hL.1 12 (3, 5) rfl) (hL.2 12 0 3 rfl) ?_
  refine w_getR (pc' := 87) (v := 4) k8_84 rfl (hL.1 3 (5, 14) rfl) (hL.2 3 6 4 rfl) ?_
  refine w_iload (pc' := 88) k8_87 rfl rfl ?_
  refine w_iald (pc' := 89) (v := 2) k8_88 rfl (hL.1 4 (0, 45) rfl) (by first | omega | (rcases hK with ⟨rfl, rfl, rfl, rfl, rfl, rfl⟩ | ⟨rfl, rfl, rfl, rfl, rfl, rfl⟩ | ⟨rfl, rfl, rfl, rfl, rfl, rfl⟩ <;> omega)) (((hsp.2.2.2.2.2.2.1 n (by first | omega | (rcases hK with ⟨rfl, rfl, rfl, rfl, rfl, rfl⟩ | ⟨rfl, rfl, rfl, rfl, rfl, rfl⟩ | ⟨rfl, rfl, rfl, rfl, rfl, rfl⟩ <;> omega)) (by first | omega | (rcases hK with ⟨rfl, rfl, rfl, rfl, rfl, rfl⟩ | ⟨rfl, rfl, rfl, rfl, rfl, rfl⟩ | ⟨rfl, rfl, rfl, rfl, rfl, rfl⟩ <;> omega)))).1.trans (tier_c hn.1 (by omega))) ?_
  refine w_c1 (pc' := 90) k8_89 rfl ?_
  refine w_ic_ne (pc' := 93) k8_90 rfl (fun c_90 => ?_) (fun c_90 => absurd c_90 (by omega))
  refine w_iload (pc' := 104) k8_103 rfl rfl ?_
  refine w_iload (pc' := 106) k8_104 rfl rfl ?_
  refine w_ic_ne (pc' := 109) k8_106 rfl (fun c_106 => ?_) (fun c_106 => absurd c_106 (by clear c_14 c_77; first | omega | (rcases hK with ⟨rfl, rfl, rfl, rfl, rfl, rfl⟩ | ⟨rfl, rfl, rfl, rfl, rfl, rfl⟩ | ⟨rfl, rfl, rfl, rfl, rfl, rfl⟩ <;> omega)))
  refine w_aload (pc' := 124) k8_123 rfl rfl ?_
  refine w_getR (pc' := 127) (v := 3) k8_124 rfl (hL.1 12 (3, 5) rfl) (hL.2 12 0 3 rfl) ?_
  refine w_iload (pc' := 129) k8_127 rfl rfl ?_
  refine w_aload (pc' := 130) k8_129 rfl rfl ?_
  refine w_getR (pc' := 133) (v := 3) k8_130 rfl (hL.1 12 (3, 5) rfl) (hL.2 12 0 3 rfl) ?_
  refine w_getR (pc' := 136) (v := 7) k8_133 rfl (hL.1 3 (5, 14) rfl) (hL.2 3 9 7 rfl) ?_
  refine w_iload (pc' := 137) k8_136 rfl rfl ?_
  refine w_iald (pc' := 138) (v := (n - 2 * E) % H) k8_137 rfl (hL.1 7 (0, 45) rfl) (by first | omega | (rcases hK with ⟨rfl, rfl, rfl, rfl, rfl, rfl⟩ | ⟨rfl, rfl, rfl, rfl, rfl, rfl⟩ | ⟨rfl, rfl, rfl, rfl, rfl, rfl⟩ <;> omega)) (((hsp.2.2.2.2.2.2.1 n (by first | omega | (rcases hK with ⟨rfl, rfl, rfl, rfl, rfl, rfl⟩ | ⟨rfl, rfl, rfl, rfl, rfl, rfl⟩ | ⟨rfl, rfl, rfl, rfl, rfl, rfl⟩ <;> omega)) (by first | omega | (rcases hK with ⟨rfl, rfl, rfl, rfl, rfl, rfl⟩ | ⟨rfl, rfl, rfl, rfl, rfl, rfl⟩ | ⟨rfl, rfl, rfl, rfl, rfl, rfl⟩ <;> omega)))).2.2.2.trans (memb_c hn.1)) ?_
  refine w_callE (pc' := 141) (as := [.inr (some 3), .inl _, .inl _]) k8_138 rfl rfl (co_v rfl rfl (hL.1 3 (5, 14) rfl)) (by decide) (m31 hF0 (by first | omega | (rcases hK with ⟨rfl, rfl, rfl, rfl, rfl, rfl⟩ | ⟨rfl, rfl, rfl, rfl, rfl, rfl⟩ | ⟨rfl, rfl, rfl, rfl, rfl, rfl⟩ <;> omega)) (by first | omega | (rcases hK with ⟨rfl, rfl, rfl, rfl, rfl, rfl⟩ | ⟨rfl, rfl, rfl, rfl, rfl, rfl⟩ | ⟨rfl, rfl, rfl, rfl, rfl, rfl⟩ <;> omega))) ?_
  refine w_istore (pc' := 143) (ls' := [_, _, _, _, _, _, _, _, _]) k8_141 rfl rfl rfl ?_
  refine w_aload (pc' := 144) k8_143 rfl rfl ?_
  refine w_iload (pc' := 145) k8_144 rfl rfl ?_
  refine w_iload (pc' := 147) k8_145 rfl rfl ?_
  refine w_callB (pc' := 150) (as := [.inr (some s), .inl _, .inl _]) k8_147 rfl rfl (co_v rfl rfl (hL.s0 h_s)) (by decide) (m52 hF0 (by first | omega | (rcases hK with ⟨rfl, rfl, rfl, rfl, rfl, rfl⟩ | ⟨rfl, rfl, rfl, rfl, rfl, rfl⟩ | ⟨rfl, rfl, rfl, rfl, rfl, rfl⟩ <;> omega)) (by first | omega | (rcases hK with ⟨rfl, rfl, rfl, rfl, rfl, rfl⟩ | ⟨rfl, rfl, rfl, rfl, rfl, rfl⟩ | ⟨rfl, rfl, rfl, rfl, rfl, rfl⟩ <;> omega))) (fun q_147 => ?_) (fun q_147 => ?_)
  · refine w_if_eq (pc' := 153) k8_150 rfl (fun c_150 => absurd c_150 (by decide)) (fun _ => ?_)
    refine w_iload (pc' := 155) k8_153 rfl rfl ?_
    refine w_goto k8_155 ?_
    exact w_reti k8_160 ⟨by unfold nl; rw [if_neg c_14, if_neg (by omega), if_neg (by omega)]; first | rw [if_pos q_147] | rw [if_neg q_147], rfl⟩
  · refine w_if_eq (pc' := 153) k8_150 rfl (fun _ => ?_) (fun c_150 => absurd c_150 (by decide))
    refine w_c2 (pc' := 160) k8_158 rfl ?_
    exact w_reti k8_160 ⟨by unfold nl; rw [if_neg c_14, if_neg (by omega), if_neg (by omega)]; first | rw [if_pos q_147] | rw [if_neg q_147], rfl⟩
theorem m8 (hF : CF sh R I K H E HO S L B s g_s M_s A) {n b ss : Int} (hn : 0 ≤ n ∧ n < S) (hb : 0 ≤ b ∧ b < HO) (hs : 0 ≤ ss ∧ ss < H * H) : RV X (d + 3) 8 [.inr (some 12), .inr (some s), .inl n, .inl b, .inl ss] (sh, R, I) (nl H E A n b ss) := by
  by_cases h1 : n < E
  · exact m8e hF ⟨hn.1, h1⟩ hb hs
  · by_cases h2 : n < 2 * E
    · exact m8m hF ⟨by omega, h2⟩ hb hs
    · exact m8c hF ⟨by omega, hn.2⟩ hb hs
end C22
