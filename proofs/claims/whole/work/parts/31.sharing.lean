/-! ===== CLASS: Sharing, its rows ===== -/
section C31
variable {X : Nat × (Int → Int)} {d : Nat} {sh : List (Nat × Nat)} {R : Nat → Nat → Option Nat} {I : Nat → Int → Int} {s g_s M_s : Nat} {K H E HO S L B : Int} {A : AS}
variable {c : Int → Int} {q : Int → Int → Int}
theorem m38 (hL : LC sh R) (hU : UI I c q) {f u : Int} (hf : 0 ≤ f ∧ f < 16) (hu : 0 ≤ u ∧ u < 324) (hc6 : c f < 6) : WPM X (d + 1) 38 [.inr (some 21), .inl f, .inl u] (sh, R, I) 0 0 (fun _ h' => ∃ I', h' = (sh, R, I') ∧ (∀ a, a < 22 ∨ 24 < a → I' a = I a) ∧ UI I' (upF c f (c f + 1)) (up2 q f (c f) u)) := by
  have hcf := hU.1 f hf.1 hf.2
  have hub := usG_le (q := q) (u := u) (fun f h1 h2 => (hU.1 f h1 h2).2)
  have hu9 := hU.2.2 u hu.1 hu.2
  show WP X (d + 1) 38 0 [.inr (some 21), .inl f, .inl u] [] (sh, R, I) 0 0 _
  refine w_aload (pc' := 1) k38_0 rfl rfl ?_
  refine w_getR (pc' := 4) (v := 23) k38_1 rfl (hL.1 21 (6, 5) rfl) (hL.2 21 3 23 rfl) ?_
  refine w_iload (pc' := 5) k38_4 rfl rfl ?_
  refine w_iald (pc' := 6) (v := c f) k38_5 rfl (hL.1 23 (0, 16) rfl) (by omega) hcf.1 ?_
  refine w_c2 (pc' := 8) k38_6 rfl ?_
  refine w_ic_lt (pc' := 11) k38_8 rfl (fun c_8 => ?_) (fun c_8 => absurd c_8 (by omega))
  refine w_aload (pc' := 13) k38_12 rfl rfl ?_
  refine w_getR (pc' := 16) (v := 22) k38_13 rfl (hL.1 21 (6, 5) rfl) (hL.2 21 2 22 rfl) ?_
  refine w_iload (pc' := 17) k38_16 rfl rfl ?_
  refine w_c2 (pc' := 19) k38_17 rfl ?_
  refine w_imul (pc' := 20) k38_19 rfl (by omega) ?_
  refine w_aload (pc' := 21) k38_20 rfl rfl ?_
  refine w_getR (pc' := 24) (v := 23) k38_21 rfl (hL.1 21 (6, 5) rfl) (hL.2 21 3 23 rfl) ?_
  refine w_iload (pc' := 25) k38_24 rfl rfl ?_
  refine w_iald (pc' := 26) (v := c f) k38_25 rfl (hL.1 23 (0, 16) rfl) (by omega) hcf.1 ?_
  refine w_iadd (pc' := 27) k38_26 rfl (by omega) ?_
  refine w_iload (pc' := 28) k38_27 rfl rfl ?_
  refine w_iast (pc' := 29) k38_28 rfl (hL.1 22 (0, 96) rfl) (by omega) ?_
  refine w_aload (pc' := 30) k38_29 rfl rfl ?_
  refine w_getR (pc' := 33) (v := 23) k38_30 rfl (hL.1 21 (6, 5) rfl) (hL.2 21 3 23 rfl) ?_
  refine w_iload (pc' := 34) k38_33 rfl rfl ?_
  refine w_dup2 (pc' := 35) k38_34 rfl ?_
  refine w_iald (pc' := 36) (v := c f) k38_35 rfl (hL.1 23 (0, 16) rfl) (by omega) (by rw [upA_n (by decide)]; exact hcf.1) ?_
  refine w_c1 (pc' := 37) k38_36 rfl ?_
  refine w_iadd (pc' := 38) k38_37 rfl (by omega) ?_
  refine w_iast (pc' := 39) k38_38 rfl (hL.1 23 (0, 16) rfl) (by omega) ?_
  refine w_aload (pc' := 40) k38_39 rfl rfl ?_
  refine w_getR (pc' := 43) (v := 24) k38_40 rfl (hL.1 21 (6, 5) rfl) (hL.2 21 4 24 rfl) ?_
  refine w_iload (pc' := 44) k38_43 rfl rfl ?_
  refine w_dup2 (pc' := 45) k38_44 rfl ?_
  refine w_iald (pc' := 46) (v := usG c q u) k38_45 rfl (hL.1 24 (0, 324) rfl) (by omega) (by rw [upA_n (by decide), upA_n (by decide)]; exact hu9) ?_
  refine w_c1 (pc' := 47) k38_46 rfl ?_
  refine w_iadd (pc' := 48) k38_47 rfl (by omega) ?_
  refine w_iast (pc' := 49) k38_48 rfl (hL.1 24 (0, 324) rfl) (by omega) ?_
  refine w_retv k38_49 ⟨_, rfl, fun a ha => by rw [upA_n (by omega), upA_n (by omega), upA_n (by omega)], fun g h1 h2 => ?_, fun g x h1 h2 h3 h4 => ?_, fun w h1 h2 => ?_⟩
  · rw [upA_n (by decide), upA_s, upA_n (by decide)]
    by_cases e9 : g = f
    · subst e9; rw [upF_s, upF_s]; exact ⟨rfl, by omega⟩
    · rw [upF_n e9, upF_n e9]; exact hU.1 g h1 h2
  · have hg := hU.1 g h1 h2
    rw [upA_n (by decide), upA_n (by decide), upA_s]
    by_cases e9 : g = f
    · subst e9
      rw [upF_s] at h4
      by_cases e8 : x = c g
      · subst e8; rw [upF_s, up2_s]; exact ⟨rfl, hu⟩
      · rw [upF_n (by omega), up2_n (by omega)]; exact hU.2.1 g x h1 h2 h3 (by omega)
    · rw [upF_n e9] at h4
      rw [upF_n (by omega), up2_n (by omega)]; exact hU.2.1 g x h1 h2 h3 h4
  · rw [upA_s]
    have hk9 : ∀ i, i ≠ f → kG (upF c f (c f + 1)) (up2 q f (c f) u) w i = kG c q w i := fun i hi => by
      unfold kG
      rw [upF_n hi]
      exact cnt_ext (fun x _ => by rw [up2_n (fun z => hi z.1)])
    rw [usG_1 hf.1 hf.2 hk9]
    have hkf : kG (upF c f (c f + 1)) (up2 q f (c f) u) w f = kG c q w f + if u = w then 1 else 0 := by
      unfold kG
      rw [upF_s, show (c f + 1).toNat = (c f).toNat + 1 by omega, cnt_s]
      congr 1
      · exact cnt_ext (fun x hx => by rw [up2_n (by omega)])
      · rw [show (((c f).toNat : Nat) : Int) = c f by omega, up2_s]; simp
    rw [hkf]
    by_cases e9 : w = u
    · subst e9; rw [upF_s, if_pos rfl]; omega
    · rw [upF_n e9, upA_n (by decide), upA_n (by decide), hU.2.2 w h1 h2, if_neg (Ne.symm e9)]; omega
theorem m39l (hL : LC sh R) (hU : UI I c q) {f : Int} (hf : 0 ≤ f ∧ f < 16) : ∀ (k t : Nat) (i : Int) (I1 : Nat → Int → Int), (t : Int) + k = c f → i = (t : Int) → (∀ a, a ≠ 24 → I1 a = I a) → (∀ u, 0 ≤ u → u < 324 → I1 24 u = usG c q u - cnt (fun x => decide (q f x = u)) t) → WP X (d + 1) 39 2 [.inr (some 21), .inl f, .inl i] [] (sh, R, I1) 0 0 (fun _ h' => ∃ I', h' = (sh, R, I') ∧ (∀ a, a < 22 ∨ 24 < a → I' a = I a) ∧ UI I' (upF c f 0) q) := by
  have hcf := hU.1 f hf.1 hf.2
  intro k
  induction k with
  | zero =>
    rintro t i I1 hk rfl h1 h2
    have e23 := h1 23 (by decide)
    refine w_iload (pc' := 3) k39_2 rfl rfl ?_
    refine w_aload (pc' := 4) k39_3 rfl rfl ?_
    refine w_getR (pc' := 7) (v := 23) k39_4 rfl (hL.1 21 (6, 5) rfl) (hL.2 21 3 23 rfl) ?_
    refine w_iload (pc' := 8) k39_7 rfl rfl ?_
    refine w_iald (pc' := 9) (v := c f) k39_8 rfl (hL.1 23 (0, 16) rfl) (by omega) (by rw [e23]; exact hcf.1) ?_
    refine w_ic_ge (pc' := 12) k39_9 rfl (fun c_9 => ?_) (fun c_9 => absurd c_9 (by omega))
    refine w_aload (pc' := 39) k39_38 rfl rfl ?_
    refine w_getR (pc' := 42) (v := 23) k39_39 rfl (hL.1 21 (6, 5) rfl) (hL.2 21 3 23 rfl) ?_
    refine w_iload (pc' := 43) k39_42 rfl rfl ?_
    refine w_c1 (pc' := 44) k39_43 rfl ?_
    refine w_iast (pc' := 45) k39_44 rfl (hL.1 23 (0, 16) rfl) (by omega) ?_
    refine w_retv k39_45 ⟨_, rfl, fun a ha => by rw [upA_n (by omega)]; exact h1 a (by omega), fun g h3 h4 => ?_, fun g x h3 h4 h5 h6 => ?_, fun w h3 h4 => ?_⟩
    · rw [upA_s]
      by_cases e9 : g = f
      · subst e9; rw [upF_s, upF_s]; decide
      · rw [upF_n e9, upF_n e9, e23]; exact hU.1 g h3 h4
    · rw [upA_n (by decide), h1 22 (by decide)]
      by_cases e9 : g = f
      · subst e9; rw [upF_s] at h6; omega
      · rw [upF_n e9] at h6; exact hU.2.1 g x h3 h4 h5 h6
    · rw [upA_n (by decide), h2 w h3 h4]
      rw [usG_1 (c' := upF c f 0) (q' := q) hf.1 hf.2 (fun i hi => by unfold kG; rw [upF_n hi])]
      have e8 : kG (upF c f 0) q w f = 0 := by unfold kG; rw [upF_s]; rfl
      rw [e8]
      have e7 : kG c q w f = cnt (fun x => decide (q f x = w)) t := by unfold kG; congr 1; omega
      omega
  | succ k ih =>
    rintro t i I1 hk rfl h1 h2
    have e23 := h1 23 (by decide)
    have e22 := h1 22 (by decide)
    have hq9 := hU.2.1 f t hf.1 hf.2 (by omega) (by omega)
    have hub := usG_le (q := q) (u := q f t) (fun f h1 h2 => (hU.1 f h1 h2).2)
    have hct := cnt_le (fun x => decide (q f x = q f t)) t
    refine w_iload (pc' := 3) k39_2 rfl rfl ?_
    refine w_aload (pc' := 4) k39_3 rfl rfl ?_
    refine w_getR (pc' := 7) (v := 23) k39_4 rfl (hL.1 21 (6, 5) rfl) (hL.2 21 3 23 rfl) ?_
    refine w_iload (pc' := 8) k39_7 rfl rfl ?_
    refine w_iald (pc' := 9) (v := c f) k39_8 rfl (hL.1 23 (0, 16) rfl) (by omega) (by rw [e23]; exact hcf.1) ?_
    refine w_ic_ge (pc' := 12) k39_9 rfl (fun c_9 => absurd c_9 (by omega)) (fun c_9 => ?_)
    refine w_aload (pc' := 13) k39_12 rfl rfl ?_
    refine w_getR (pc' := 16) (v := 24) k39_13 rfl (hL.1 21 (6, 5) rfl) (hL.2 21 4 24 rfl) ?_
    refine w_aload (pc' := 17) k39_16 rfl rfl ?_
    refine w_getR (pc' := 20) (v := 22) k39_17 rfl (hL.1 21 (6, 5) rfl) (hL.2 21 2 22 rfl) ?_
    refine w_iload (pc' := 21) k39_20 rfl rfl ?_
    refine w_c2 (pc' := 23) k39_21 rfl ?_
    refine w_imul (pc' := 24) k39_23 rfl (by omega) ?_
    refine w_iload (pc' := 25) k39_24 rfl rfl ?_
    refine w_iadd (pc' := 26) k39_25 rfl (by omega) ?_
    refine w_iald (pc' := 27) (v := q f t) k39_26 rfl (hL.1 22 (0, 96) rfl) (by omega) (by rw [e22]; exact hq9.1) ?_
    refine w_dup2 (pc' := 28) k39_27 rfl ?_
    refine w_iald (pc' := 29) (v := usG c q (q f t) - cnt (fun x => decide (q f x = q f t)) t) k39_28 rfl (hL.1 24 (0, 324) rfl) (by omega) (h2 _ hq9.2.1 hq9.2.2) ?_
    refine w_c1 (pc' := 30) k39_29 rfl ?_
    refine w_isub (pc' := 31) k39_30 rfl (by omega) ?_
    refine w_iast (pc' := 32) k39_31 rfl (hL.1 24 (0, 324) rfl) (by omega) ?_
    refine w_iinc (pc' := 35) (ls' := [_, _, _]) k39_32 rfl rfl (by omega) rfl ?_
    refine w_goto k39_35 ?_
    refine ih (t + 1) _ _ (by omega) (by omega) (fun a ha => by rw [upA_n ha]; exact h1 a ha) (fun u h3 h4 => ?_)
    rw [upA_s, cnt_s]
    by_cases e9 : u = q f t
    · subst e9; rw [upF_s]; simp; omega
    · rw [upF_n e9, h2 u h3 h4, if_neg (by simp; exact fun z => e9 z.symm)]; omega
theorem m39 (hL : LC sh R) (hU : UI I c q) {f : Int} (hf : 0 ≤ f ∧ f < 16) : WPM X (d + 1) 39 [.inr (some 21), .inl f] (sh, R, I) 0 0 (fun _ h' => ∃ I', h' = (sh, R, I') ∧ (∀ a, a < 22 ∨ 24 < a → I' a = I a) ∧ UI I' (upF c f 0) q) := by
  have hcf := hU.1 f hf.1 hf.2
  show WP X (d + 1) 39 0 [.inr (some 21), .inl f, .inr none] [] (sh, R, I) 0 0 _
  refine w_c1 (pc' := 1) k39_0 rfl ?_
  refine w_istore (pc' := 2) (ls' := [_, _, _]) k39_1 rfl rfl rfl ?_
  exact m39l hL hU hf (c f).toNat 0 _ _ (by omega) rfl (fun _ _ => rfl) (fun u h1 h2 => by rw [hU.2.2 u h1 h2]; simp [cnt, sumN])
theorem m40 (hL : LC sh R) (hU : UI I c q) {f : Int} (hf : 0 ≤ f ∧ f < 16) : BV X (d + 1) 40 [.inr (some 21), .inl f] (sh, R, I) (0 < c f) := by
  have hcf := hU.1 f hf.1 hf.2
  show WP X (d + 1) 40 0 [.inr (some 21), .inl f] [] (sh, R, I) 0 0 _
  refine w_aload (pc' := 1) k40_0 rfl rfl ?_
  refine w_getR (pc' := 4) (v := 23) k40_1 rfl (hL.1 21 (6, 5) rfl) (hL.2 21 3 23 rfl) ?_
  refine w_iload (pc' := 5) k40_4 rfl rfl ?_
  refine w_iald (pc' := 6) (v := c f) k40_5 rfl (hL.1 23 (0, 16) rfl) (by omega) hcf.1 ?_
  refine w_if_le (pc' := 9) k40_6 rfl (fun c_6 => ?_) (fun c_6 => ?_)
  · refine w_c1 (pc' := 14) k40_13 rfl ?_
    exact w_retz k40_14 (Or.inl rfl) ⟨rfl, Or.inr ⟨rfl, by omega⟩⟩
  · refine w_c1 (pc' := 10) k40_9 rfl ?_
    refine w_goto k40_10 ?_
    exact w_retz k40_14 (Or.inr rfl) ⟨rfl, Or.inl ⟨rfl, by omega⟩⟩
theorem m41l (hL : LC sh R) (hU : UI I c q) {f : Int} (hf : 0 ≤ f ∧ f < 16) : ∀ (k t : Nat) (i m : Int), (t : Int) + k = c f → i = (t : Int) → m = moG c q f t → WP X (d + 1) 41 4 [.inr (some 21), .inl f, .inl m, .inl i] [] (sh, R, I) 0 0 (fun r h' => r = .inl (shG c q f) ∧ h' = (sh, R, I)) := by
  have hcf := hU.1 f hf.1 hf.2
  have hca := fun f h1 h2 => (hU.1 f h1 h2).2
  intro k
  induction k with
  | zero =>
    rintro t i m hk rfl rfl
    have e9 : (c f).toNat = t := by omega
    have hmo := moG_le (f := f) (q := q) hca t
    refine w_iload (pc' := 5) k41_4 rfl rfl ?_
    refine w_aload (pc' := 6) k41_5 rfl rfl ?_
    refine w_getR (pc' := 9) (v := 23) k41_6 rfl (hL.1 21 (6, 5) rfl) (hL.2 21 3 23 rfl) ?_
    refine w_iload (pc' := 10) k41_9 rfl rfl ?_
    refine w_iald (pc' := 11) (v := c f) k41_10 rfl (hL.1 23 (0, 16) rfl) (by omega) hcf.1 ?_
    refine w_ic_ge (pc' := 14) k41_11 rfl (fun c_11 => ?_) (fun c_11 => absurd c_11 (by omega))
    refine w_iload (pc' := 42) k41_41 rfl rfl ?_
    refine w_if_le (pc' := 45) k41_42 rfl (fun c_42 => ?_) (fun c_42 => ?_)
    · refine w_c1 (pc' := 53) k41_52 rfl ?_
      exact w_reti k41_53 ⟨by unfold shG; rw [e9]; first | rw [if_pos (by omega)] | rw [if_neg (by omega)], rfl⟩
    · refine w_ldc (pc' := 47) k41_45 rfl ?_
      refine w_iload (pc' := 48) k41_47 rfl rfl ?_
      refine w_idiv (pc' := 49) k41_48 rfl (by omega) ?_
      refine w_goto k41_49 ?_
      exact w_reti k41_53 ⟨by unfold shG; rw [e9]; first | rw [if_pos (by omega)] | rw [if_neg (by omega)], rfl⟩
  | succ k ih =>
    rintro t i m hk rfl rfl
    have hq9 := hU.2.1 f t hf.1 hf.2 (by omega) (by omega)
    have hub := usG_le (q := q) (u := q f t) hca
    have hmo := moG_le (f := f) (q := q) hca t
    refine w_iload (pc' := 5) k41_4 rfl rfl ?_
    refine w_aload (pc' := 6) k41_5 rfl rfl ?_
    refine w_getR (pc' := 9) (v := 23) k41_6 rfl (hL.1 21 (6, 5) rfl) (hL.2 21 3 23 rfl) ?_
    refine w_iload (pc' := 10) k41_9 rfl rfl ?_
    refine w_iald (pc' := 11) (v := c f) k41_10 rfl (hL.1 23 (0, 16) rfl) (by omega) hcf.1 ?_
    refine w_ic_ge (pc' := 14) k41_11 rfl (fun c_11 => absurd c_11 (by omega)) (fun c_11 => ?_)
    refine w_iload (pc' := 15) k41_14 rfl rfl ?_
    refine w_aload (pc' := 16) k41_15 rfl rfl ?_
    refine w_getR (pc' := 19) (v := 24) k41_16 rfl (hL.1 21 (6, 5) rfl) (hL.2 21 4 24 rfl) ?_
    refine w_aload (pc' := 20) k41_19 rfl rfl ?_
    refine w_getR (pc' := 23) (v := 22) k41_20 rfl (hL.1 21 (6, 5) rfl) (hL.2 21 2 22 rfl) ?_
    refine w_iload (pc' := 24) k41_23 rfl rfl ?_
    refine w_c2 (pc' := 26) k41_24 rfl ?_
    refine w_imul (pc' := 27) k41_26 rfl (by omega) ?_
    refine w_iload (pc' := 28) k41_27 rfl rfl ?_
    refine w_iadd (pc' := 29) k41_28 rfl (by omega) ?_
    refine w_iald (pc' := 30) (v := q f t) k41_29 rfl (hL.1 22 (0, 96) rfl) (by omega) hq9.1 ?_
    refine w_iald (pc' := 31) (v := usG c q (q f t)) k41_30 rfl (hL.1 24 (0, 324) rfl) (by omega) (hU.2.2 _ hq9.2.1 hq9.2.2) ?_
    refine w_mx (pc' := 34) k41_31 rfl rfl ?_
    refine w_istore (pc' := 35) (ls' := [_, _, _, _]) k41_34 rfl rfl rfl ?_
    refine w_iinc (pc' := 38) (ls' := [_, _, _, _]) k41_35 rfl rfl (by omega) rfl ?_
    refine w_goto k41_38 ?_
    exact ih (t + 1) _ _ (by omega) (by omega) rfl
theorem m41 (hL : LC sh R) (hU : UI I c q) {f : Int} (hf : 0 ≤ f ∧ f < 16) : RV X (d + 1) 41 [.inr (some 21), .inl f] (sh, R, I) (shG c q f) := by
  have hcf := hU.1 f hf.1 hf.2
  show WP X (d + 1) 41 0 [.inr (some 21), .inl f, .inr none, .inr none] [] (sh, R, I) 0 0 _
  refine w_c1 (pc' := 1) k41_0 rfl ?_
  refine w_istore (pc' := 2) (ls' := [_, _, _, _]) k41_1 rfl rfl rfl ?_
  refine w_c1 (pc' := 3) k41_2 rfl ?_
  refine w_istore (pc' := 4) (ls' := [_, _, _, _]) k41_3 rfl rfl rfl ?_
  exact m41l hL hU hf (c f).toNat 0 _ _ (by omega) rfl rfl
theorem m42l (hL : LC sh R) (hU : UI I c q) {N : Nat} (hN : N ≤ 16) : ∀ (k t : Nat) (i m : Int), t + k = N → i = (t : Int) → m = lsG c q t → WP X (d + 2) 42 5 [.inr (some 21), .inl (N : Int), .inl m, .inl i] [] (sh, R, I) 0 0 (fun r h' => r = .inl (lsG c q N) ∧ h' = (sh, R, I)) := by
  intro k
  induction k with
  | zero =>
    rintro t i m hk rfl rfl
    have e9 : t = N := by omega
    subst e9
    refine w_iload (pc' := 6) k42_5 rfl rfl ?_
    refine w_iload (pc' := 7) k42_6 rfl rfl ?_
    refine w_ic_ge (pc' := 10) k42_7 rfl (fun c_7 => ?_) (fun c_7 => absurd c_7 (by omega))
    refine w_iload (pc' := 27) k42_26 rfl rfl ?_
    exact w_reti k42_27 ⟨rfl, rfl⟩
  | succ k ih =>
    rintro t i m hk rfl rfl
    refine w_iload (pc' := 6) k42_5 rfl rfl ?_
    refine w_iload (pc' := 7) k42_6 rfl rfl ?_
    refine w_ic_ge (pc' := 10) k42_7 rfl (fun c_7 => absurd c_7 (by omega)) (fun c_7 => ?_)
    refine w_iload (pc' := 11) k42_10 rfl rfl ?_
    refine w_aload (pc' := 12) k42_11 rfl rfl ?_
    refine w_iload (pc' := 13) k42_12 rfl rfl ?_
    refine w_callE (pc' := 16) (as := [.inr (some 21), .inl _]) k42_13 rfl rfl (co_v rfl rfl (hL.1 21 (6, 5) rfl)) (by decide) (m41 hL hU (by omega)) ?_
    refine w_mn (pc' := 19) k42_16 rfl rfl ?_
    refine w_istore (pc' := 20) (ls' := [_, _, _, _]) k42_19 rfl rfl rfl ?_
    refine w_iinc (pc' := 23) (ls' := [_, _, _, _]) k42_20 rfl rfl (by omega) rfl ?_
    refine w_goto k42_23 ?_
    exact ih (t + 1) _ _ (by omega) (by omega) rfl
theorem m42 (hL : LC sh R) (hU : UI I c q) {n : Int} (hn : 0 ≤ n ∧ n ≤ 16) : RV X (d + 2) 42 [.inr (some 21), .inl n] (sh, R, I) (lsG c q n.toNat) := by
  obtain ⟨N, rfl⟩ : ∃ N : Nat, n = (N : Int) := ⟨n.toNat, by omega⟩
  show WP X (d + 2) 42 0 [.inr (some 21), .inl (N : Int), .inr none, .inr none] [] (sh, R, I) 0 0 _
  refine w_ldc (pc' := 2) k42_0 rfl ?_
  refine w_istore (pc' := 3) (ls' := [_, _, _, _]) k42_2 rfl rfl rfl ?_
  refine w_c1 (pc' := 4) k42_3 rfl ?_
  refine w_istore (pc' := 5) (ls' := [_, _, _, _]) k42_4 rfl rfl rfl ?_
  exact m42l hL hU (by omega) N 0 _ _ (by omega) rfl rfl
end C31
