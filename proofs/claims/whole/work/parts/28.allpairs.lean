/-! ===== CLASS: fill, all pairs ===== -/
section C28
variable {X : Nat × (Int → Int)} {d : Nat} {sh : List (Nat × Nat)} {R : Nat → Nat → Option Nat} {I : Nat → Int → Int} {s g_s M_s : Nat} {K H E HO S L B : Int} {A : AS}
theorem m189l {q n : Nat} {v : Int} (hq : sh[q]? = some (0, n)) (hn : n ≤ 100000) : ∀ (k t : Nat) (i : Int) (I1 : Nat → Int → Int), t + k = n → i = (t : Int) → (∀ a, a ≠ q → I1 a = I a) → (∀ j : Int, 0 ≤ j → j < t → I1 q j = v) → WP X (d + 1) 189 5 [.inr (some q), .inl v, .inl i, .inl (n : Int)] [] (sh, R, I1) 0 0 (fun _ h' => ∃ I', h' = (sh, R, I') ∧ (∀ a, a ≠ q → I' a = I a) ∧ ∀ j : Int, 0 ≤ j → j < n → I' q j = v) := by
  intro k
  induction k with
  | zero =>
    rintro t i I1 hk rfl h1 h2
    have e9 : t = n := by omega
    subst e9
    refine w_iload (pc' := 6) k189_5 rfl rfl ?_
    refine w_iload (pc' := 7) k189_6 rfl rfl ?_
    refine w_ic_ge (pc' := 10) k189_7 rfl (fun c_7 => ?_) (fun c_7 => absurd c_7 (by omega))
    exact w_retv k189_20 ⟨_, rfl, h1, h2⟩
  | succ k ih =>
    rintro t i I1 hk rfl h1 h2
    refine w_iload (pc' := 6) k189_5 rfl rfl ?_
    refine w_iload (pc' := 7) k189_6 rfl rfl ?_
    refine w_ic_ge (pc' := 10) k189_7 rfl (fun c_7 => absurd c_7 (by omega)) (fun c_7 => ?_)
    refine w_aload (pc' := 11) k189_10 rfl rfl ?_
    refine w_iload (pc' := 12) k189_11 rfl rfl ?_
    refine w_iload (pc' := 13) k189_12 rfl rfl ?_
    refine w_iast (pc' := 14) k189_13 rfl hq (by omega) ?_
    refine w_iinc (pc' := 17) (ls' := [_, _, _, _]) k189_14 rfl rfl (by omega) rfl ?_
    refine w_goto k189_17 ?_
    refine ih (t + 1) _ _ (by omega) (by omega) (fun a ha => by rw [upA_n ha]; exact h1 a ha) (fun j h3 h4 => ?_)
    rw [upA_s]
    by_cases e9 : j = t
    · subst e9; rw [upF_s]
    · rw [upF_n e9]; exact h2 j h3 (by omega)
theorem m189 {q n : Nat} {v : Int} (hq : sh[q]? = some (0, n)) (hn : n ≤ 100000) : WPM X (d + 1) 189 [.inr (some q), .inl v] (sh, R, I) 0 0 (fun _ h' => ∃ I', h' = (sh, R, I') ∧ (∀ a, a ≠ q → I' a = I a) ∧ ∀ j : Int, 0 ≤ j → j < n → I' q j = v) := by
  show WP X (d + 1) 189 0 [.inr (some q), .inl v, .inr none, .inr none] [] (sh, R, I) 0 0 _
  refine w_c1 (pc' := 1) k189_0 rfl ?_
  refine w_istore (pc' := 2) (ls' := [_, _, _, _]) k189_1 rfl rfl rfl ?_
  refine w_aload (pc' := 3) k189_2 rfl rfl ?_
  refine w_alen (pc' := 4) k189_3 rfl hq rfl ?_
  refine w_istore (pc' := 5) (ls' := [_, _, _, _]) k189_4 rfl rfl rfl ?_
  exact m189l hq hn n 0 _ _ (by omega) rfl (fun _ _ => rfl) (fun j h1 h2 => by omega)
theorem m7 (hF : CF sh R I K H E HO S L B s g_s M_s A) {n b ss : Int} (hn : 0 ≤ n ∧ n < E) (hb : 0 ≤ b ∧ b < HO) (j3 : I 12 3 = pV H E A n b ss) (j13 : ∀ k : Nat, k < pV H E A n b ss → I 13 k = pN H E A n b ss k) (j14 : ∀ k : Nat, k + 1 < pV H E A n b ss → I 14 k = pL H E A n b ss k) {k : Nat} (hk : k + 1 < pV H E A n b ss) : BV X (d + 1) 7 [.inr (some 12), .inl (k : Int)] (sh, R, I) (pL H E A n b ss k / H = pN H E A n b ss k) := by
  have hF0 := hF
  obtain ⟨hL, hK, hsp, h_s, m_s, n_s, hg, hM, hLS, hcs, hab, hB⟩ := hF
  have hr := hK.r
  have hv := pV_r (H := H) (E := E) (A := A) (n := n) (b := b) (s := ss)
  have hl0 := pV_go hk
  have hpn := pN_range (A := A) (s := ss) hK ⟨hn.1, by omega⟩ hb k (fun x hx => pV_go (by omega))
  have hlr := nl_range (A := A) (s := ss) hK hpn hb
  have hl : 0 ≤ pL H E A n b ss k ∧ pL H E A n b ss k < L := by unfold pL at hl0 ⊢; omega
  show WP X (d + 1) 7 0 [.inr (some 12), .inl (k : Int)] [] (sh, R, I) 0 0 _
  refine w_aload (pc' := 1) k7_0 rfl rfl ?_
  refine w_getR (pc' := 4) (v := 3) k7_1 rfl (hL.1 12 (3, 5) rfl) (hL.2 12 0 3 rfl) ?_
  refine w_getR (pc' := 7) (v := 8) k7_4 rfl (hL.1 3 (5, 14) rfl) (hL.2 3 10 8 rfl) ?_
  refine w_aload (pc' := 8) k7_7 rfl rfl ?_
  refine w_getR (pc' := 11) (v := 14) k7_8 rfl (hL.1 12 (3, 5) rfl) (hL.2 12 2 14 rfl) ?_
  refine w_iload (pc' := 12) k7_11 rfl rfl ?_
  refine w_iald (pc' := 13) (v := pL H E A n b ss k) k7_12 rfl (hL.1 14 (0, 5) rfl) (by omega) (j14 k hk) ?_
  refine w_iald (pc' := 14) (v := pL H E A n b ss k / H) k7_13 rfl (hL.1 8 (0, 108) rfl) (by omega) (hsp.2.2.2.2.2.2.2.1 _ hl.1 hl.2).1 ?_
  refine w_aload (pc' := 15) k7_14 rfl rfl ?_
  refine w_getR (pc' := 18) (v := 13) k7_15 rfl (hL.1 12 (3, 5) rfl) (hL.2 12 1 13 rfl) ?_
  refine w_iload (pc' := 19) k7_18 rfl rfl ?_
  refine w_iald (pc' := 20) (v := pN H E A n b ss k) k7_19 rfl (hL.1 13 (0, 5) rfl) (by omega) (j13 k (by omega)) ?_
  refine w_ic_ne (pc' := 23) k7_20 rfl (fun c_20 => ?_) (fun c_20 => ?_)
  · refine w_c1 (pc' := 28) k7_27 rfl ?_
    exact w_retz k7_28 (Or.inl rfl) ⟨rfl, Or.inr ⟨rfl, by omega⟩⟩
  · refine w_c1 (pc' := 24) k7_23 rfl ?_
    refine w_goto k7_24 ?_
    exact w_retz k7_28 (Or.inr rfl) ⟨rfl, Or.inl ⟨rfl, by omega⟩⟩
theorem m2l (hF : CF sh R I K H E HO S L B s g_s M_s A) {n b ss : Int} (hn : 0 ≤ n ∧ n < E) (hb : 0 ≤ b ∧ b < HO) (j3 : I 12 3 = pV H E A n b ss) (j13 : ∀ k : Nat, k < pV H E A n b ss → I 13 k = pN H E A n b ss k) (j14 : ∀ k : Nat, k + 1 < pV H E A n b ss → I 14 k = pL H E A n b ss k) (hU : ∀ l, 0 ≤ l → l < L → 0 ≤ I 19 l ∧ I 19 l ≤ 100000) (hD : ∀ l, 0 ≤ l → l < L → 0 ≤ I 20 l ∧ I 20 l ≤ 100000) : ∀ (k t : Nat) (i : Int) (v2 : VV) (I1 : Nat → Int → Int), t + k + 1 = pV H E A n b ss → i = (t : Int) → (∀ a, a ≠ 19 → a ≠ 20 → I1 a = I a) → (∀ l, 0 ≤ l → l < L → I1 19 l = I 19 l + H * cnt (uP H E A n b ss l) t ∧ I1 20 l = I 20 l + H * cnt (dP H E A n b ss l) t) → WP X (d + 2) 2 2 [.inr (some 18), .inl i, v2] [] (sh, R, I1) 0 0 (fun _ h' => ∃ I', h' = (sh, R, I') ∧ (∀ a, a ≠ 19 → a ≠ 20 → I' a = I a) ∧ (∀ l, 0 ≤ l → l < L → I' 19 l = I 19 l + H * uC H E A n b ss l ∧ I' 20 l = I 20 l + H * dC H E A n b ss l)) := by
  have hK := hF.2.1
  have hr := hK.r
  have hv := pV_r (H := H) (E := E) (A := A) (n := n) (b := b) (s := ss)
  intro k
  induction k with
  | zero =>
    rintro t i v2 I1 hk rfl h1 h2
    have hF1 : CF sh R I1 K H E HO S L B s g_s M_s A := hF.keep (fun x hx => h1 x (by omega) (by omega))
    obtain ⟨hL, -, hsp, -⟩ := id hF1
    have e9 : t = pV H E A n b ss - 1 := by omega
    have hj3 : I1 12 3 = pV H E A n b ss := by rw [h1 12 (by decide) (by decide)]; exact j3
    subst e9
    refine w_iload (pc' := 3) k2_2 rfl rfl ?_
    refine w_aload (pc' := 4) k2_3 rfl rfl ?_
    refine w_getR (pc' := 7) (v := 12) k2_4 rfl (hL.1 18 (2, 5) rfl) (hL.2 18 1 12 rfl) ?_
    refine w_getI (pc' := 10) (ki := 3) (v := pV H E A n b ss) k2_7 rfl (hL.1 12 (3, 5) rfl) rfl hj3 ?_
    refine w_c1 (pc' := 11) k2_10 rfl ?_
    refine w_isub (pc' := 12) k2_11 rfl (by omega) ?_
    refine w_ic_ge (pc' := 15) k2_12 rfl (fun c_12 => ?_) (fun c_12 => absurd c_12 (by omega))
    exact w_retv k2_65 ⟨_, rfl, h1, h2⟩
  | succ k ih =>
    rintro t i v2 I1 hk rfl h1 h2
    have hF1 : CF sh R I1 K H E HO S L B s g_s M_s A := hF.keep (fun x hx => h1 x (by omega) (by omega))
    obtain ⟨hL, -, hsp, -⟩ := id hF1
    have e12 := h1 12 (by decide) (by decide)
    have e13 := h1 13 (by decide) (by decide)
    have e14 := h1 14 (by decide) (by decide)
    have hj3 : I1 12 3 = pV H E A n b ss := by rw [e12]; exact j3
    have hkk : t + 1 < pV H E A n b ss := by omega
    have hl0 := pV_go hkk
    have hpn := pN_range (A := A) (s := ss) hK ⟨hn.1, by omega⟩ hb t (fun x hx => pV_go (by omega))
    have hlr := nl_range (A := A) (s := ss) hK hpn hb
    have hl : 0 ≤ pL H E A n b ss t ∧ pL H E A n b ss t < L := by unfold pL at hl0 ⊢; omega
    have hbU := hU _ hl.1 hl.2
    have hbD := hD _ hl.1 hl.2
    have hcu := cnt_le (uP H E A n b ss (pL H E A n b ss t)) t
    have hcd := cnt_le (dP H E A n b ss (pL H E A n b ss t)) t
    have h2p := h2 _ hl.1 hl.2
    have hmu : 0 ≤ H * cnt (uP H E A n b ss (pL H E A n b ss t)) t ∧ H * cnt (uP H E A n b ss (pL H E A n b ss t)) t ≤ 3 * 5 := ⟨Int.mul_nonneg (by omega) (by omega), Int.mul_le_mul (by omega) (by omega) (by omega) (by omega)⟩
    have hmd : 0 ≤ H * cnt (dP H E A n b ss (pL H E A n b ss t)) t ∧ H * cnt (dP H E A n b ss (pL H E A n b ss t)) t ≤ 3 * 5 := ⟨Int.mul_nonneg (by omega) (by omega), Int.mul_le_mul (by omega) (by omega) (by omega) (by omega)⟩
    refine w_iload (pc' := 3) k2_2 rfl rfl ?_
    refine w_aload (pc' := 4) k2_3 rfl rfl ?_
    refine w_getR (pc' := 7) (v := 12) k2_4 rfl (hL.1 18 (2, 5) rfl) (hL.2 18 1 12 rfl) ?_
    refine w_getI (pc' := 10) (ki := 3) (v := pV H E A n b ss) k2_7 rfl (hL.1 12 (3, 5) rfl) rfl hj3 ?_
    refine w_c1 (pc' := 11) k2_10 rfl ?_
    refine w_isub (pc' := 12) k2_11 rfl (by omega) ?_
    refine w_ic_ge (pc' := 15) k2_12 rfl (fun c_12 => absurd c_12 (by omega)) (fun c_12 => ?_)
    refine w_aload (pc' := 16) k2_15 rfl rfl ?_
    refine w_getR (pc' := 19) (v := 12) k2_16 rfl (hL.1 18 (2, 5) rfl) (hL.2 18 1 12 rfl) ?_
    refine w_iload (pc' := 20) k2_19 rfl rfl ?_
    refine w_callB (pc' := 23) (as := [.inr (some 12), .inl _]) k2_20 rfl rfl (co_v rfl rfl (hL.1 12 (3, 5) rfl)) (by decide) (m7 hF1 hn hb hj3 (by rw [e13]; exact j13) (by rw [e14]; exact j14) hkk) (fun q_20 => ?_) (fun q_20 => ?_)
    · refine w_if_eq (pc' := 26) k2_23 rfl (fun c_23 => absurd c_23 (by decide)) (fun _ => ?_)
      refine w_aload (pc' := 27) k2_26 rfl rfl ?_
      refine w_getR (pc' := 30) (v := 19) k2_27 rfl (hL.1 18 (2, 5) rfl) (hL.2 18 2 19 rfl) ?_
      refine w_goto k2_30 ?_
      refine w_astore (pc' := 38) (ls' := [_, _, _]) k2_37 rfl rfl rfl ?_
      refine w_aload (pc' := 39) k2_38 rfl rfl ?_
      refine w_aload (pc' := 40) k2_39 rfl rfl ?_
      refine w_getR (pc' := 43) (v := 12) k2_40 rfl (hL.1 18 (2, 5) rfl) (hL.2 18 1 12 rfl) ?_
      refine w_getR (pc' := 46) (v := 14) k2_43 rfl (hL.1 12 (3, 5) rfl) (hL.2 12 2 14 rfl) ?_
      refine w_iload (pc' := 47) k2_46 rfl rfl ?_
      refine w_iald (pc' := 48) (v := pL H E A n b ss t) k2_47 rfl (hL.1 14 (0, 5) rfl) (by omega) (by rw [e14]; exact j14 t hkk) ?_
      refine w_dup2 (pc' := 49) k2_48 rfl ?_
      refine w_iald (pc' := 50) k2_49 rfl (hL.1 19 (0, 108) rfl) (by omega) rfl ?_
      refine w_aload (pc' := 51) k2_50 rfl rfl ?_
      refine w_getR (pc' := 54) (v := 3) k2_51 rfl (hL.1 18 (2, 5) rfl) (hL.2 18 0 3 rfl) ?_
      refine w_getI (pc' := 57) (ki := 1) (v := H) k2_54 rfl (hL.1 3 (5, 14) rfl) rfl hsp.2.1 ?_
      refine w_iadd (pc' := 58) k2_57 rfl (by omega) ?_
      refine w_iast (pc' := 59) k2_58 rfl (hL.1 19 (0, 108) rfl) (by omega) ?_
      refine w_iinc (pc' := 62) (ls' := [_, _, _]) k2_59 rfl rfl (by omega) rfl ?_
      refine w_goto k2_62 ?_
      refine ih (t + 1) _ _ _ (by omega) (by omega) (fun a h3 h4 => by rw [upA_n h3]; exact h1 a h3 h4) (fun l h3 h4 => ?_)
      have h2l := h2 l h3 h4
      by_cases e9 : l = pL H E A n b ss t
      · subst e9
        rw [cnt_t (P := uP H E A n b ss _) (by unfold uP; simp [q_20]), cnt_f (P := dP H E A n b ss _) (by unfold dP; simp [q_20])]
        rw [upA_s, upF_s, upA_n (by decide)]
        refine ⟨?_, ?_⟩
        · rw [h2l.1, Int.mul_add]; omega
        · exact h2l.2
      · rw [cnt_f (P := uP H E A n b ss _) (by unfold uP; simp; intro z; exact absurd z.symm e9), cnt_f (P := dP H E A n b ss _) (by unfold dP; simp; intro z; exact absurd z.symm e9)]
        rw [upA_s, upF_n e9, upA_n (by decide)]
        exact h2l
    · refine w_if_eq (pc' := 26) k2_23 rfl (fun _ => ?_) (fun c_23 => absurd c_23 (by decide))
      refine w_aload (pc' := 34) k2_33 rfl rfl ?_
      refine w_getR (pc' := 37) (v := 20) k2_34 rfl (hL.1 18 (2, 5) rfl) (hL.2 18 3 20 rfl) ?_
      refine w_astore (pc' := 38) (ls' := [_, _, _]) k2_37 rfl rfl rfl ?_
      refine w_aload (pc' := 39) k2_38 rfl rfl ?_
      refine w_aload (pc' := 40) k2_39 rfl rfl ?_
      refine w_getR (pc' := 43) (v := 12) k2_40 rfl (hL.1 18 (2, 5) rfl) (hL.2 18 1 12 rfl) ?_
      refine w_getR (pc' := 46) (v := 14) k2_43 rfl (hL.1 12 (3, 5) rfl) (hL.2 12 2 14 rfl) ?_
      refine w_iload (pc' := 47) k2_46 rfl rfl ?_
      refine w_iald (pc' := 48) (v := pL H E A n b ss t) k2_47 rfl (hL.1 14 (0, 5) rfl) (by omega) (by rw [e14]; exact j14 t hkk) ?_
      refine w_dup2 (pc' := 49) k2_48 rfl ?_
      refine w_iald (pc' := 50) k2_49 rfl (hL.1 20 (0, 108) rfl) (by omega) rfl ?_
      refine w_aload (pc' := 51) k2_50 rfl rfl ?_
      refine w_getR (pc' := 54) (v := 3) k2_51 rfl (hL.1 18 (2, 5) rfl) (hL.2 18 0 3 rfl) ?_
      refine w_getI (pc' := 57) (ki := 1) (v := H) k2_54 rfl (hL.1 3 (5, 14) rfl) rfl hsp.2.1 ?_
      refine w_iadd (pc' := 58) k2_57 rfl (by omega) ?_
      refine w_iast (pc' := 59) k2_58 rfl (hL.1 20 (0, 108) rfl) (by omega) ?_
      refine w_iinc (pc' := 62) (ls' := [_, _, _]) k2_59 rfl rfl (by omega) rfl ?_
      refine w_goto k2_62 ?_
      refine ih (t + 1) _ _ _ (by omega) (by omega) (fun a h3 h4 => by rw [upA_n h4]; exact h1 a h3 h4) (fun l h3 h4 => ?_)
      have h2l := h2 l h3 h4
      by_cases e9 : l = pL H E A n b ss t
      · subst e9
        rw [cnt_f (P := uP H E A n b ss _) (by unfold uP; simp [q_20]), cnt_t (P := dP H E A n b ss _) (by unfold dP; simp [q_20])]
        rw [upA_n (by decide), upA_s, upF_s]
        refine ⟨?_, ?_⟩
        · exact h2l.1
        · rw [h2l.2, Int.mul_add]; omega
      · rw [cnt_f (P := uP H E A n b ss _) (by unfold uP; simp; intro z; exact absurd z.symm e9), cnt_f (P := dP H E A n b ss _) (by unfold dP; simp; intro z; exact absurd z.symm e9)]
        rw [upA_n (by decide), upA_s, upF_n e9]
        exact h2l
theorem m2 (hF : CF sh R I K H E HO S L B s g_s M_s A) {n b ss : Int} (hn : 0 ≤ n ∧ n < E) (hb : 0 ≤ b ∧ b < HO) (j3 : I 12 3 = pV H E A n b ss) (j13 : ∀ k : Nat, k < pV H E A n b ss → I 13 k = pN H E A n b ss k) (j14 : ∀ k : Nat, k + 1 < pV H E A n b ss → I 14 k = pL H E A n b ss k) (hU : ∀ l, 0 ≤ l → l < L → 0 ≤ I 19 l ∧ I 19 l ≤ 100000) (hD : ∀ l, 0 ≤ l → l < L → 0 ≤ I 20 l ∧ I 20 l ≤ 100000) : WPM X (d + 2) 2 [.inr (some 18)] (sh, R, I) 0 0 (fun _ h' => ∃ I', h' = (sh, R, I') ∧ (∀ a, a ≠ 19 → a ≠ 20 → I' a = I a) ∧ (∀ l, 0 ≤ l → l < L → I' 19 l = I 19 l + H * uC H E A n b ss l ∧ I' 20 l = I 20 l + H * dC H E A n b ss l)) := by
  have hv := pV_r (H := H) (E := E) (A := A) (n := n) (b := b) (s := ss)
  show WP X (d + 2) 2 0 [.inr (some 18), .inr none, .inr none] [] (sh, R, I) 0 0 _
  refine w_c1 (pc' := 1) k2_0 rfl ?_
  refine w_istore (pc' := 2) (ls' := [_, _, _]) k2_1 rfl rfl rfl ?_
  exact m2l hF hn hb j3 j13 j14 hU hD (pV H E A n b ss - 1) 0 _ _ _ (by omega) rfl (fun _ _ _ => rfl) (fun l _ _ => ⟨by simp [cnt, sumN], by simp [cnt, sumN]⟩)
end C28
