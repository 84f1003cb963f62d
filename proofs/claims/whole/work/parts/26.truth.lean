/-! ===== CLASS: Truth ===== -/
section C26
variable {X : Nat × (Int → Int)} {d : Nat} {sh : List (Nat × Nat)} {R : Nat → Nat → Option Nat} {I : Nat → Int → Int} {s g_s M_s : Nat} {K H E HO S L B : Int} {A : AS}
theorem m63l (hF : CF sh R I K H E HO S L B s g_s M_s A) {p q j w : Int} (hp : 0 ≤ p ∧ p < K) (hq : 0 ≤ q ∧ q < K) (hj : 0 ≤ j ∧ j < H) {N : Nat} (hN : H = (N : Int)) : ∀ (k n : Nat) (c i : Int), n + k = N → c = cnt (fun m => opC A w ((E + p * H + j) * H + m) && opC A w ((E + q * H + j) * H + m)) n → i = (n : Int) → WP X (d + 3) 63 13 [.inr (some 17), .inr (some s), .inl p, .inl q, .inl j, .inl w, .inl c, .inl i] [] (sh, R, I) 0 0 (fun r h' => r = .inl (cnt (fun m => opC A w ((E + p * H + j) * H + m) && opC A w ((E + q * H + j) * H + m)) N) ∧ h' = (sh, R, I)) := by
  have hF0 := hF
  obtain ⟨hL, hK, hsp, h_s, m_s, n_s, hg, hM, hLS, hcs, hab, hB⟩ := hF
  have hr := hK.r
  intro k
  induction k with
  | zero =>
    rintro n c i hk rfl rfl
    have e : n = N := by omega
    subst e
    refine w_iload (pc' := 15) k63_13 rfl rfl ?_
    refine w_aload (pc' := 16) k63_15 rfl rfl ?_
    refine w_getR (pc' := 19) (v := 3) k63_16 rfl (hL.1 17 (9, 3) rfl) (hL.2 17 0 3 rfl) ?_
    refine w_getI (pc' := 22) (ki := 1) (v := H) k63_19 rfl (hL.1 3 (5, 14) rfl) rfl hsp.2.1 ?_
    refine w_ic_ge (pc' := 25) k63_22 rfl (fun c_22 => ?_) (fun c_22 => absurd c_22 (by omega))
    refine w_iload (pc' := 94) k63_92 rfl rfl ?_
    exact w_reti k63_94 ⟨rfl, rfl⟩
  | succ k ih =>
    rintro n c i hk rfl rfl
    have hc := cnt_le (fun m => opC A w ((E + p * H + j) * H + m) && opC A w ((E + q * H + j) * H + m)) n
    refine w_iload (pc' := 15) k63_13 rfl rfl ?_
    refine w_aload (pc' := 16) k63_15 rfl rfl ?_
    refine w_getR (pc' := 19) (v := 3) k63_16 rfl (hL.1 17 (9, 3) rfl) (hL.2 17 0 3 rfl) ?_
    refine w_getI (pc' := 22) (ki := 1) (v := H) k63_19 rfl (hL.1 3 (5, 14) rfl) rfl hsp.2.1 ?_
    refine w_ic_ge (pc' := 25) k63_22 rfl (fun c_22 => absurd c_22 (by omega)) (fun c_22 => ?_)
    refine w_aload (pc' := 26) k63_25 rfl rfl ?_
    refine w_aload (pc' := 27) k63_26 rfl rfl ?_
    refine w_aload (pc' := 28) k63_27 rfl rfl ?_
    refine w_getR (pc' := 31) (v := 3) k63_28 rfl (hL.1 17 (9, 3) rfl) (hL.2 17 0 3 rfl) ?_
    refine w_aload (pc' := 32) k63_31 rfl rfl ?_
    refine w_getR (pc' := 35) (v := 3) k63_32 rfl (hL.1 17 (9, 3) rfl) (hL.2 17 0 3 rfl) ?_
    refine w_iload (pc' := 36) k63_35 rfl rfl ?_
    refine w_iload (pc' := 38) k63_36 rfl rfl ?_
    refine w_callE (pc' := 41) (as := [.inr (some 3), .inl _, .inl _]) k63_38 rfl rfl (co_v rfl rfl (hL.1 3 (5, 14) rfl)) (by decide) (m29 hF0 (by first | omega | (rcases hK with ⟨rfl, rfl, rfl, rfl, rfl, rfl⟩ | ⟨rfl, rfl, rfl, rfl, rfl, rfl⟩ | ⟨rfl, rfl, rfl, rfl, rfl, rfl⟩ <;> omega)) (by first | omega | (rcases hK with ⟨rfl, rfl, rfl, rfl, rfl, rfl⟩ | ⟨rfl, rfl, rfl, rfl, rfl, rfl⟩ | ⟨rfl, rfl, rfl, rfl, rfl, rfl⟩ <;> omega))) ?_
    refine w_iload (pc' := 43) k63_41 rfl rfl ?_
    refine w_callE (pc' := 46) (as := [.inr (some 3), .inl _, .inl _]) k63_43 rfl rfl (co_v rfl rfl (hL.1 3 (5, 14) rfl)) (by decide) (m31 hF0 (by first | omega | (rcases hK with ⟨rfl, rfl, rfl, rfl, rfl, rfl⟩ | ⟨rfl, rfl, rfl, rfl, rfl, rfl⟩ | ⟨rfl, rfl, rfl, rfl, rfl, rfl⟩ <;> omega)) (by first | omega | (rcases hK with ⟨rfl, rfl, rfl, rfl, rfl, rfl⟩ | ⟨rfl, rfl, rfl, rfl, rfl, rfl⟩ | ⟨rfl, rfl, rfl, rfl, rfl, rfl⟩ <;> omega))) ?_
    refine w_iload (pc' := 48) k63_46 rfl rfl ?_
    refine w_callB (pc' := 51) (as := [.inr (some 17), .inr (some s), .inl _, .inl _]) k63_48 rfl rfl (co_v rfl rfl (hL.1 17 (9, 3) rfl)) (by decide) (m64 hF0 (by first | omega | (rcases hK with ⟨rfl, rfl, rfl, rfl, rfl, rfl⟩ | ⟨rfl, rfl, rfl, rfl, rfl, rfl⟩ | ⟨rfl, rfl, rfl, rfl, rfl, rfl⟩ <;> omega))) (fun q_48 => ?_) (fun q_48 => ?_)
    · refine w_if_eq (pc' := 54) k63_51 rfl (fun c_51 => absurd c_51 (by decide)) (fun _ => ?_)
      refine w_aload (pc' := 55) k63_54 rfl rfl ?_
      refine w_aload (pc' := 56) k63_55 rfl rfl ?_
      refine w_aload (pc' := 57) k63_56 rfl rfl ?_
      refine w_getR (pc' := 60) (v := 3) k63_57 rfl (hL.1 17 (9, 3) rfl) (hL.2 17 0 3 rfl) ?_
      refine w_aload (pc' := 61) k63_60 rfl rfl ?_
      refine w_getR (pc' := 64) (v := 3) k63_61 rfl (hL.1 17 (9, 3) rfl) (hL.2 17 0 3 rfl) ?_
      refine w_iload (pc' := 65) k63_64 rfl rfl ?_
      refine w_iload (pc' := 67) k63_65 rfl rfl ?_
      refine w_callE (pc' := 70) (as := [.inr (some 3), .inl _, .inl _]) k63_67 rfl rfl (co_v rfl rfl (hL.1 3 (5, 14) rfl)) (by decide) (m29 hF0 (by first | omega | (rcases hK with ⟨rfl, rfl, rfl, rfl, rfl, rfl⟩ | ⟨rfl, rfl, rfl, rfl, rfl, rfl⟩ | ⟨rfl, rfl, rfl, rfl, rfl, rfl⟩ <;> omega)) (by first | omega | (rcases hK with ⟨rfl, rfl, rfl, rfl, rfl, rfl⟩ | ⟨rfl, rfl, rfl, rfl, rfl, rfl⟩ | ⟨rfl, rfl, rfl, rfl, rfl, rfl⟩ <;> omega))) ?_
      refine w_iload (pc' := 72) k63_70 rfl rfl ?_
      refine w_callE (pc' := 75) (as := [.inr (some 3), .inl _, .inl _]) k63_72 rfl rfl (co_v rfl rfl (hL.1 3 (5, 14) rfl)) (by decide) (m31 hF0 (by first | omega | (rcases hK with ⟨rfl, rfl, rfl, rfl, rfl, rfl⟩ | ⟨rfl, rfl, rfl, rfl, rfl, rfl⟩ | ⟨rfl, rfl, rfl, rfl, rfl, rfl⟩ <;> omega)) (by first | omega | (rcases hK with ⟨rfl, rfl, rfl, rfl, rfl, rfl⟩ | ⟨rfl, rfl, rfl, rfl, rfl, rfl⟩ | ⟨rfl, rfl, rfl, rfl, rfl, rfl⟩ <;> omega))) ?_
      refine w_iload (pc' := 77) k63_75 rfl rfl ?_
      refine w_callB (pc' := 80) (as := [.inr (some 17), .inr (some s), .inl _, .inl _]) k63_77 rfl rfl (co_v rfl rfl (hL.1 17 (9, 3) rfl)) (by decide) (m64 hF0 (by first | omega | (rcases hK with ⟨rfl, rfl, rfl, rfl, rfl, rfl⟩ | ⟨rfl, rfl, rfl, rfl, rfl, rfl⟩ | ⟨rfl, rfl, rfl, rfl, rfl, rfl⟩ <;> omega))) (fun q_77 => ?_) (fun q_77 => ?_)
      · refine w_if_eq (pc' := 83) k63_80 rfl (fun c_80 => absurd c_80 (by decide)) (fun _ => ?_)
        refine w_iinc (pc' := 86) (ls' := [_, _, _, _, _, _, _, _]) k63_83 rfl rfl (by first | omega | (rcases hK with ⟨rfl, rfl, rfl, rfl, rfl, rfl⟩ | ⟨rfl, rfl, rfl, rfl, rfl, rfl⟩ | ⟨rfl, rfl, rfl, rfl, rfl, rfl⟩ <;> omega)) rfl ?_
        refine w_iinc (pc' := 89) (ls' := [_, _, _, _, _, _, _, _]) k63_86 rfl rfl (by first | omega | (rcases hK with ⟨rfl, rfl, rfl, rfl, rfl, rfl⟩ | ⟨rfl, rfl, rfl, rfl, rfl, rfl⟩ | ⟨rfl, rfl, rfl, rfl, rfl, rfl⟩ <;> omega)) rfl ?_
        refine w_goto k63_89 ?_
        exact ih (n + 1) _ _ (by omega) (by first | rw [cnt_t (by rw [Bool.and_eq_true, opC_t, opC_t]; exact ⟨q_48, q_77⟩)] | rw [cnt_f (by rw [Bool.eq_false_iff, ne_eq, Bool.and_eq_true, opC_t, opC_t]; exact fun z => q_77 z.2)] | rw [cnt_f (by rw [Bool.eq_false_iff, ne_eq, Bool.and_eq_true, opC_t, opC_t]; exact fun z => q_48 z.1)]) (by omega)
      · refine w_if_eq (pc' := 83) k63_80 rfl (fun _ => ?_) (fun c_80 => absurd c_80 (by decide))
        refine w_iinc (pc' := 89) (ls' := [_, _, _, _, _, _, _, _]) k63_86 rfl rfl (by first | omega | (rcases hK with ⟨rfl, rfl, rfl, rfl, rfl, rfl⟩ | ⟨rfl, rfl, rfl, rfl, rfl, rfl⟩ | ⟨rfl, rfl, rfl, rfl, rfl, rfl⟩ <;> omega)) rfl ?_
        refine w_goto k63_89 ?_
        exact ih (n + 1) _ _ (by omega) (by first | rw [cnt_t (by rw [Bool.and_eq_true, opC_t, opC_t]; exact ⟨q_48, q_77⟩)] | rw [cnt_f (by rw [Bool.eq_false_iff, ne_eq, Bool.and_eq_true, opC_t, opC_t]; exact fun z => q_77 z.2)] | rw [cnt_f (by rw [Bool.eq_false_iff, ne_eq, Bool.and_eq_true, opC_t, opC_t]; exact fun z => q_48 z.1)]) (by omega)
    · refine w_if_eq (pc' := 54) k63_51 rfl (fun _ => ?_) (fun c_51 => absurd c_51 (by decide))
      refine w_iinc (pc' := 89) (ls' := [_, _, _, _, _, _, _, _]) k63_86 rfl rfl (by first | omega | (rcases hK with ⟨rfl, rfl, rfl, rfl, rfl, rfl⟩ | ⟨rfl, rfl, rfl, rfl, rfl, rfl⟩ | ⟨rfl, rfl, rfl, rfl, rfl, rfl⟩ <;> omega)) rfl ?_
      refine w_goto k63_89 ?_
      exact ih (n + 1) _ _ (by omega) (by first | rw [cnt_t (by rw [Bool.and_eq_true, opC_t, opC_t]; exact ⟨q_48, q_77⟩)] | rw [cnt_f (by rw [Bool.eq_false_iff, ne_eq, Bool.and_eq_true, opC_t, opC_t]; exact fun z => q_77 z.2)] | rw [cnt_f (by rw [Bool.eq_false_iff, ne_eq, Bool.and_eq_true, opC_t, opC_t]; exact fun z => q_48 z.1)]) (by omega)
theorem m63 (hF : CF sh R I K H E HO S L B s g_s M_s A) {p q j w : Int} (hp : 0 ≤ p ∧ p < K) (hq : 0 ≤ q ∧ q < K) (hj : 0 ≤ j ∧ j < H) : RV X (d + 3) 63 [.inr (some 17), .inr (some s), .inl p, .inl q, .inl j, .inl w] (sh, R, I) (wMid H E (opC A w) p q j) := by
  have hF0 := hF
  obtain ⟨hL, hK, hsp, h_s, m_s, n_s, hg, hM, hLS, hcs, hab, hB⟩ := hF
  have hr := hK.r
  unfold wMid
  show WP X (d + 3) 63 0 [.inr (some 17), .inr (some s), .inl p, .inl q, .inl j, .inl w, .inr none, .inr none] [] (sh, R, I) 0 0 _
  refine w_iload (pc' := 1) k63_0 rfl rfl ?_
  refine w_iload (pc' := 2) k63_1 rfl rfl ?_
  refine w_ic_ne (pc' := 5) k63_2 rfl (fun c_2 => ?_) (fun c_2 => ?_)
  · refine w_c1 (pc' := 8) k63_7 rfl ?_
    refine w_istore (pc' := 10) (ls' := [_, _, _, _, _, _, _, _]) k63_8 rfl rfl rfl ?_
    refine w_c1 (pc' := 11) k63_10 rfl ?_
    refine w_istore (pc' := 13) (ls' := [_, _, _, _, _, _, _, _]) k63_11 rfl rfl rfl ?_
    refine WP.mono (m63l hF0 hp hq hj (N := H.toNat) (by omega) H.toNat 0 _ _ (by omega) rfl rfl) (fun r h' z => by rw [if_neg c_2]; exact z)
  · refine w_c1 (pc' := 6) k63_5 rfl ?_
    exact w_reti k63_6 ⟨by rw [if_pos c_2], rfl⟩
theorem m62l (hF : CF sh R I K H E HO S L B s g_s M_s A) {e o w : Int} (he : 0 ≤ e ∧ e < E) (ho : 0 ≤ o ∧ o < E) {N : Nat} (hN : H = (N : Int)) : ∀ (k n : Nat) (c i : Int), n + k = N → c = sumN (wJ H E (opC A w) e o) n → i = (n : Int) → WP X (d + 4) 62 13 [.inr (some 17), .inr (some s), .inl e, .inl o, .inl w, .inl c, .inl i] [] (sh, R, I) 0 0 (fun r h' => r = .inl (sumN (wJ H E (opC A w) e o) N) ∧ h' = (sh, R, I)) := by
  have hF0 := hF
  obtain ⟨hL, hK, hsp, h_s, m_s, n_s, hg, hM, hLS, hcs, hab, hB⟩ := hF
  have hr := hK.r
  intro k
  induction k with
  | zero =>
    rintro n c i hk rfl rfl
    have e9 : n = N := by omega
    subst e9
    refine w_iload (pc' := 15) k62_13 rfl rfl ?_
    refine w_aload (pc' := 16) k62_15 rfl rfl ?_
    refine w_getR (pc' := 19) (v := 3) k62_16 rfl (hL.1 17 (9, 3) rfl) (hL.2 17 0 3 rfl) ?_
    refine w_getI (pc' := 22) (ki := 1) (v := H) k62_19 rfl (hL.1 3 (5, 14) rfl) rfl hsp.2.1 ?_
    refine w_ic_ge (pc' := 25) k62_22 rfl (fun c_22 => ?_) (fun c_22 => absurd c_22 (by omega))
    refine w_iload (pc' := 105) k62_103 rfl rfl ?_
    exact w_reti k62_105 ⟨rfl, rfl⟩
  | succ k ih =>
    rintro n c i hk rfl rfl
    have hc := sumN_le (f := (wJ H E (opC A w) e o)) (C := 3) n (fun i _ => wJ_le hr.1)
    have hw9 := wMid_le (E := E) (op := opC A w) (p := e / H) (q := o / H) (j := n) hr.1
    refine w_iload (pc' := 15) k62_13 rfl rfl ?_
    refine w_aload (pc' := 16) k62_15 rfl rfl ?_
    refine w_getR (pc' := 19) (v := 3) k62_16 rfl (hL.1 17 (9, 3) rfl) (hL.2 17 0 3 rfl) ?_
    refine w_getI (pc' := 22) (ki := 1) (v := H) k62_19 rfl (hL.1 3 (5, 14) rfl) rfl hsp.2.1 ?_
    refine w_ic_ge (pc' := 25) k62_22 rfl (fun c_22 => absurd c_22 (by omega)) (fun c_22 => ?_)
    refine w_aload (pc' := 26) k62_25 rfl rfl ?_
    refine w_aload (pc' := 27) k62_26 rfl rfl ?_
    refine w_aload (pc' := 28) k62_27 rfl rfl ?_
    refine w_getR (pc' := 31) (v := 3) k62_28 rfl (hL.1 17 (9, 3) rfl) (hL.2 17 0 3 rfl) ?_
    refine w_iload (pc' := 32) k62_31 rfl rfl ?_
    refine w_iload (pc' := 34) k62_32 rfl rfl ?_
    refine w_callE (pc' := 37) (as := [.inr (some 3), .inl _, .inl _]) k62_34 rfl rfl (co_v rfl rfl (hL.1 3 (5, 14) rfl)) (by decide) (m31 hF0 (by first | omega | (rcases hK with ⟨rfl, rfl, rfl, rfl, rfl, rfl⟩ | ⟨rfl, rfl, rfl, rfl, rfl, rfl⟩ | ⟨rfl, rfl, rfl, rfl, rfl, rfl⟩ <;> omega)) (by first | omega | (rcases hK with ⟨rfl, rfl, rfl, rfl, rfl, rfl⟩ | ⟨rfl, rfl, rfl, rfl, rfl, rfl⟩ | ⟨rfl, rfl, rfl, rfl, rfl, rfl⟩ <;> omega))) ?_
    refine w_iload (pc' := 39) k62_37 rfl rfl ?_
    refine w_callB (pc' := 42) (as := [.inr (some 17), .inr (some s), .inl _, .inl _]) k62_39 rfl rfl (co_v rfl rfl (hL.1 17 (9, 3) rfl)) (by decide) (m64 hF0 (by first | omega | (rcases hK with ⟨rfl, rfl, rfl, rfl, rfl, rfl⟩ | ⟨rfl, rfl, rfl, rfl, rfl, rfl⟩ | ⟨rfl, rfl, rfl, rfl, rfl, rfl⟩ <;> omega))) (fun q_39 => ?_) (fun q_39 => ?_)
    · refine w_if_eq (pc' := 45) k62_42 rfl (fun c_42 => absurd c_42 (by decide)) (fun _ => ?_)
      refine w_aload (pc' := 46) k62_45 rfl rfl ?_
      refine w_aload (pc' := 47) k62_46 rfl rfl ?_
      refine w_aload (pc' := 48) k62_47 rfl rfl ?_
      refine w_getR (pc' := 51) (v := 3) k62_48 rfl (hL.1 17 (9, 3) rfl) (hL.2 17 0 3 rfl) ?_
      refine w_iload (pc' := 52) k62_51 rfl rfl ?_
      refine w_iload (pc' := 54) k62_52 rfl rfl ?_
      refine w_callE (pc' := 57) (as := [.inr (some 3), .inl _, .inl _]) k62_54 rfl rfl (co_v rfl rfl (hL.1 3 (5, 14) rfl)) (by decide) (m31 hF0 (by first | omega | (rcases hK with ⟨rfl, rfl, rfl, rfl, rfl, rfl⟩ | ⟨rfl, rfl, rfl, rfl, rfl, rfl⟩ | ⟨rfl, rfl, rfl, rfl, rfl, rfl⟩ <;> omega)) (by first | omega | (rcases hK with ⟨rfl, rfl, rfl, rfl, rfl, rfl⟩ | ⟨rfl, rfl, rfl, rfl, rfl, rfl⟩ | ⟨rfl, rfl, rfl, rfl, rfl, rfl⟩ <;> omega))) ?_
      refine w_iload (pc' := 59) k62_57 rfl rfl ?_
      refine w_callB (pc' := 62) (as := [.inr (some 17), .inr (some s), .inl _, .inl _]) k62_59 rfl rfl (co_v rfl rfl (hL.1 17 (9, 3) rfl)) (by decide) (m64 hF0 (by first | omega | (rcases hK with ⟨rfl, rfl, rfl, rfl, rfl, rfl⟩ | ⟨rfl, rfl, rfl, rfl, rfl, rfl⟩ | ⟨rfl, rfl, rfl, rfl, rfl, rfl⟩ <;> omega))) (fun q_59 => ?_) (fun q_59 => ?_)
      · refine w_if_eq (pc' := 65) k62_62 rfl (fun c_62 => absurd c_62 (by decide)) (fun _ => ?_)
        refine w_iload (pc' := 67) k62_65 rfl rfl ?_
        refine w_aload (pc' := 68) k62_67 rfl rfl ?_
        refine w_aload (pc' := 69) k62_68 rfl rfl ?_
        refine w_aload (pc' := 70) k62_69 rfl rfl ?_
        refine w_getR (pc' := 73) (v := 3) k62_70 rfl (hL.1 17 (9, 3) rfl) (hL.2 17 0 3 rfl) ?_
        refine w_getR (pc' := 76) (v := 5) k62_73 rfl (hL.1 3 (5, 14) rfl) (hL.2 3 7 5 rfl) ?_
        refine w_iload (pc' := 77) k62_76 rfl rfl ?_
        refine w_iald (pc' := 78) (v := e / H) k62_77 rfl (hL.1 5 (0, 45) rfl) (by first | omega | (rcases hK with ⟨rfl, rfl, rfl, rfl, rfl, rfl⟩ | ⟨rfl, rfl, rfl, rfl, rfl, rfl⟩ | ⟨rfl, rfl, rfl, rfl, rfl, rfl⟩ <;> omega)) (((hsp.2.2.2.2.2.2.1 e (by first | omega | (rcases hK with ⟨rfl, rfl, rfl, rfl, rfl, rfl⟩ | ⟨rfl, rfl, rfl, rfl, rfl, rfl⟩ | ⟨rfl, rfl, rfl, rfl, rfl, rfl⟩ <;> omega)) (by first | omega | (rcases hK with ⟨rfl, rfl, rfl, rfl, rfl, rfl⟩ | ⟨rfl, rfl, rfl, rfl, rfl, rfl⟩ | ⟨rfl, rfl, rfl, rfl, rfl, rfl⟩ <;> omega)))).2.1.trans (pod_e he.2)) ?_
        refine w_aload (pc' := 79) k62_78 rfl rfl ?_
        refine w_getR (pc' := 82) (v := 3) k62_79 rfl (hL.1 17 (9, 3) rfl) (hL.2 17 0 3 rfl) ?_
        refine w_getR (pc' := 85) (v := 5) k62_82 rfl (hL.1 3 (5, 14) rfl) (hL.2 3 7 5 rfl) ?_
        refine w_iload (pc' := 86) k62_85 rfl rfl ?_
        refine w_iald (pc' := 87) (v := o / H) k62_86 rfl (hL.1 5 (0, 45) rfl) (by first | omega | (rcases hK with ⟨rfl, rfl, rfl, rfl, rfl, rfl⟩ | ⟨rfl, rfl, rfl, rfl, rfl, rfl⟩ | ⟨rfl, rfl, rfl, rfl, rfl, rfl⟩ <;> omega)) (((hsp.2.2.2.2.2.2.1 o (by first | omega | (rcases hK with ⟨rfl, rfl, rfl, rfl, rfl, rfl⟩ | ⟨rfl, rfl, rfl, rfl, rfl, rfl⟩ | ⟨rfl, rfl, rfl, rfl, rfl, rfl⟩ <;> omega)) (by first | omega | (rcases hK with ⟨rfl, rfl, rfl, rfl, rfl, rfl⟩ | ⟨rfl, rfl, rfl, rfl, rfl, rfl⟩ | ⟨rfl, rfl, rfl, rfl, rfl, rfl⟩ <;> omega)))).2.1.trans (pod_e ho.2)) ?_
        refine w_iload (pc' := 89) k62_87 rfl rfl ?_
        refine w_iload (pc' := 91) k62_89 rfl rfl ?_
        refine w_callE (pc' := 94) (as := [.inr (some 17), .inr (some s), .inl _, .inl _, .inl _, .inl _]) k62_91 rfl rfl (co_v rfl rfl (hL.1 17 (9, 3) rfl)) (by decide) (m63 hF0 (by first | omega | (rcases hK with ⟨rfl, rfl, rfl, rfl, rfl, rfl⟩ | ⟨rfl, rfl, rfl, rfl, rfl, rfl⟩ | ⟨rfl, rfl, rfl, rfl, rfl, rfl⟩ <;> omega)) (by first | omega | (rcases hK with ⟨rfl, rfl, rfl, rfl, rfl, rfl⟩ | ⟨rfl, rfl, rfl, rfl, rfl, rfl⟩ | ⟨rfl, rfl, rfl, rfl, rfl, rfl⟩ <;> omega)) (by first | omega | (rcases hK with ⟨rfl, rfl, rfl, rfl, rfl, rfl⟩ | ⟨rfl, rfl, rfl, rfl, rfl, rfl⟩ | ⟨rfl, rfl, rfl, rfl, rfl, rfl⟩ <;> omega))) ?_
        refine w_iadd (pc' := 95) k62_94 rfl (by first | omega | (rcases hK with ⟨rfl, rfl, rfl, rfl, rfl, rfl⟩ | ⟨rfl, rfl, rfl, rfl, rfl, rfl⟩ | ⟨rfl, rfl, rfl, rfl, rfl, rfl⟩ <;> omega)) ?_
        refine w_istore (pc' := 97) (ls' := [_, _, _, _, _, _, _]) k62_95 rfl rfl rfl ?_
        refine w_iinc (pc' := 100) (ls' := [_, _, _, _, _, _, _]) k62_97 rfl rfl (by first | omega | (rcases hK with ⟨rfl, rfl, rfl, rfl, rfl, rfl⟩ | ⟨rfl, rfl, rfl, rfl, rfl, rfl⟩ | ⟨rfl, rfl, rfl, rfl, rfl, rfl⟩ <;> omega)) rfl ?_
        refine w_goto k62_100 ?_
        exact ih (n + 1) _ _ (by omega) (by rw [sumN]; unfold wJ; first | rw [if_pos (by rw [Bool.and_eq_true, opC_t, opC_t]; exact ⟨q_39, q_59⟩)] | rw [if_neg (by rw [Bool.and_eq_true, opC_t, opC_t]; exact fun z => q_59 z.2), Int.add_zero] | rw [if_neg (by rw [Bool.and_eq_true, opC_t, opC_t]; exact fun z => q_39 z.1), Int.add_zero]) (by omega)
      · refine w_if_eq (pc' := 65) k62_62 rfl (fun _ => ?_) (fun c_62 => absurd c_62 (by decide))
        refine w_iinc (pc' := 100) (ls' := [_, _, _, _, _, _, _]) k62_97 rfl rfl (by first | omega | (rcases hK with ⟨rfl, rfl, rfl, rfl, rfl, rfl⟩ | ⟨rfl, rfl, rfl, rfl, rfl, rfl⟩ | ⟨rfl, rfl, rfl, rfl, rfl, rfl⟩ <;> omega)) rfl ?_
        refine w_goto k62_100 ?_
        exact ih (n + 1) _ _ (by omega) (by rw [sumN]; unfold wJ; first | rw [if_pos (by rw [Bool.and_eq_true, opC_t, opC_t]; exact ⟨q_39, q_59⟩)] | rw [if_neg (by rw [Bool.and_eq_true, opC_t, opC_t]; exact fun z => q_59 z.2), Int.add_zero] | rw [if_neg (by rw [Bool.and_eq_true, opC_t, opC_t]; exact fun z => q_39 z.1), Int.add_zero]) (by omega)
    · refine w_if_eq (pc' := 45) k62_42 rfl (fun _ => ?_) (fun c_42 => absurd c_42 (by decide))
      refine w_iinc (pc' := 100) (ls' := [_, _, _, _, _, _, _]) k62_97 rfl rfl (by first | omega | (rcases hK with ⟨rfl, rfl, rfl, rfl, rfl, rfl⟩ | ⟨rfl, rfl, rfl, rfl, rfl, rfl⟩ | ⟨rfl, rfl, rfl, rfl, rfl, rfl⟩ <;> omega)) rfl ?_
      refine w_goto k62_100 ?_
      exact ih (n + 1) _ _ (by omega) (by rw [sumN]; unfold wJ; first | rw [if_pos (by rw [Bool.and_eq_true, opC_t, opC_t]; exact ⟨q_39, q_59⟩)] | rw [if_neg (by rw [Bool.and_eq_true, opC_t, opC_t]; exact fun z => q_59 z.2), Int.add_zero] | rw [if_neg (by rw [Bool.and_eq_true, opC_t, opC_t]; exact fun z => q_39 z.1), Int.add_zero]) (by omega)
theorem m62 (hF : CF sh R I K H E HO S L B s g_s M_s A) {e o w : Int} (he : 0 ≤ e ∧ e < E) (ho : 0 ≤ o ∧ o < E) : RV X (d + 4) 62 [.inr (some 17), .inr (some s), .inl e, .inl o, .inl w] (sh, R, I) (waysS H E (opC A w) e o) := by
  have hF0 := hF
  obtain ⟨hL, hK, hsp, h_s, m_s, n_s, hg, hM, hLS, hcs, hab, hB⟩ := hF
  have hr := hK.r
  unfold waysS
  show WP X (d + 4) 62 0 [.inr (some 17), .inr (some s), .inl e, .inl o, .inl w, .inr none, .inr none] [] (sh, R, I) 0 0 _
  refine w_iload (pc' := 1) k62_0 rfl rfl ?_
  refine w_iload (pc' := 2) k62_1 rfl rfl ?_
  refine w_ic_ne (pc' := 5) k62_2 rfl (fun c_2 => ?_) (fun c_2 => ?_)
  · refine w_c1 (pc' := 8) k62_7 rfl ?_
    refine w_istore (pc' := 10) (ls' := [_, _, _, _, _, _, _]) k62_8 rfl rfl rfl ?_
    refine w_c1 (pc' := 11) k62_10 rfl ?_
    refine w_istore (pc' := 13) (ls' := [_, _, _, _, _, _, _]) k62_11 rfl rfl rfl ?_
    refine WP.mono (m62l hF0 he ho (N := H.toNat) (by omega) H.toNat 0 _ _ (by omega) rfl rfl) (fun r h' z => by rw [if_neg c_2]; exact z)
  · refine w_c1 (pc' := 6) k62_5 rfl ?_
    exact w_reti k62_6 ⟨by rw [if_pos c_2], rfl⟩
theorem m66i (hF : CF sh R I K H E HO S L B s g_s M_s A) {w : Int} {N e : Nat} (hN : E = (N : Int)) (he : e < N) {c0 : Int} (hc0 : 0 ≤ c0 ∧ c0 ≤ 10000) {Q : VV → Hp → Prop} (hex : ∀ v5 : VV, WP X (d + 5) 66 62 [.inr (some 17), .inr (some s), .inl w, .inl (c0 + sumN (jpS H E (opC A w) e) N), .inl (e : Int), v5] [] (sh, R, I) 0 0 Q) : ∀ (k n : Nat) (c i : Int), n + k = N → c = c0 + sumN (jpS H E (opC A w) e) n → i = (n : Int) → WP X (d + 5) 66 20 [.inr (some 17), .inr (some s), .inl w, .inl c, .inl (e : Int), .inl i] [] (sh, R, I) 0 0 Q := by
  have hF0 := hF
  obtain ⟨hL, hK, hsp, h_s, m_s, n_s, hg, hM, hLS, hcs, hab, hB⟩ := hF
  have hr := hK.r
  intro k
  induction k with
  | zero =>
    rintro n c i hk rfl rfl
    have e9 : n = N := by omega
    subst e9
    refine w_iload (pc' := 22) k66_20 rfl rfl ?_
    refine w_aload (pc' := 23) k66_22 rfl rfl ?_
    refine w_getR (pc' := 26) (v := 3) k66_23 rfl (hL.1 17 (9, 3) rfl) (hL.2 17 0 3 rfl) ?_
    refine w_getI (pc' := 29) (ki := 2) (v := E) k66_26 rfl (hL.1 3 (5, 14) rfl) rfl hsp.2.2.1 ?_
    refine w_ic_ge (pc' := 32) k66_29 rfl (fun c_29 => ?_) (fun c_29 => absurd c_29 (by omega))
    exact hex _
  | succ k ih =>
    rintro n c i hk rfl rfl
    have hc := sumN_le (f := jpS H E (opC A w) e) (C := 9) n (fun i _ => jpS_le hr.1)
    have hp := jpS_le (E := E) (op := opC A w) (e := e) (o := n) hr.1
    refine w_iload (pc' := 22) k66_20 rfl rfl ?_
    refine w_aload (pc' := 23) k66_22 rfl rfl ?_
    refine w_getR (pc' := 26) (v := 3) k66_23 rfl (hL.1 17 (9, 3) rfl) (hL.2 17 0 3 rfl) ?_
    refine w_getI (pc' := 29) (ki := 2) (v := E) k66_26 rfl (hL.1 3 (5, 14) rfl) rfl hsp.2.2.1 ?_
    refine w_ic_ge (pc' := 32) k66_29 rfl (fun c_29 => absurd c_29 (by omega)) (fun c_29 => ?_)
    refine w_aload (pc' := 33) k66_32 rfl rfl ?_
    refine w_aload (pc' := 34) k66_33 rfl rfl ?_
    refine w_iload (pc' := 36) k66_34 rfl rfl ?_
    refine w_iload (pc' := 38) k66_36 rfl rfl ?_
    refine w_iload (pc' := 39) k66_38 rfl rfl ?_
    refine w_callE (pc' := 42) (as := [.inr (some 17), .inr (some s), .inl _, .inl _, .inl _]) k66_39 rfl rfl (co_v rfl rfl (hL.1 17 (9, 3) rfl)) (by decide) (m62 hF0 (by omega) (by omega)) ?_
    refine w_if_le (pc' := 45) k66_42 rfl (fun c_42 => ?_) (fun c_42 => ?_)
    · refine w_iinc (pc' := 59) (ls' := [_, _, _, _, _, _]) k66_56 rfl rfl (by omega) rfl ?_
      refine w_goto k66_59 ?_
      exact ih (n + 1) _ _ (by omega) (by rw [sumN]; first | rw [show jpS H E (opC A w) e n = prS H e n from if_pos c_42]; unfold prS; omega | rw [show jpS H E (opC A w) e n = 0 from if_neg (by omega)]; omega) (by omega)
    · refine w_iload (pc' := 46) k66_45 rfl rfl ?_
      refine w_aload (pc' := 47) k66_46 rfl rfl ?_
      refine w_iload (pc' := 49) k66_47 rfl rfl ?_
      refine w_iload (pc' := 51) k66_49 rfl rfl ?_
      refine w_callE (pc' := 54) (as := [.inr (some 17), .inl _, .inl _]) k66_51 rfl rfl (co_v rfl rfl (hL.1 17 (9, 3) rfl)) (by decide) (m65 hF0) ?_
      refine w_iadd (pc' := 55) k66_54 rfl (by unfold jpS prS at hp; rw [if_pos c_42] at hp; omega) ?_
      refine w_istore (pc' := 56) (ls' := [_, _, _, _, _, _]) k66_55 rfl rfl rfl ?_
      refine w_iinc (pc' := 59) (ls' := [_, _, _, _, _, _]) k66_56 rfl rfl (by omega) rfl ?_
      refine w_goto k66_59 ?_
      exact ih (n + 1) _ _ (by omega) (by rw [sumN]; first | rw [show jpS H E (opC A w) e n = prS H e n from if_pos c_42]; unfold prS; omega | rw [show jpS H E (opC A w) e n = 0 from if_neg (by omega)]; omega) (by omega)
theorem m66l (hF : CF sh R I K H E HO S L B s g_s M_s A) {w : Int} {N : Nat} (hN : E = (N : Int)) : ∀ (k n : Nat) (c i : Int) (v5 : VV), n + k = N → c = sumN (fun e => sumN (jpS H E (opC A w) e) N) n → i = (n : Int) → WP X (d + 5) 66 5 [.inr (some 17), .inr (some s), .inl w, .inl c, .inl i, v5] [] (sh, R, I) 0 0 (fun r h' => r = .inl (sumN (fun e => sumN (jpS H E (opC A w) e) N) N) ∧ h' = (sh, R, I)) := by
  have hF0 := hF
  obtain ⟨hL, hK, hsp, h_s, m_s, n_s, hg, hM, hLS, hcs, hab, hB⟩ := hF
  have hr := hK.r
  intro k
  induction k with
  | zero =>
    rintro n c i v5 hk rfl rfl
    have e9 : n = N := by omega
    subst e9
    refine w_iload (pc' := 7) k66_5 rfl rfl ?_
    refine w_aload (pc' := 8) k66_7 rfl rfl ?_
    refine w_getR (pc' := 11) (v := 3) k66_8 rfl (hL.1 17 (9, 3) rfl) (hL.2 17 0 3 rfl) ?_
    refine w_getI (pc' := 14) (ki := 2) (v := E) k66_11 rfl (hL.1 3 (5, 14) rfl) rfl hsp.2.2.1 ?_
    refine w_ic_ge (pc' := 17) k66_14 rfl (fun c_14 => ?_) (fun c_14 => absurd c_14 (by omega))
    refine w_iload (pc' := 69) k66_68 rfl rfl ?_
    exact w_reti k66_69 ⟨rfl, rfl⟩
  | succ k ih =>
    rintro n c i v5 hk rfl rfl
    have hc := sumN_le (f := fun e => sumN (jpS H E (opC A w) e) N) (C := 162) n (fun i _ => by have := sumN_le (f := jpS H E (opC A w) i) (C := 9) N (fun i _ => jpS_le hr.1); omega)
    refine w_iload (pc' := 7) k66_5 rfl rfl ?_
    refine w_aload (pc' := 8) k66_7 rfl rfl ?_
    refine w_getR (pc' := 11) (v := 3) k66_8 rfl (hL.1 17 (9, 3) rfl) (hL.2 17 0 3 rfl) ?_
    refine w_getI (pc' := 14) (ki := 2) (v := E) k66_11 rfl (hL.1 3 (5, 14) rfl) rfl hsp.2.2.1 ?_
    refine w_ic_ge (pc' := 17) k66_14 rfl (fun c_14 => absurd c_14 (by omega)) (fun c_14 => ?_)
    refine w_c1 (pc' := 18) k66_17 rfl ?_
    refine w_istore (pc' := 20) (ls' := [_, _, _, _, _, _]) k66_18 rfl rfl rfl ?_
    refine m66i hF0 hN (e := n) (c0 := sumN (fun e => sumN (jpS H E (opC A w) e) N) n) (by omega) (by omega) (fun v9 => ?_) N 0 _ _ (by omega) (by simp [sumN]) rfl
    refine w_iinc (pc' := 65) (ls' := [_, _, _, _, _, _]) k66_62 rfl rfl (by omega) rfl ?_
    refine w_goto k66_65 ?_
    exact ih (n + 1) _ _ _ (by omega) rfl (by omega)
theorem m66 (hF : CF sh R I K H E HO S L B s g_s M_s A) {w : Int} : RV X (d + 5) 66 [.inr (some 17), .inr (some s), .inl w] (sh, R, I) (joinS H E (opC A w)) := by
  have hF0 := hF
  obtain ⟨hL, hK, hsp, h_s, m_s, n_s, hg, hM, hLS, hcs, hab, hB⟩ := hF
  have hr := hK.r
  show WP X (d + 5) 66 0 [.inr (some 17), .inr (some s), .inl w, .inr none, .inr none, .inr none] [] (sh, R, I) 0 0 _
  refine w_c1 (pc' := 1) k66_0 rfl ?_
  refine w_istore (pc' := 2) (ls' := [_, _, _, _, _, _]) k66_1 rfl rfl rfl ?_
  refine w_c1 (pc' := 3) k66_2 rfl ?_
  refine w_istore (pc' := 5) (ls' := [_, _, _, _, _, _]) k66_3 rfl rfl rfl ?_
  exact m66l hF0 (N := E.toNat) (by omega) E.toNat 0 _ _ _ (by omega) rfl rfl
theorem m67i (hF : CF sh R I K H E HO S L B s g_s M_s A) {N a : Nat} (hN : E = (N : Int)) (ha : a < N) {Q : VV → Hp → Prop} (hex : ∀ (v3 v4 : VV) (I1 : Nat → Int → Int), (∀ x, x ≠ 17 → I1 x = I x) → MM (waysS H E (opC A (-4))) (fun e o => ((0 ≤ e ∧ e < E) ∧ (0 ≤ o ∧ o < E) ∧ 0 < prS H e o) ∧ (e < (a : Int) ∨ (e = (a : Int) ∧ o < (N : Int)))) (I1 17 1) (I1 17 2) → WP X (d + 5) 67 104 [.inr (some 17), .inr (some s), .inl (a : Int), v3, v4] [] (sh, R, I1) 0 0 Q) : ∀ (k n : Nat) (i : Int) (v4 : VV) (I1 : Nat → Int → Int), n + k = N → i = (n : Int) → (∀ x, x ≠ 17 → I1 x = I x) → MM (waysS H E (opC A (-4))) (fun e o => ((0 ≤ e ∧ e < E) ∧ (0 ≤ o ∧ o < E) ∧ 0 < prS H e o) ∧ (e < (a : Int) ∨ (e = (a : Int) ∧ o < (n : Int)))) (I1 17 1) (I1 17 2) → WP X (d + 5) 67 27 [.inr (some 17), .inr (some s), .inl (a : Int), .inl i, v4] [] (sh, R, I1) 0 0 Q := by
  have hK := hF.2.1
  have hr := hK.r
  intro k
  induction k with
  | zero =>
    rintro n i v4 I1 hk rfl hI hm
    have hF1 : CF sh R I1 K H E HO S L B s g_s M_s A := hF.keep (fun x hx => hI x (by omega))
    obtain ⟨hL, -, hsp, h_s, m_s, n_s, -⟩ := id hF1
    have e9 : n = N := by omega
    subst e9
    refine w_iload (pc' := 28) k67_27 rfl rfl ?_
    refine w_aload (pc' := 29) k67_28 rfl rfl ?_
    refine w_getR (pc' := 32) (v := 3) k67_29 rfl (hL.1 17 (9, 3) rfl) (hL.2 17 0 3 rfl) ?_
    refine w_getI (pc' := 35) (ki := 2) (v := E) k67_32 rfl (hL.1 3 (5, 14) rfl) rfl hsp.2.2.1 ?_
    refine w_ic_ge (pc' := 38) k67_35 rfl (fun c_35 => ?_) (fun c_35 => absurd c_35 (by omega))
    exact hex _ _ _ hI hm
  | succ k ih =>
    rintro n i v4 I1 hk rfl hI hm
    have hF1 : CF sh R I1 K H E HO S L B s g_s M_s A := hF.keep (fun x hx => hI x (by omega))
    obtain ⟨hL, -, hsp, h_s, m_s, n_s, -⟩ := id hF1
    have hw0 := waysS_le (E := E) (op := opC A (-4)) (e := a) (o := n) hr.1
    refine w_iload (pc' := 28) k67_27 rfl rfl ?_
    refine w_aload (pc' := 29) k67_28 rfl rfl ?_
    refine w_getR (pc' := 32) (v := 3) k67_29 rfl (hL.1 17 (9, 3) rfl) (hL.2 17 0 3 rfl) ?_
    refine w_getI (pc' := 35) (ki := 2) (v := E) k67_32 rfl (hL.1 3 (5, 14) rfl) rfl hsp.2.2.1 ?_
    refine w_ic_ge (pc' := 38) k67_35 rfl (fun c_35 => absurd c_35 (by omega)) (fun c_35 => ?_)
    refine w_aload (pc' := 39) k67_38 rfl rfl ?_
    refine w_iload (pc' := 40) k67_39 rfl rfl ?_
    refine w_iload (pc' := 41) k67_40 rfl rfl ?_
    refine w_callE (pc' := 44) (as := [.inr (some 17), .inl _, .inl _]) k67_41 rfl rfl (co_v rfl rfl (hL.1 17 (9, 3) rfl)) (by decide) (m65 hF1) ?_
    refine w_if_le (pc' := 47) k67_44 rfl (fun c_44 => ?_) (fun c_44 => ?_)
    · refine w_iinc (pc' := 101) (ls' := [_, _, _, _, _]) k67_98 rfl rfl (by omega) rfl ?_
      refine w_goto k67_101 ?_
      refine ih (n + 1) _ _ _ (by omega) (by omega) hI (hm.ext (fun e o => ?_))
      have hp9 : prS H a n ≤ 0 := c_44
      constructor
      · rintro ⟨h1, h2⟩
        exact ⟨h1, by omega⟩
      · rintro ⟨h1, h2⟩
        refine ⟨h1, ?_⟩
        rcases (show (e < (a : Int) ∨ (e = (a : Int) ∧ o < (n : Int))) ∨ (e = a ∧ o = n) by omega) with q | ⟨rfl, rfl⟩
        · exact q
        · exact absurd h1.2.2 (by omega)
    · refine w_aload (pc' := 48) k67_47 rfl rfl ?_
      refine w_aload (pc' := 49) k67_48 rfl rfl ?_
      refine w_iload (pc' := 50) k67_49 rfl rfl ?_
      refine w_iload (pc' := 51) k67_50 rfl rfl ?_
      refine w_c2 (pc' := 53) k67_51 rfl ?_
      refine w_callE (pc' := 56) (as := [.inr (some 17), .inr (some s), .inl _, .inl _, .inl _]) k67_53 rfl rfl (co_v rfl rfl (hL.1 17 (9, 3) rfl)) (by decide) (m62 hF1 (by omega) (by omega)) ?_
      refine w_istore (pc' := 58) (ls' := [_, _, _, _, _]) k67_56 rfl rfl rfl ?_
      refine w_aload (pc' := 59) k67_58 rfl rfl ?_
      refine w_aload (pc' := 60) k67_59 rfl rfl ?_
      refine w_getI (pc' := 63) (ki := 1) (v := I1 17 1) k67_60 rfl (hL.1 17 (9, 3) rfl) rfl rfl ?_
      refine w_c2 (pc' := 65) k67_63 rfl ?_
      refine w_ic_ne (pc' := 68) k67_65 rfl (fun c_65 => ?_) (fun c_65 => ?_)
      · refine w_aload (pc' := 74) k67_73 rfl rfl ?_
        refine w_getI (pc' := 77) (ki := 1) (v := I1 17 1) k67_74 rfl (hL.1 17 (9, 3) rfl) rfl rfl ?_
        refine w_iload (pc' := 79) k67_77 rfl rfl ?_
        refine w_mn (pc' := 82) k67_79 rfl rfl ?_
        refine w_putI (pc' := 85) (ki := 1) k67_82 rfl (hL.1 17 (9, 3) rfl) rfl ?_
        refine w_aload (pc' := 86) k67_85 rfl rfl ?_
        refine w_aload (pc' := 87) k67_86 rfl rfl ?_
        refine w_getI (pc' := 90) (ki := 2) (v := (I1 17 2)) k67_87 rfl (hL.1 17 (9, 3) rfl) rfl (by first | rfl | (rw [upA_s, upF_n (by decide)])) ?_
        refine w_iload (pc' := 92) k67_90 rfl rfl ?_
        refine w_mx (pc' := 95) k67_92 rfl rfl ?_
        refine w_putI (pc' := 98) (ki := 2) k67_95 rfl (hL.1 17 (9, 3) rfl) rfl ?_
        refine w_iinc (pc' := 101) (ls' := [_, _, _, _, _]) k67_98 rfl rfl (by omega) rfl ?_
        refine w_goto k67_101 ?_
        refine ih (n + 1) _ _ _ (by omega) (by omega) (fun x hx => by rw [upA_n hx, upA_n hx]; exact hI x hx) ?_
        rw [upA_s, upF_n (by decide), upA_s, upF_s, upF_s]
        have hmm := MM.add (Pr' := (fun e o => ((0 ≤ e ∧ e < E) ∧ (0 ≤ o ∧ o < E) ∧ 0 < prS H e o) ∧ (e < (a : Int) ∨ (e = (a : Int) ∧ o < ((n + 1 : Nat) : Int))))) hw0.1 hm (fun e o => ?_) (fun e o _ => (waysS_le hr.1).1)
        · first | (rw [if_pos c_65] at hmm; exact hmm) | (rw [if_neg c_65] at hmm; exact hmm)
        · have hp9 : 0 < prS H a n := c_44
          constructor
          · rintro ⟨h1, h2⟩
            rcases (show (e < (a : Int) ∨ (e = (a : Int) ∧ o < (n : Int))) ∨ (e = a ∧ o = n) by omega) with q | q
            · exact Or.inl ⟨h1, q⟩
            · exact Or.inr q
          · rintro (⟨h1, h2⟩ | ⟨rfl, rfl⟩)
            · exact ⟨h1, by omega⟩
            · exact ⟨⟨by omega, by omega, hp9⟩, by omega⟩
      · refine w_iload (pc' := 70) k67_68 rfl rfl ?_
        refine w_goto k67_70 ?_
        refine w_putI (pc' := 85) (ki := 1) k67_82 rfl (hL.1 17 (9, 3) rfl) rfl ?_
        refine w_aload (pc' := 86) k67_85 rfl rfl ?_
        refine w_aload (pc' := 87) k67_86 rfl rfl ?_
        refine w_getI (pc' := 90) (ki := 2) (v := (I1 17 2)) k67_87 rfl (hL.1 17 (9, 3) rfl) rfl (by first | rfl | (rw [upA_s, upF_n (by decide)])) ?_
        refine w_iload (pc' := 92) k67_90 rfl rfl ?_
        refine w_mx (pc' := 95) k67_92 rfl rfl ?_
        refine w_putI (pc' := 98) (ki := 2) k67_95 rfl (hL.1 17 (9, 3) rfl) rfl ?_
        refine w_iinc (pc' := 101) (ls' := [_, _, _, _, _]) k67_98 rfl rfl (by omega) rfl ?_
        refine w_goto k67_101 ?_
        refine ih (n + 1) _ _ _ (by omega) (by omega) (fun x hx => by rw [upA_n hx, upA_n hx]; exact hI x hx) ?_
        rw [upA_s, upF_n (by decide), upA_s, upF_s, upF_s]
        have hmm := MM.add (Pr' := (fun e o => ((0 ≤ e ∧ e < E) ∧ (0 ≤ o ∧ o < E) ∧ 0 < prS H e o) ∧ (e < (a : Int) ∨ (e = (a : Int) ∧ o < ((n + 1 : Nat) : Int))))) hw0.1 hm (fun e o => ?_) (fun e o _ => (waysS_le hr.1).1)
        · first | (rw [if_pos c_65] at hmm; exact hmm) | (rw [if_neg c_65] at hmm; exact hmm)
        · have hp9 : 0 < prS H a n := c_44
          constructor
          · rintro ⟨h1, h2⟩
            rcases (show (e < (a : Int) ∨ (e = (a : Int) ∧ o < (n : Int))) ∨ (e = a ∧ o = n) by omega) with q | q
            · exact Or.inl ⟨h1, q⟩
            · exact Or.inr q
          · rintro (⟨h1, h2⟩ | ⟨rfl, rfl⟩)
            · exact ⟨h1, by omega⟩
            · exact ⟨⟨by omega, by omega, hp9⟩, by omega⟩
theorem m67l (hF : CF sh R I K H E HO S L B s g_s M_s A) {N : Nat} (hN : E = (N : Int)) : ∀ (k n : Nat) (i : Int) (v3 v4 : VV) (I1 : Nat → Int → Int), n + k = N → i = (n : Int) → (∀ x, x ≠ 17 → I1 x = I x) → MM (waysS H E (opC A (-4))) (fun e o => ((0 ≤ e ∧ e < E) ∧ (0 ≤ o ∧ o < E) ∧ 0 < prS H e o) ∧ e < (n : Int)) (I1 17 1) (I1 17 2) → WP X (d + 5) 67 14 [.inr (some 17), .inr (some s), .inl i, v3, v4] [] (sh, R, I1) 0 0 (fun _ h' => ∃ I', h' = (sh, R, I') ∧ (∀ x, x ≠ 17 → I' x = I x) ∧ MM (waysS H E (opC A (-4))) (fun e o => ((0 ≤ e ∧ e < E) ∧ (0 ≤ o ∧ o < E) ∧ 0 < prS H e o) ∧ e < (N : Int)) (I' 17 1) (I' 17 2)) := by
  have hK := hF.2.1
  have hr := hK.r
  intro k
  induction k with
  | zero =>
    rintro n i v3 v4 I1 hk rfl hI hm
    have hF1 : CF sh R I1 K H E HO S L B s g_s M_s A := hF.keep (fun x hx => hI x (by omega))
    obtain ⟨hL, -, hsp, h_s, m_s, n_s, -⟩ := id hF1
    have e9 : n = N := by omega
    subst e9
    refine w_iload (pc' := 15) k67_14 rfl rfl ?_
    refine w_aload (pc' := 16) k67_15 rfl rfl ?_
    refine w_getR (pc' := 19) (v := 3) k67_16 rfl (hL.1 17 (9, 3) rfl) (hL.2 17 0 3 rfl) ?_
    refine w_getI (pc' := 22) (ki := 2) (v := E) k67_19 rfl (hL.1 3 (5, 14) rfl) rfl hsp.2.2.1 ?_
    refine w_ic_ge (pc' := 25) k67_22 rfl (fun c_22 => ?_) (fun c_22 => absurd c_22 (by omega))
    exact w_retv k67_110 ⟨_, rfl, hI, hm⟩
  | succ k ih =>
    rintro n i v3 v4 I1 hk rfl hI hm
    have hF1 : CF sh R I1 K H E HO S L B s g_s M_s A := hF.keep (fun x hx => hI x (by omega))
    obtain ⟨hL, -, hsp, h_s, m_s, n_s, -⟩ := id hF1
    refine w_iload (pc' := 15) k67_14 rfl rfl ?_
    refine w_aload (pc' := 16) k67_15 rfl rfl ?_
    refine w_getR (pc' := 19) (v := 3) k67_16 rfl (hL.1 17 (9, 3) rfl) (hL.2 17 0 3 rfl) ?_
    refine w_getI (pc' := 22) (ki := 2) (v := E) k67_19 rfl (hL.1 3 (5, 14) rfl) rfl hsp.2.2.1 ?_
    refine w_ic_ge (pc' := 25) k67_22 rfl (fun c_22 => absurd c_22 (by omega)) (fun c_22 => ?_)
    refine w_c1 (pc' := 26) k67_25 rfl ?_
    refine w_istore (pc' := 27) (ls' := [_, _, _, _, _]) k67_26 rfl rfl rfl ?_
    refine m67i hF hN (a := n) (by omega) (fun v3 v4 I2 hI2 hm2 => ?_) N 0 _ _ _ (by omega) rfl hI (hm.ext (fun e o => ⟨fun h => ⟨h.1, Or.inl h.2⟩, fun h => ⟨h.1, by omega⟩⟩))
    refine w_iinc (pc' := 107) (ls' := [_, _, _, _, _]) k67_104 rfl rfl (by omega) rfl ?_
    refine w_goto k67_107 ?_
    exact ih (n + 1) _ _ _ _ (by omega) (by omega) hI2 (hm2.ext (fun e o => ⟨fun h => ⟨h.1, by omega⟩, fun h => ⟨h.1, by omega⟩⟩))
theorem m67 (hF : CF sh R I K H E HO S L B s g_s M_s A) : WPM X (d + 5) 67 [.inr (some 17), .inr (some s)] (sh, R, I) 0 0 (fun _ h' => ∃ I', h' = (sh, R, I') ∧ (∀ x, x ≠ 17 → I' x = I x) ∧ MM (waysS H E (opC A (-4))) (fun e o => (0 ≤ e ∧ e < E) ∧ (0 ≤ o ∧ o < E) ∧ 0 < prS H e o) (I' 17 1) (I' 17 2)) := by
  have hL := hF.1
  have hr := hF.2.1.r
  show WP X (d + 5) 67 0 [.inr (some 17), .inr (some s), .inr none, .inr none, .inr none] [] (sh, R, I) 0 0 _
  refine w_aload (pc' := 1) k67_0 rfl rfl ?_
  refine w_c2 (pc' := 3) k67_1 rfl ?_
  refine w_putI (pc' := 6) (ki := 1) k67_3 rfl (hL.1 17 (9, 3) rfl) rfl ?_
  refine w_aload (pc' := 7) k67_6 rfl rfl ?_
  refine w_c2 (pc' := 9) k67_7 rfl ?_
  refine w_putI (pc' := 12) (ki := 2) k67_9 rfl (hL.1 17 (9, 3) rfl) rfl ?_
  refine w_c1 (pc' := 13) k67_12 rfl ?_
  refine w_istore (pc' := 14) (ls' := [_, _, _, _, _]) k67_13 rfl rfl rfl ?_
  refine WP.mono (m67l hF (N := E.toNat) (by omega) E.toNat 0 _ _ _ _ (by omega) rfl (fun x hx => by rw [upA_n hx, upA_n hx]) (Or.inl ⟨?_, ?_, fun e o h => by omega⟩)) (fun r h' hq => ?_)
  · rw [upA_s, upF_n (by decide), upA_s, upF_s]
  · rw [upA_s, upF_s]
  · obtain ⟨I', h1, h2, h3⟩ := hq
    exact ⟨I', h1, h2, h3.ext (fun e o => ⟨fun h => h.1, fun h => ⟨h, by omega⟩⟩)⟩
end C26
