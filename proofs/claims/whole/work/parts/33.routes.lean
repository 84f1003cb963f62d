/-! ===== CLASS: Sharing, routes ===== -/
section C33
variable {X : Nat × (Int → Int)} {d : Nat} {sh : List (Nat × Nat)} {R : Nat → Nat → Option Nat} {I : Nat → Int → Int} {s g_s M_s : Nat} {K H E HO S L B : Int} {A : AS}
variable {c : Int → Int} {q : Int → Int → Int}
theorem m37l (hF : CF sh R I K H E HO S L B s g_s M_s A) {f t : Int} (hf : 0 ≤ f ∧ f < aNf A) (ht : 0 ≤ t ∧ t < H * H) (hpa : pA H E A (aFr A f / H) (aTo A f) t = true) (j3 : I 12 3 = pV H E A (aFr A f / H) (aTo A f) t) (j13 : ∀ k : Nat, k < pV H E A (aFr A f / H) (aTo A f) t → I 13 k = pN H E A (aFr A f / H) (aTo A f) t k) (j14 : ∀ k : Nat, k + 1 < pV H E A (aFr A f / H) (aTo A f) t → I 14 k = pL H E A (aFr A f / H) (aTo A f) t k) : ∀ (k n : Nat) (i : Int) (v7 : VV) (I1 : Nat → Int → Int) (q1 : Int → Int → Int), n + k + 1 = pV H E A (aFr A f / H) (aTo A f) t → i = (n : Int) → (∀ a, a < 22 ∨ 24 < a → I1 a = I a) → UI I1 (upF c f (n + 1)) q1 → (∀ g x, g ≠ f → q1 g x = q g x) → (∀ x : Int, 0 ≤ x → x ≤ (n : Int) → q1 f x = stQ H E A f t x) → WP X (d + 5) 37 67 [.inr (some 21), .inr (some s), .inl f, .inl t, .inl (aFr A f), .inl (aTo A f), .inl i, v7] [] (sh, R, I1) 0 0 (fun _ h' => ∃ I', h' = (sh, R, I') ∧ (∀ a, a < 22 ∨ 24 < a → I' a = I a) ∧ UI I' (upF c f (stC H E A f t)) (fun g x => if g = f then stQ H E A f t x else q g x)) := by
  have hK := hF.2.1
  have hr := hK.r
  have hab := hF.2.2.2.2.2.2.2.2.2.2.1
  have hff := hab.2.2.2 f hf.1 hf.2
  have hv := pV_r (H := H) (E := E) (A := A) (n := aFr A f / H) (b := aTo A f) (s := t)
  have hn0 : 0 ≤ aFr A f / H ∧ aFr A f / H < E := by
    rcases hK with ⟨rfl, rfl, rfl, rfl, rfl, rfl⟩ | ⟨rfl, rfl, rfl, rfl, rfl, rfl⟩ | ⟨rfl, rfl, rfl, rfl, rfl, rfl⟩ <;> omega
  have hf16 : f < 16 := by have := hab.2.2.1; omega
  have hstC : stC H E A f t = pV H E A (aFr A f / H) (aTo A f) t + 1 := by unfold stC; rw [if_pos hpa]
  intro k
  induction k with
  | zero =>
    rintro n i v7 I1 q1 hk rfl h1 h2 h3 h4
    have hF1 : CF sh R I1 K H E HO S L B s g_s M_s A := hF.keep (fun x hx => h1 x (by omega))
    obtain ⟨hL, -, hsp, h_s, m_s, n_s, -⟩ := id hF1
    have hj3 : I1 12 3 = pV H E A (aFr A f / H) (aTo A f) t := by rw [h1 12 (by omega)]; exact j3
    refine w_iload (pc' := 69) k37_67 rfl rfl ?_
    refine w_aload (pc' := 70) k37_69 rfl rfl ?_
    refine w_getR (pc' := 73) (v := 12) k37_70 rfl (hL.1 21 (6, 5) rfl) (hL.2 21 1 12 rfl) ?_
    refine w_getI (pc' := 76) (ki := 3) (v := pV H E A (aFr A f / H) (aTo A f) t) k37_73 rfl (hL.1 12 (3, 5) rfl) rfl hj3 ?_
    refine w_c1 (pc' := 77) k37_76 rfl ?_
    refine w_isub (pc' := 78) k37_77 rfl (by omega) ?_
    refine w_ic_ge (pc' := 81) k37_78 rfl (fun c_78 => ?_) (fun c_78 => absurd c_78 (by omega))
    refine w_aload (pc' := 127) k37_126 rfl rfl ?_
    refine w_iload (pc' := 128) k37_127 rfl rfl ?_
    refine w_c3 (pc' := 131) k37_128 rfl ?_
    refine w_iload (pc' := 133) k37_131 rfl rfl ?_
    refine w_iadd (pc' := 134) k37_133 rfl (by omega) ?_
    refine w_callV (pc' := 137) (as := [.inr (some 21), .inl _, .inl _]) k37_134 rfl rfl (co_v rfl rfl (hL.1 21 (6, 5) rfl)) (by decide) (m38 hL h2 (f := f) (u := 270 + aTo A f) (by omega) (by omega) (by rw [upF_s]; omega)) (fun r_134 h_134 hq => ?_)
    obtain ⟨I2, rfl, h5, h6⟩ := hq
    refine w_retv k37_137 ⟨_, rfl, fun a ha => by rw [h5 a ha]; exact h1 a ha, ?_⟩
    rw [upF_s, upF_uu] at h6
    refine h6.ext (fun g h7 h8 => ?_) (fun g x h7 h8 h9 h10 => ?_)
    · by_cases e9 : g = f
      · subst e9; rw [upF_s, upF_s, hstC]; omega
      · rw [upF_n e9, upF_n e9]
    · by_cases e9 : g = f
      · subst e9
        rw [upF_s] at h10
        rw [if_pos rfl]
        by_cases e8 : x = (n : Int) + 1
        · subst e8; rw [up2_s]; unfold stQ; rw [if_neg (by omega), if_neg (by omega)]
        · rw [up2_n (by omega), h4 x h9 (by omega)]
      · rw [if_neg e9, up2_n (by omega), h3 g x e9]
  | succ k ih =>
    rintro n i v7 I1 q1 hk rfl h1 h2 h3 h4
    have hF1 : CF sh R I1 K H E HO S L B s g_s M_s A := hF.keep (fun x hx => h1 x (by omega))
    obtain ⟨hL, -, hsp, h_s, m_s, n_s, -⟩ := id hF1
    have hj3 : I1 12 3 = pV H E A (aFr A f / H) (aTo A f) t := by rw [h1 12 (by omega)]; exact j3
    have e13 := h1 13 (by omega)
    have e14 := h1 14 (by omega)
    have hkk : n + 1 < pV H E A (aFr A f / H) (aTo A f) t := by omega
    have hl0 := pV_go hkk
    have hpn := pN_range (A := A) (s := t) hK ⟨hn0.1, by omega⟩ hff.2.1 n (fun x hx => pV_go (by omega))
    have hlr := nl_range (A := A) (s := t) hK hpn hff.2.1
    have hl : 0 ≤ pL H E A (aFr A f / H) (aTo A f) t n ∧ pL H E A (aFr A f / H) (aTo A f) t n < L := by unfold pL at hl0 ⊢; omega
    refine w_iload (pc' := 69) k37_67 rfl rfl ?_
    refine w_aload (pc' := 70) k37_69 rfl rfl ?_
    refine w_getR (pc' := 73) (v := 12) k37_70 rfl (hL.1 21 (6, 5) rfl) (hL.2 21 1 12 rfl) ?_
    refine w_getI (pc' := 76) (ki := 3) (v := pV H E A (aFr A f / H) (aTo A f) t) k37_73 rfl (hL.1 12 (3, 5) rfl) rfl hj3 ?_
    refine w_c1 (pc' := 77) k37_76 rfl ?_
    refine w_isub (pc' := 78) k37_77 rfl (by omega) ?_
    refine w_ic_ge (pc' := 81) k37_78 rfl (fun c_78 => absurd c_78 (by omega)) (fun c_78 => ?_)
    refine w_aload (pc' := 82) k37_81 rfl rfl ?_
    refine w_getR (pc' := 85) (v := 12) k37_82 rfl (hL.1 21 (6, 5) rfl) (hL.2 21 1 12 rfl) ?_
    refine w_getR (pc' := 88) (v := 14) k37_85 rfl (hL.1 12 (3, 5) rfl) (hL.2 12 2 14 rfl) ?_
    refine w_iload (pc' := 90) k37_88 rfl rfl ?_
    refine w_iald (pc' := 91) (v := pL H E A (aFr A f / H) (aTo A f) t n) k37_90 rfl (hL.1 14 (0, 5) rfl) (by omega) (by rw [e14]; exact j14 n hkk) ?_
    refine w_istore (pc' := 93) (ls' := [_, _, _, _, _, _, _, _]) k37_91 rfl rfl rfl ?_
    refine w_aload (pc' := 94) k37_93 rfl rfl ?_
    refine w_iload (pc' := 95) k37_94 rfl rfl ?_
    refine w_aload (pc' := 96) k37_95 rfl rfl ?_
    refine w_getR (pc' := 99) (v := 12) k37_96 rfl (hL.1 21 (6, 5) rfl) (hL.2 21 1 12 rfl) ?_
    refine w_iload (pc' := 101) k37_99 rfl rfl ?_
    refine w_callB (pc' := 104) (as := [.inr (some 12), .inl _]) k37_101 rfl rfl (co_v rfl rfl (hL.1 12 (3, 5) rfl)) (by decide) (m7 hF1 hn0 hff.2.1 hj3 (by rw [e13]; exact j13) (by rw [e14]; exact j14) hkk) (fun q_101 => ?_) (fun q_101 => ?_)
    · refine w_if_eq (pc' := 107) k37_104 rfl (fun c_104 => absurd c_104 (by decide)) (fun _ => ?_)
      refine w_iload (pc' := 109) k37_107 rfl rfl ?_
      refine w_goto k37_109 ?_
      refine w_callV (pc' := 120) (as := [.inr (some 21), .inl _, .inl _]) k37_117 rfl rfl (co_v rfl rfl (hL.1 21 (6, 5) rfl)) (by decide) (m38 hL h2 (f := f) (by omega) (by omega) (by rw [upF_s]; omega)) (fun r_117 h_117 hq => ?_)
      obtain ⟨I2, rfl, h5, h6⟩ := hq
      refine w_iinc (pc' := 123) (ls' := [_, _, _, _, _, _, _, _]) k37_120 rfl rfl (by omega) rfl ?_
      refine w_goto k37_123 ?_
      refine ih (n + 1) _ _ _ _ (by omega) (by omega) (fun a ha => by rw [h5 a ha]; exact h1 a ha) (h6.ext (fun g h7 h8 => ?_) (fun g x h7 h8 h9 h10 => rfl)) (fun g x hg => by rw [up2_n (fun z => hg z.1)]; exact h3 g x hg) (fun x h7 h8 => ?_)
      · rw [upF_s, upF_uu]; by_cases e9 : g = f
        · subst e9; rw [upF_s, upF_s]; omega
        · rw [upF_n e9, upF_n e9]
      · rw [upF_s]
        by_cases e8 : x = (n : Int) + 1
        · subst e8
          rw [up2_s]; unfold stQ stL; rw [if_neg (by omega), if_pos (by omega), show ((n : Int) + 1 - 1).toNat = n by omega]
          first | rw [if_pos q_101] | rw [if_neg q_101]
        · rw [up2_n (by omega), h4 x h7 (by omega)]
    · refine w_if_eq (pc' := 107) k37_104 rfl (fun _ => ?_) (fun c_104 => absurd c_104 (by decide))
      refine w_c2 (pc' := 114) k37_112 rfl ?_
      refine w_iload (pc' := 116) k37_114 rfl rfl ?_
      refine w_iadd (pc' := 117) k37_116 rfl (by omega) ?_
      refine w_callV (pc' := 120) (as := [.inr (some 21), .inl _, .inl _]) k37_117 rfl rfl (co_v rfl rfl (hL.1 21 (6, 5) rfl)) (by decide) (m38 hL h2 (f := f) (by omega) (by omega) (by rw [upF_s]; omega)) (fun r_117 h_117 hq => ?_)
      obtain ⟨I2, rfl, h5, h6⟩ := hq
      refine w_iinc (pc' := 123) (ls' := [_, _, _, _, _, _, _, _]) k37_120 rfl rfl (by omega) rfl ?_
      refine w_goto k37_123 ?_
      refine ih (n + 1) _ _ _ _ (by omega) (by omega) (fun a ha => by rw [h5 a ha]; exact h1 a ha) (h6.ext (fun g h7 h8 => ?_) (fun g x h7 h8 h9 h10 => rfl)) (fun g x hg => by rw [up2_n (fun z => hg z.1)]; exact h3 g x hg) (fun x h7 h8 => ?_)
      · rw [upF_s, upF_uu]; by_cases e9 : g = f
        · subst e9; rw [upF_s, upF_s]; omega
        · rw [upF_n e9, upF_n e9]
      · rw [upF_s]
        by_cases e8 : x = (n : Int) + 1
        · subst e8
          rw [up2_s]; unfold stQ stL; rw [if_neg (by omega), if_pos (by omega), show ((n : Int) + 1 - 1).toNat = n by omega]
          first | rw [if_pos q_101] | rw [if_neg q_101]
        · rw [up2_n (by omega), h4 x h7 (by omega)]
theorem m37g (hF : CF sh R I K H E HO S L B s g_s M_s A) (hU : UI I c q) {f t : Int} (hf : 0 ≤ f ∧ f < aNf A) (ht : 0 ≤ t ∧ t < H * H) : WPM X (d + 5) 37 [.inr (some 21), .inr (some s), .inl f, .inl t] (sh, R, I) 0 0 (fun _ h' => ∃ I', h' = (sh, R, I') ∧ (∀ a, a < 12 ∨ (14 < a ∧ a < 22) ∨ 24 < a → I' a = I a) ∧ UI I' (upF c f (stC H E A f t)) (fun g x => if g = f then stQ H E A f t x else q g x)) := by
  have hK := hF.2.1
  have hr := hK.r
  have hab := hF.2.2.2.2.2.2.2.2.2.2.1
  have hff := hab.2.2.2 f hf.1 hf.2
  have hf16 : f < 16 := by have := hab.2.2.1; omega
  have hn0 : 0 ≤ aFr A f / H ∧ aFr A f / H < E := by
    rcases hK with ⟨rfl, rfl, rfl, rfl, rfl, rfl⟩ | ⟨rfl, rfl, rfl, rfl, rfl, rfl⟩ | ⟨rfl, rfl, rfl, rfl, rfl, rfl⟩ <;> omega
  have hL := hF.1
  have h_s := hF.2.2.2.1
  show WP X (d + 5) 37 0 [.inr (some 21), .inr (some s), .inl f, .inl t, .inr none, .inr none, .inr none, .inr none] [] (sh, R, I) 0 0 _
  refine w_aload (pc' := 1) k37_0 rfl rfl ?_
  refine w_iload (pc' := 2) k37_1 rfl rfl ?_
  refine w_callV (pc' := 5) (as := [.inr (some 21), .inl _]) k37_2 rfl rfl (co_v rfl rfl (hL.1 21 (6, 5) rfl)) (by decide) (m39 hL hU (f := f) (by omega)) (fun r_2 h_2 hq => ?_)
  obtain ⟨I1, rfl, h1, h2⟩ := hq
  have hF1 : CF sh R I1 K H E HO S L B s g_s M_s A := hF.keep (fun x hx => h1 x (by omega))
  obtain ⟨-, -, hsp, -, -, -, -, -, -, hcs, -⟩ := id hF1
  refine w_aload (pc' := 6) k37_5 rfl rfl ?_
  refine w_getR (pc' := 9) (v := (s + 2)) k37_6 rfl (hL.s0 h_s) (hL.r1 h_s) ?_
  refine w_iload (pc' := 10) k37_9 rfl rfl ?_
  refine w_iald (pc' := 11) (v := aFr A f) k37_10 rfl (hL.s2 h_s) (by omega) (hcs.2.2.2.2.2 f hf.1 hf.2).1 ?_
  refine w_istore (pc' := 13) (ls' := [_, _, _, _, _, _, _, _]) k37_11 rfl rfl rfl ?_
  refine w_aload (pc' := 14) k37_13 rfl rfl ?_
  refine w_getR (pc' := 17) (v := (s + 3)) k37_14 rfl (hL.s0 h_s) (hL.r2 h_s) ?_
  refine w_iload (pc' := 18) k37_17 rfl rfl ?_
  refine w_iald (pc' := 19) (v := aTo A f) k37_18 rfl (hL.s3 h_s) (by omega) (hcs.2.2.2.2.2 f hf.1 hf.2).2.1 ?_
  refine w_istore (pc' := 21) (ls' := [_, _, _, _, _, _, _, _]) k37_19 rfl rfl rfl ?_
  refine w_aload (pc' := 22) k37_21 rfl rfl ?_
  refine w_getR (pc' := 25) (v := 12) k37_22 rfl (hL.1 21 (6, 5) rfl) (hL.2 21 1 12 rfl) ?_
  refine w_aload (pc' := 26) k37_25 rfl rfl ?_
  refine w_aload (pc' := 27) k37_26 rfl rfl ?_
  refine w_getR (pc' := 30) (v := 3) k37_27 rfl (hL.1 21 (6, 5) rfl) (hL.2 21 0 3 rfl) ?_
  refine w_getR (pc' := 33) (v := 10) k37_30 rfl (hL.1 3 (5, 14) rfl) (hL.2 3 12 10 rfl) ?_
  refine w_iload (pc' := 35) k37_33 rfl rfl ?_
  refine w_iald (pc' := 36) (v := aFr A f / H) k37_35 rfl (hL.1 10 (0, 54) rfl) (by omega) (hsp.2.2.2.2.2.2.2.2 _ hff.1.1 hff.1.2).1 ?_
  refine w_iload (pc' := 38) k37_36 rfl rfl ?_
  refine w_iload (pc' := 39) k37_38 rfl rfl ?_
  refine w_callV (pc' := 42) (as := [.inr (some 12), .inr (some s), .inl _, .inl _, .inl _]) k37_39 rfl rfl (co_v rfl rfl (hL.1 12 (3, 5) rfl)) (by decide) (m6 hF1 hn0 hff.2.1 ht) (fun r_39 h_39 hq => ?_)
  obtain ⟨I2, rfl, hJ⟩ := hq
  have hF2 : CF sh R I2 K H E HO S L B s g_s M_s A := hF1.keep (fun x hx => hJ.1 x (by omega) (by omega) (by omega))
  have h2b := h2.keep (fun a h3 h4 => hJ.1 a (by omega) (by omega) (by omega))
  refine w_aload (pc' := 43) k37_42 rfl rfl ?_
  refine w_getR (pc' := 46) (v := 12) k37_43 rfl (hL.1 21 (6, 5) rfl) (hL.2 21 1 12 rfl) ?_
  refine w_getI (pc' := 49) (ki := 4) (v := (if pA H E A (aFr A f / H) (aTo A f) t then 1 else 0)) k37_46 rfl (hL.1 12 (3, 5) rfl) rfl hJ.2.2.1 ?_
  refine w_if_ne (pc' := 52) k37_49 rfl (fun c_49 => ?_) (fun c_49 => ?_)
  · refine w_aload (pc' := 54) k37_53 rfl rfl ?_
    refine w_iload (pc' := 55) k37_54 rfl rfl ?_
    refine w_c3 (pc' := 58) k37_55 rfl ?_
    refine w_iload (pc' := 60) k37_58 rfl rfl ?_
    refine w_iadd (pc' := 61) k37_60 rfl (by omega) ?_
    refine w_callV (pc' := 64) (as := [.inr (some 21), .inl _, .inl _]) k37_61 rfl rfl (co_v rfl rfl (hL.1 21 (6, 5) rfl)) (by decide) (m38 hL h2b (f := f) (u := 216 + aFr A f) (by omega) (by omega) (by rw [upF_s]; omega)) (fun r_61 h_61 hq => ?_)
    obtain ⟨I3, rfl, h5, h6⟩ := hq
    refine w_c1 (pc' := 65) k37_64 rfl ?_
    refine w_istore (pc' := 67) (ls' := [_, _, _, _, _, _, _, _]) k37_65 rfl rfl rfl ?_
    have hpa : pA H E A (aFr A f / H) (aTo A f) t = true := by
      cases hz : pA H E A (aFr A f / H) (aTo A f) t with
      | true => rfl
      | false => rw [hz] at c_49; exact absurd rfl c_49
    rw [upF_s, upF_uu] at h6
    refine WP.mono (m37l (I := I2) (c := c) (q := q) hF2 hf ht hpa hJ.2.1 hJ.2.2.2.1 hJ.2.2.2.2 (pV H E A (aFr A f / H) (aTo A f) t - 1) 0 _ _ _ _ (by have := pV_r (H := H) (E := E) (A := A) (n := aFr A f / H) (b := aTo A f) (s := t); omega) rfl h5 h6 (fun g x hg => up2_n (fun z => hg z.1)) (fun x h7 h8 => ?_)) (fun r h' hq => ?_)
    · rcases (show x = 0 by omega) with rfl
      rw [up2_s]; unfold stQ; rw [if_pos rfl]
    · obtain ⟨I', z1, z2, z3⟩ := hq
      exact ⟨I', z1, fun a ha => by rw [z2 a (by omega), hJ.1 a (by omega) (by omega) (by omega)]; exact h1 a (by omega), z3⟩
  · have hpa : pA H E A (aFr A f / H) (aTo A f) t = false := by
      cases hz : pA H E A (aFr A f / H) (aTo A f) t with
      | false => rfl
      | true => rw [hz] at c_49; exact absurd c_49 (by decide)
    refine w_retv k37_52 ⟨_, rfl, fun a ha => by rw [hJ.1 a (by omega) (by omega) (by omega)]; exact h1 a (by omega), ?_⟩
    have e9 : stC H E A f t = 0 := by unfold stC; rw [hpa]; rfl
    rw [e9]
    refine h2b.ext (fun g _ _ => rfl) (fun g x h7 h8 h9 h10 => ?_)
    by_cases e8 : g = f
    · subst e8; rw [upF_s] at h10; omega
    · rw [if_neg e8]
theorem m37 (hF : CF sh R I K H E HO S L B s g_s M_s A) {σ : Int → Int} (hU : UI I (cS H E A (aNf A) σ) (qS H E A σ)) {f t : Int} (hf : 0 ≤ f ∧ f < aNf A) (ht : 0 ≤ t ∧ t < H * H) : WPM X (d + 5) 37 [.inr (some 21), .inr (some s), .inl f, .inl t] (sh, R, I) 0 0 (fun _ h' => ∃ I', h' = (sh, R, I') ∧ (∀ a, a < 12 ∨ (14 < a ∧ a < 22) ∨ 24 < a → I' a = I a) ∧ UI I' (cS H E A (aNf A) (upF σ f t)) (qS H E A (upF σ f t))) := by
  refine WP.mono (m37g hF hU hf ht) (fun r h' hq => ?_)
  obtain ⟨I', h1, h2, h3⟩ := hq
  refine ⟨I', h1, h2, h3.ext (fun g h4 h5 => ?_) (fun g x h4 h5 h6 h7 => ?_)⟩
  · unfold cS
    by_cases e9 : g = f
    · subst e9; rw [upF_s, if_pos hf, upF_s]
    · rw [upF_n e9, upF_n e9]
  · unfold qS
    by_cases e9 : g = f
    · subst e9; rw [if_pos rfl, upF_s]
    · rw [if_neg e9, upF_n e9]
theorem m36l (hF : CF sh R I K H E HO S L B s g_s M_s A) {N : Nat} (hN : aNf A = (N : Int)) : ∀ (k n : Nat) (i : Int) (I1 : Nat → Int → Int), n + k = N → i = (n : Int) → (∀ a, a < 12 ∨ (14 < a ∧ a < 22) ∨ 24 < a → I1 a = I a) → UI I1 (cS H E A n (aSh A)) (qS H E A (aSh A)) → WP X (d + 6) 36 18 [.inr (some 21), .inr (some s), .inl i] [] (sh, R, I1) 0 0 (fun _ h' => ∃ I', h' = (sh, R, I') ∧ (∀ a, a < 12 ∨ (14 < a ∧ a < 22) ∨ 24 < a → I' a = I a) ∧ UI I' (cS H E A (aNf A) (aSh A)) (qS H E A (aSh A))) := by
  have hK := hF.2.1
  have hr := hK.r
  have hab := hF.2.2.2.2.2.2.2.2.2.2.1
  intro k
  induction k with
  | zero =>
    rintro n i I1 hk rfl h1 h2
    have hF1 : CF sh R I1 K H E HO S L B s g_s M_s A := hF.keep (fun x hx => h1 x (by omega))
    obtain ⟨hL, -, hsp, h_s, m_s, n_s, -, -, -, hcs, -⟩ := id hF1
    have e9 : n = N := by omega
    subst e9
    refine w_iload (pc' := 19) k36_18 rfl rfl ?_
    refine w_aload (pc' := 20) k36_19 rfl rfl ?_
    refine w_getI (pc' := 23) (ki := 5) (v := aNf A) k36_20 rfl (hL.s0 h_s) rfl hcs.1 ?_
    refine w_ic_ge (pc' := 26) k36_23 rfl (fun c_23 => ?_) (fun c_23 => absurd c_23 (by omega))
    exact w_retv k36_44 ⟨_, rfl, h1, by rw [hN]; exact h2⟩
  | succ k ih =>
    rintro n i I1 hk rfl h1 h2
    have hF1 : CF sh R I1 K H E HO S L B s g_s M_s A := hF.keep (fun x hx => h1 x (by omega))
    obtain ⟨hL, -, hsp, h_s, m_s, n_s, -, -, -, hcs, -⟩ := id hF1
    have hfn : (0 : Int) ≤ (n : Int) ∧ (n : Int) < aNf A := by omega
    have h16 := hab.2.2.1
    refine w_iload (pc' := 19) k36_18 rfl rfl ?_
    refine w_aload (pc' := 20) k36_19 rfl rfl ?_
    refine w_getI (pc' := 23) (ki := 5) (v := aNf A) k36_20 rfl (hL.s0 h_s) rfl hcs.1 ?_
    refine w_ic_ge (pc' := 26) k36_23 rfl (fun c_23 => absurd c_23 (by omega)) (fun c_23 => ?_)
    refine w_aload (pc' := 27) k36_26 rfl rfl ?_
    refine w_aload (pc' := 28) k36_27 rfl rfl ?_
    refine w_iload (pc' := 29) k36_28 rfl rfl ?_
    refine w_aload (pc' := 30) k36_29 rfl rfl ?_
    refine w_getR (pc' := 33) (v := (s + 5)) k36_30 rfl (hL.s0 h_s) (hL.r4 h_s) ?_
    refine w_iload (pc' := 34) k36_33 rfl rfl ?_
    refine w_iald (pc' := 35) (v := aSh A n) k36_34 rfl (hL.s5 h_s) (by omega) (hcs.2.2.2.2.2 n hfn.1 hfn.2).2.2.2 ?_
    refine w_callV (pc' := 38) (as := [.inr (some 21), .inr (some s), .inl _, .inl _]) k36_35 rfl rfl (co_v rfl rfl (hL.1 21 (6, 5) rfl)) (by decide) (m37g hF1 h2 hfn (hab.2.2.2 n hfn.1 hfn.2).2.2.2.2) (fun r_35 h_35 hq => ?_)
    obtain ⟨I2, rfl, h3, h4⟩ := hq
    refine w_iinc (pc' := 41) (ls' := [_, _, _]) k36_38 rfl rfl (by omega) rfl ?_
    refine w_goto k36_41 ?_
    refine ih (n + 1) _ _ (by omega) (by omega) (fun a ha => by rw [h3 a ha]; exact h1 a ha) (h4.ext (fun g h5 h6 => ?_) (fun g x h5 h6 h7 h8 => ?_))
    · unfold cS
      by_cases e9 : g = n
      · subst e9; rw [upF_s, if_pos (by omega)]
      · rw [upF_n e9]
        by_cases e8 : g < n
        · rw [if_pos (by omega), if_pos (by omega)]
        · rw [if_neg (by omega), if_neg (by omega)]
    · by_cases e9 : g = n
      · subst e9; rw [if_pos rfl]; rfl
      · rw [if_neg e9]
theorem m36 (hF : CF sh R I K H E HO S L B s g_s M_s A) : WPM X (d + 6) 36 [.inr (some 21), .inr (some s)] (sh, R, I) 0 0 (fun _ h' => ∃ I', h' = (sh, R, I') ∧ (∀ a, a < 12 ∨ (14 < a ∧ a < 22) ∨ 24 < a → I' a = I a) ∧ UI I' (cS H E A (aNf A) (aSh A)) (qS H E A (aSh A))) := by
  have hL := hF.1
  have hab := hF.2.2.2.2.2.2.2.2.2.2.1
  show WP X (d + 6) 36 0 [.inr (some 21), .inr (some s), .inr none] [] (sh, R, I) 0 0 _
  refine w_aload (pc' := 1) k36_0 rfl rfl ?_
  refine w_getR (pc' := 4) (v := 24) k36_1 rfl (hL.1 21 (6, 5) rfl) (hL.2 21 4 24 rfl) ?_
  refine w_c1 (pc' := 5) k36_4 rfl ?_
  refine w_callV (pc' := 8) (as := [.inr (some 24), .inl _]) k36_5 rfl rfl (co_s (Or.inl rfl) rfl rfl rfl) (by decide) (m189 (hL.1 24 (0, 324) rfl) (by decide)) (fun r_5 h_5 hq => ?_)
  obtain ⟨I1, rfl, f1, f2⟩ := hq
  refine w_aload (pc' := 9) k36_8 rfl rfl ?_
  refine w_getR (pc' := 12) (v := 23) k36_9 rfl (hL.1 21 (6, 5) rfl) (hL.2 21 3 23 rfl) ?_
  refine w_c1 (pc' := 13) k36_12 rfl ?_
  refine w_callV (pc' := 16) (as := [.inr (some 23), .inl _]) k36_13 rfl rfl (co_s (Or.inl rfl) rfl rfl rfl) (by decide) (m189 (hL.1 23 (0, 16) rfl) (by decide)) (fun r_13 h_13 hq => ?_)
  obtain ⟨I2, rfl, f3, f4⟩ := hq
  refine w_c1 (pc' := 17) k36_16 rfl ?_
  refine w_istore (pc' := 18) (ls' := [_, _, _]) k36_17 rfl rfl rfl ?_
  refine WP.mono (m36l (I := I2) (hF.keep (fun a ha => by rw [f3 a (by omega), f1 a (by omega)])) (N := (aNf A).toNat) (by have := hab.2.2.1; omega) (aNf A).toNat 0 _ _ (by omega) rfl (fun _ _ => rfl) ⟨fun g h1 h2 => ?_, fun g x h1 h2 h3 h4 => ?_, fun u h1 h2 => ?_⟩) (fun r h' hq => ?_)
  · rw [f4 g h1 (by omega)]; unfold cS; rw [if_neg (by omega)]; omega
  · unfold cS at h4; rw [if_neg (by omega)] at h4; omega
  · rw [f3 24 (by decide), f2 u h1 (by omega)]
    have e9 : usG (cS H E A (0 : Nat) (aSh A)) (qS H E A (aSh A)) u = 0 := by
      unfold usG
      rw [sumN_ext (g := fun _ => 0) 16 (fun i _ => by unfold kG cS; rw [if_neg (by omega)]; rfl)]
      rfl
    rw [e9]
  · obtain ⟨I', z1, z2, z3⟩ := hq
    exact ⟨I', z1, fun a ha => by rw [z2 a ha, f3 a (by omega), f1 a (by omega)], z3⟩
end C33
