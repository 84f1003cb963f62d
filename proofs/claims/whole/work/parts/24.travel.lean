/-! ===== CLASS: whole ways ===== -/
section C24
variable {X : Nat × (Int → Int)} {d : Nat} {sh : List (Nat × Nat)} {R : Nat → Nat → Option Nat} {I : Nat → Int → Int} {s g_s M_s : Nat} {K H E HO S L B : Int} {A : AS}
/-- the Journey's cells behind a travel -/
def JR (I I' : Nat → Int → Int) (H E : Int) (A : AS) (n b ss : Int) : Prop := (∀ a, a ≠ 12 → a ≠ 13 → a ≠ 14 → I' a = I a) ∧ I' 12 3 = pV H E A n b ss ∧ I' 12 4 = (if pA H E A n b ss then 1 else 0) ∧ (∀ k : Nat, k < pV H E A n b ss → I' 13 k = pN H E A n b ss k) ∧ (∀ k : Nat, k + 1 < pV H E A n b ss → I' 14 k = pL H E A n b ss k)
/-- the same, on the way, before the t-th visit -/
def JT (I I' : Nat → Int → Int) (H E : Int) (A : AS) (n b ss : Int) (t : Nat) : Prop := (∀ a, a ≠ 12 → a ≠ 13 → a ≠ 14 → I' a = I a) ∧ I' 12 3 = t ∧ I' 12 4 = 0 ∧ (∀ k : Nat, k < t → I' 13 k = pN H E A n b ss k) ∧ (∀ k : Nat, k < t → I' 14 k = pL H E A n b ss k) ∧ ∀ k : Nat, k < t → 0 ≤ pL H E A n b ss k
theorem m6l (hF : CF sh R I K H E HO S L B s g_s M_s A) {n b ss : Int} (hn : 0 ≤ n ∧ n < E) (hb : 0 ≤ b ∧ b < HO) (hs : 0 ≤ ss ∧ ss < H * H) : ∀ (k t : Nat) (i at9 : Int) (v7 : VV) (I1 : Nat → Int → Int), t + k = 5 → i = (t : Int) → at9 = pN H E A n b ss t → JT I I1 H E A n b ss t → WP X (d + 4) 6 16 [.inr (some 12), .inr (some s), .inl n, .inl b, .inl ss, .inl at9, .inl i, v7] [] (sh, R, I1) 0 0 (fun _ h' => ∃ I', h' = (sh, R, I') ∧ JR I I' H E A n b ss) := by
  have hF9 := hF
  obtain ⟨hL, hK, -⟩ := hF9
  have hr := hK.r
  intro k
  induction k with
  | zero =>
    rintro t i at9 v7 I1 hk rfl rfl hj
    have e : t = 5 := by omega
    subst e
    refine w_iload (pc' := 18) k6_16 rfl rfl ?_
    refine w_c1 (pc' := 19) k6_18 rfl ?_
    refine w_ic_ge (pc' := 22) k6_19 rfl (fun c_19 => ?_) (fun c_19 => absurd c_19 (by omega))
    refine w_retv k6_103 ⟨I1, rfl, hj.1, ?_, ?_, ?_, ?_⟩
    · rw [hj.2.1, pV_5 hj.2.2.2.2.2]
    · rw [hj.2.2.1]
      unfold pA
      rw [pV_5 hj.2.2.2.2.2]
      have := hj.2.2.2.2.2 4 (by omega)
      rw [if_neg]
      simp
      omega
    · rw [pV_5 hj.2.2.2.2.2]; exact hj.2.2.2.1
    · rw [pV_5 hj.2.2.2.2.2]; exact fun k hk => hj.2.2.2.2.1 k (by omega)
  | succ k ih =>
    rintro t i at9 v7 I1 hk rfl rfl hj
    have hpn := pN_range (A := A) (s := ss) hK ⟨hn.1, by omega⟩ hb t hj.2.2.2.2.2
    have hlr := nl_range (A := A) (s := ss) hK hpn hb
    have hF1 : CF sh R (upA (upA I1 13 (upF (I1 13) t (pN H E A n b ss t))) 12 (upF (I1 12) 3 (t + 1))) K H E HO S L B s g_s M_s A := hF.keep (fun a ha => by
      rw [upA_n (by omega), upA_n (by omega)]
      exact hj.1 a (by omega) (by omega) (by omega))
    refine w_iload (pc' := 18) k6_16 rfl rfl ?_
    refine w_c1 (pc' := 19) k6_18 rfl ?_
    refine w_ic_ge (pc' := 22) k6_19 rfl (fun c_19 => absurd c_19 (by omega)) (fun c_19 => ?_)
    refine w_aload (pc' := 23) k6_22 rfl rfl ?_
    refine w_getR (pc' := 26) (v := 13) k6_23 rfl (hL.1 12 (3, 5) rfl) (hL.2 12 1 13 rfl) ?_
    refine w_iload (pc' := 28) k6_26 rfl rfl ?_
    refine w_iload (pc' := 30) k6_28 rfl rfl ?_
    refine w_iast (pc' := 31) k6_30 rfl (hL.1 13 (0, 5) rfl) (by omega) ?_
    refine w_aload (pc' := 32) k6_31 rfl rfl ?_
    refine w_dup (pc' := 33) k6_32 rfl ?_
    refine w_getI (pc' := 36) (ki := 3) (v := (t : Int)) k6_33 rfl (hL.1 12 (3, 5) rfl) rfl (by rw [upA_n (by decide)]; exact hj.2.1) ?_
    refine w_c1 (pc' := 37) k6_36 rfl ?_
    refine w_iadd (pc' := 38) k6_37 rfl (by omega) ?_
    refine w_putI (pc' := 41) (ki := 3) k6_38 rfl (hL.1 12 (3, 5) rfl) rfl ?_
    rw [upA_n (show (12 : Nat) ≠ 13 by decide)]
    refine w_aload (pc' := 42) k6_41 rfl rfl ?_
    refine w_aload (pc' := 43) k6_42 rfl rfl ?_
    refine w_iload (pc' := 45) k6_43 rfl rfl ?_
    refine w_iload (pc' := 46) k6_45 rfl rfl ?_
    refine w_iload (pc' := 48) k6_46 rfl rfl ?_
    refine w_callE (pc' := 51) (as := [.inr (some 12), .inr (some s), .inl _, .inl _, .inl _]) k6_48 rfl rfl (co_v rfl rfl (hL.1 12 (3, 5) rfl)) (by decide) (m8 hF1 hpn hb hs) ?_
    refine w_istore (pc' := 53) (ls' := [_, _, _, _, _, _, _, _]) k6_51 rfl rfl rfl ?_
    refine w_iload (pc' := 55) k6_53 rfl rfl ?_
    refine w_if_ge (pc' := 58) k6_55 rfl (fun c_55 => ?_) (fun c_55 => ?_)
    · refine w_aload (pc' := 76) k6_75 rfl rfl ?_
      refine w_getR (pc' := 79) (v := 14) k6_76 rfl (hL.1 12 (3, 5) rfl) (hL.2 12 2 14 rfl) ?_
      refine w_iload (pc' := 81) k6_79 rfl rfl ?_
      refine w_iload (pc' := 83) k6_81 rfl rfl ?_
      refine w_iast (pc' := 84) k6_83 rfl (hL.1 14 (0, 5) rfl) (by omega) ?_
      refine w_aload (pc' := 85) k6_84 rfl rfl ?_
      refine w_getR (pc' := 88) (v := 3) k6_85 rfl (hL.1 12 (3, 5) rfl) (hL.2 12 0 3 rfl) ?_
      refine w_iload (pc' := 90) k6_88 rfl rfl ?_
      refine w_iload (pc' := 92) k6_90 rfl rfl ?_
      refine w_callE (pc' := 95) (as := [.inr (some 3), .inl _, .inl _]) k6_92 rfl rfl (co_v rfl rfl (hL.1 3 (5, 14) rfl)) (by decide) (m34 (hF1.keep (fun a ha => by rw [upA_n (by omega)])) (by omega)) ?_
      refine w_istore (pc' := 97) (ls' := [_, _, _, _, _, _, _, _]) k6_95 rfl rfl rfl ?_
      refine w_iinc (pc' := 100) (ls' := [_, _, _, _, _, _, _, _]) k6_97 rfl rfl (by omega) rfl ?_
      refine w_goto k6_100 ?_
      refine ih (t + 1) _ _ _ _ (by omega) (by omega) rfl ?_
      refine ⟨fun a h1 h2 h3 => ?_, ?_, ?_, ?_, ?_, ?_⟩
      · rw [upA_n h3, upA_n h1, upA_n h2]; exact hj.1 a h1 h2 h3
      · rw [upA_n (by decide), upA_s, upF_s]; rfl
      · rw [upA_n (by decide), upA_s, upF_n (by decide)]; exact hj.2.2.1
      · intro k hk
        rw [upA_n (by decide), upA_n (by decide), upA_s]
        rcases (show k < t ∨ k = t by omega) with q | q
        · rw [upF_n (by omega)]; exact hj.2.2.2.1 k q
        · subst q; rw [upF_s]
      · intro k hk
        rw [upA_s]
        rcases (show k < t ∨ k = t by omega) with q | q
        · rw [upF_n (by omega), upA_n (by decide), upA_n (by decide)]; exact hj.2.2.2.2.1 k q
        · subst q; rw [upF_s]; rfl
      · intro k hk
        rcases (show k < t ∨ k = t by omega) with q | q
        · exact hj.2.2.2.2.2 k q
        · subst q; exact c_55
    · refine w_aload (pc' := 59) k6_58 rfl rfl ?_
      refine w_iload (pc' := 61) k6_59 rfl rfl ?_
      refine w_c2 (pc' := 63) k6_61 rfl ?_
      refine w_ic_ne (pc' := 66) k6_63 rfl (fun c_63 => ?_) (fun c_63 => ?_)
      · refine w_c1 (pc' := 71) k6_70 rfl ?_
        refine w_putZ (pc' := 74) (ki := 4) k6_71 rfl (hL.1 12 (3, 5) rfl) rfl (by omega) ?_
        refine w_retv k6_74 ⟨_, rfl, ?_⟩
        have hv : pV H E A n b ss = t + 1 := pV_at (by omega) hj.2.2.2.2.2 c_55
        refine ⟨fun a h1 h2 h3 => ?_, ?_, ?_, ?_, ?_⟩
        · rw [upA_n h1, upA_n h1, upA_n h2]; exact hj.1 a h1 h2 h3
        · rw [upA_s, upA_s, upF_n (by decide), upF_s, hv]; rfl
        · rw [upA_s, upF_s]; unfold pA; rw [hv, show t + 1 - 1 = t by omega]; unfold pL; simp [c_63]
        · intro k hk
          rw [upA_n (by decide), upA_n (by decide), upA_s]
          rcases (show k < t ∨ k = t by omega) with q | q
          · rw [upF_n (by omega)]; exact hj.2.2.2.1 k q
          · subst q; rw [upF_s]
        · intro k hk
          rw [upA_n (by decide), upA_n (by decide), upA_n (by decide)]
          exact hj.2.2.2.2.1 k (by omega)
      · refine w_c1 (pc' := 67) k6_66 rfl ?_
        refine w_goto k6_67 ?_
        refine w_putZ (pc' := 74) (ki := 4) k6_71 rfl (hL.1 12 (3, 5) rfl) rfl (by omega) ?_
        refine w_retv k6_74 ⟨_, rfl, ?_⟩
        have hv : pV H E A n b ss = t + 1 := pV_at (by omega) hj.2.2.2.2.2 c_55
        refine ⟨fun a h1 h2 h3 => ?_, ?_, ?_, ?_, ?_⟩
        · rw [upA_n h1, upA_n h1, upA_n h2]; exact hj.1 a h1 h2 h3
        · rw [upA_s, upA_s, upF_n (by decide), upF_s, hv]; rfl
        · rw [upA_s, upF_s]; unfold pA; rw [hv, show t + 1 - 1 = t by omega]; unfold pL; simp [c_63]
        · intro k hk
          rw [upA_n (by decide), upA_n (by decide), upA_s]
          rcases (show k < t ∨ k = t by omega) with q | q
          · rw [upF_n (by omega)]; exact hj.2.2.2.1 k q
          · subst q; rw [upF_s]
        · intro k hk
          rw [upA_n (by decide), upA_n (by decide), upA_n (by decide)]
          exact hj.2.2.2.2.1 k (by omega)
theorem m6 (hF : CF sh R I K H E HO S L B s g_s M_s A) {n b ss : Int} (hn : 0 ≤ n ∧ n < E) (hb : 0 ≤ b ∧ b < HO) (hs : 0 ≤ ss ∧ ss < H * H) : WPM X (d + 4) 6 [.inr (some 12), .inr (some s), .inl n, .inl b, .inl ss] (sh, R, I) 0 0 (fun _ h' => ∃ I', h' = (sh, R, I') ∧ JR I I' H E A n b ss) := by
  have hL := hF.1
  show WP X (d + 4) 6 0 [.inr (some 12), .inr (some s), .inl n, .inl b, .inl ss, .inr none, .inr none, .inr none] [] (sh, R, I) 0 0 _
  refine w_iload (pc' := 1) k6_0 rfl rfl ?_
  refine w_istore (pc' := 3) (ls' := [_, _, _, _, _, _, _, _]) k6_1 rfl rfl rfl ?_
  refine w_aload (pc' := 4) k6_3 rfl rfl ?_
  refine w_c1 (pc' := 5) k6_4 rfl ?_
  refine w_putI (pc' := 8) (ki := 3) k6_5 rfl (hL.1 12 (3, 5) rfl) rfl ?_
  refine w_aload (pc' := 9) k6_8 rfl rfl ?_
  refine w_c1 (pc' := 10) k6_9 rfl ?_
  refine w_putZ (pc' := 13) (ki := 4) k6_10 rfl (hL.1 12 (3, 5) rfl) rfl (Or.inl rfl) ?_
  refine w_c1 (pc' := 14) k6_13 rfl ?_
  refine w_istore (pc' := 16) (ls' := [_, _, _, _, _, _, _, _]) k6_14 rfl rfl rfl ?_
  refine m6l hF hn hb hs 5 0 _ _ _ _ (by omega) rfl rfl ?_
  refine ⟨fun a h1 h2 h3 => ?_, ?_, ?_, ?_, ?_, ?_⟩
  · rw [upA_n h1, upA_n h1]
  · rw [upA_s, upF_n (by decide), upA_s, upF_s]; rfl
  · rw [upA_s, upF_s]
  · intro k hk; omega
  · intro k hk; omega
  · intro k hk; omega
end C24
