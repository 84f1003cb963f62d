/-! ===== REFERENCE: best ===== -/
section M80
variable {X : Nat × (Int → Int)} {d : Nat} {sh : List (Nat × Nat)} {R : Nat → Nat → Option Nat} {I : Nat → Int → Int} {K H E HO S L B : Int} {A : AS}
theorem m185l (hF : MF sh R I K H E HO S L B A) {f : Int} {v2 : VV} (hf : 0 ≤ f ∧ f < aNf A) {N : Nat} (hN : H * H = (N : Int)) : ∀ (k n : Nat) (x y z i w : Int) (v7 : VV) (I1 : Nat → Int → Int), n + k = N → i = (n : Int) → (z, x, y) = imF (fun s => lsV H E A (aNf A) (upF (aSh A) f s)) (fun s => shV H E A (aNf A) (upF (aSh A) f s) f) (aSh A f, lsV H E A (aNf A) (aSh A), shV H E A (aNf A) (aSh A) f) n → (0 ≤ w ∧ w < H * H) → ((∀ a, a ≠ 57 → a ≠ 62 → (a < 69 ∨ 75 < a) → I1 a = I a) ∧ (∀ j, j ≠ 18 → j ≠ 21 → I1 57 j = I 57 j) ∧ I1 62 = upF (I 62) (4 * f + 3) w) → WP X (d + 8) 185 34 [.inr (some 57), .inl f, v2, .inl x, .inl y, .inl z, .inl i, v7] [] (sh, R, I1) 0 0 (fun _ h' => ∃ I', h' = (sh, R, I') ∧ (∀ a, a ≠ 57 → a ≠ 62 → (a < 69 ∨ 75 < a) → I' a = I a) ∧ (∀ j, j ≠ 18 → j ≠ 21 → I' 57 j = I 57 j) ∧ I' 62 = upF (I 62) (4 * f + 3) (bestS H E A (aNf A) (aSh A) f)) := by
  have hF0 := hF
  obtain ⟨hM, hK, hpo, hha, hms, hab, hB⟩ := hF
  have hr := hK.r
  have hnf := hab.2.2.1
  have hf2 := hab.2.2.2 f hf.1 hf.2
  intro k
  induction k with
  | zero =>
    rintro n x y z i w v7 I1 hk rfl hx hw h1
    have e : n = N := by omega
    subst e
    have hpo1 : I1 57 3 = H := by rw [h1.2.1 3 (by decide) (by decide)]; exact hha
    have hz : z = bestS H E A (aNf A) (aSh A) f := by
      unfold bestS
      rw [show (H * H).toNat = n by omega, ← hx]
    refine w_iload (pc' := 36) k185_34 rfl rfl ?_
    refine w_aload (pc' := 37) k185_36 rfl rfl ?_
    refine w_getI (pc' := 40) (ki := 3) (v := H) k185_37 rfl (hM.1 57 (11, 30) rfl) rfl hpo1 ?_
    refine w_aload (pc' := 41) k185_40 rfl rfl ?_
    refine w_getI (pc' := 44) (ki := 3) (v := H) k185_41 rfl (hM.1 57 (11, 30) rfl) rfl hpo1 ?_
    refine w_imul (pc' := 45) k185_44 rfl (by have : H * H ≤ 9 := Int.le_trans (Int.mul_le_mul_of_nonneg_left (by omega : H ≤ 3) (by omega)) (by omega); have : 0 ≤ H * H := Int.mul_nonneg (by omega) (by omega); omega) ?_
    refine w_ic_ge (pc' := 48) k185_45 rfl (fun c_45 => ?_) (fun c_45 => absurd c_45 (by omega))
    refine w_aload (pc' := 115) k185_114 rfl rfl ?_
    refine w_getR (pc' := 118) (v := 62) k185_115 rfl (hM.1 57 (11, 30) rfl) (hM.2 57 8 62 rfl) ?_
    refine w_c1 (pc' := 119) k185_118 rfl ?_
    refine w_iload (pc' := 120) k185_119 rfl rfl ?_
    refine w_imul (pc' := 121) k185_120 rfl (by omega) ?_
    refine w_c1 (pc' := 122) k185_121 rfl ?_
    refine w_iadd (pc' := 123) k185_122 rfl (by omega) ?_
    refine w_iload (pc' := 125) k185_123 rfl rfl ?_
    refine w_iast (pc' := 126) k185_125 rfl (hM.1 62 (0, 64) rfl) (by omega) ?_
    exact w_retv k185_126 ⟨_, rfl, fun a q1 q2 q3 => by rw [upA_n q2, h1.1 a q1 q2 q3], fun j q1 q2 => by rw [upA_n (by decide), h1.2.1 j q1 q2], by rw [upA_s, h1.2.2, upF_uu, hz]⟩
  | succ k ih =>
    rintro n x y z i w v7 I1 hk rfl hx hw h1
    have hpo1 : I1 57 3 = H := by rw [h1.2.1 3 (by decide) (by decide)]; exact hha
    have hn : 0 ≤ (n : Int) ∧ (n : Int) < H * H := by omega
    have hHH : 0 ≤ H * H ∧ H * H ≤ 9 := ⟨Int.mul_nonneg (by omega) (by omega), Int.le_trans (Int.mul_le_mul_of_nonneg_left (by omega : H ≤ 3) (by omega)) (by omega)⟩
    have hI2 : SE (upA I 62 (upF (I 62) (4 * f + 3) (n : Int))) (upA I1 62 (upF (I1 62) (4 * f + 3) (n : Int))) := by
      refine ⟨fun a q1 q2 => ?_, fun j q1 q2 => by rw [upA_n (by decide), upA_n (by decide), h1.2.1 j q1 q2]⟩
      by_cases c : a = 62
      · subst c; rw [upA_s, upA_s, h1.2.2, upF_uu]
      · rw [upA_n c, upA_n c, h1.1 a q1 c q2]
    have hF2 := hI2.mf (hF0.shw hf hn)
    have hx1 : x = (imF (fun s => lsV H E A (aNf A) (upF (aSh A) f s)) (fun s => shV H E A (aNf A) (upF (aSh A) f s) f) (aSh A f, lsV H E A (aNf A) (aSh A), shV H E A (aNf A) (aSh A) f) n).2.1 := by rw [← hx]
    have hx2 : y = (imF (fun s => lsV H E A (aNf A) (upF (aSh A) f s)) (fun s => shV H E A (aNf A) (upF (aSh A) f s) f) (aSh A f, lsV H E A (aNf A) (aSh A), shV H E A (aNf A) (aSh A) f) n).2.2 := by rw [← hx]
    refine w_iload (pc' := 36) k185_34 rfl rfl ?_
    refine w_aload (pc' := 37) k185_36 rfl rfl ?_
    refine w_getI (pc' := 40) (ki := 3) (v := H) k185_37 rfl (hM.1 57 (11, 30) rfl) rfl hpo1 ?_
    refine w_aload (pc' := 41) k185_40 rfl rfl ?_
    refine w_getI (pc' := 44) (ki := 3) (v := H) k185_41 rfl (hM.1 57 (11, 30) rfl) rfl hpo1 ?_
    refine w_imul (pc' := 45) k185_44 rfl (by omega) ?_
    refine w_ic_ge (pc' := 48) k185_45 rfl (fun c_45 => absurd c_45 (by omega)) (fun c_45 => ?_)
    refine w_aload (pc' := 49) k185_48 rfl rfl ?_
    refine w_getR (pc' := 52) (v := 62) k185_49 rfl (hM.1 57 (11, 30) rfl) (hM.2 57 8 62 rfl) ?_
    refine w_c1 (pc' := 53) k185_52 rfl ?_
    refine w_iload (pc' := 54) k185_53 rfl rfl ?_
    refine w_imul (pc' := 55) k185_54 rfl (by omega) ?_
    refine w_c1 (pc' := 56) k185_55 rfl ?_
    refine w_iadd (pc' := 57) k185_56 rfl (by omega) ?_
    refine w_iload (pc' := 59) k185_57 rfl rfl ?_
    refine w_iast (pc' := 60) k185_59 rfl (hM.1 62 (0, 64) rfl) (by omega) ?_
    refine w_aload (pc' := 61) k185_60 rfl rfl ?_
    refine w_callV (pc' := 64) (as := [.inr (some 57)]) k185_61 rfl rfl (co_v rfl rfl (hM.1 57 (11, 30) rfl)) (by decide) (m179 hF2) (fun r_61 h_61 hq => ?_)
    obtain ⟨I_1, rfl, s1, s2⟩ := hq
    have hF3 := s1.mf hF2
    have hl7 : lsG (cS H E A (aNf A) (upF (aSh A) f (n : Int))) (qS H E A (upF (aSh A) f (n : Int))) (aNf A).toNat = lsV H E A (aNf A) (upF (aSh A) f (n : Int)) := rfl
    have hlr := lsV_le (H := H) (E := E) (A := A) (nf := aNf A) (σ := upF (aSh A) f (n : Int))
    have hv7 : I_1 75 f = shV H E A (aNf A) (upF (aSh A) f (n : Int)) f := (s2 f hf.1 hf.2).trans (shV_mk (A := A) (A' := shW A (upF (aSh A) f (n : Int))) rfl rfl rfl)
    refine w_aload (pc' := 65) k185_64 rfl rfl ?_
    refine w_callE (pc' := 68) (as := [.inr (some 57)]) k185_65 rfl rfl (co_v rfl rfl (hM.1 57 (11, 30) rfl)) (by decide) (m180 hF3 (c := cS H E A (aNf A) (upF (aSh A) f (n : Int))) (q := qS H E A (upF (aSh A) f (n : Int))) (fun _ _ _ => cS_r) (fun g q1 q2 => (s2 g q1 q2).trans (shV_mk (A := A) (A' := shW A (upF (aSh A) f (n : Int))) rfl rfl rfl))) ?_
    rw [show (if aNf (shW A (upF (aSh A) f (n : Int))) = 0 then (-4 : Int) else lsG (cS H E A (aNf A) (upF (aSh A) f (n : Int))) (qS H E A (upF (aSh A) f (n : Int))) (aNf (shW A (upF (aSh A) f (n : Int)))).toNat) = lsV H E A (aNf A) (upF (aSh A) f (n : Int)) from if_neg (show ¬ aNf A = 0 by omega)]
    refine w_istore (pc' := 70) (ls' := [_, _, _, _, _, _, _, _]) k185_68 rfl rfl rfl ?_
    refine w_iload (pc' := 72) k185_70 rfl rfl ?_
    refine w_iload (pc' := 73) k185_72 rfl rfl ?_
    refine w_ic_gt (pc' := 76) k185_73 rfl (fun c_73 => ?_) (fun c_73 => ?_)
    · refine w_iload (pc' := 95) k185_93 rfl rfl ?_
      refine w_istore (pc' := 96) (ls' := [_, _, _, _, _, _, _, _]) k185_95 rfl rfl rfl ?_
      refine w_aload (pc' := 97) k185_96 rfl rfl ?_
      refine w_getR (pc' := 100) (v := 75) k185_97 rfl (hM.1 57 (11, 30) rfl) (hM.2 57 26 75 rfl) ?_
      refine w_iload (pc' := 101) k185_100 rfl rfl ?_
      refine w_iald (pc' := 102) (v := shV H E A (aNf A) (upF (aSh A) f (n : Int)) f) k185_101 rfl (hM.1 75 (0, 16) rfl) (by omega) hv7 ?_
      refine w_istore (pc' := 104) (ls' := [_, _, _, _, _, _, _, _]) k185_102 rfl rfl rfl ?_
      refine w_iload (pc' := 106) k185_104 rfl rfl ?_
      refine w_istore (pc' := 108) (ls' := [_, _, _, _, _, _, _, _]) k185_106 rfl rfl rfl ?_
      refine w_iinc (pc' := 111) (ls' := [_, _, _, _, _, _, _, _]) k185_108 rfl rfl (by omega) rfl ?_
      refine w_goto k185_111 ?_
      exact ih (n + 1) _ _ _ _ _ _ _ (by omega) (by omega) (by rw [imF, if_pos (by rw [← hx1, ← hx2]; omega)]) hn ⟨fun a q1 q2 q3 => by rw [s1.1 a q1 q3, upA_n q2, h1.1 a q1 q2 q3], fun j q1 q2 => by rw [s1.2 j q1 q2, upA_n (by decide), h1.2.1 j q1 q2], by rw [s1.1 62 (by decide) (by decide), upA_s, h1.2.2, upF_uu]⟩
    · refine w_iload (pc' := 78) k185_76 rfl rfl ?_
      refine w_iload (pc' := 79) k185_78 rfl rfl ?_
      refine w_ic_ne (pc' := 82) k185_79 rfl (fun c_79 => ?_) (fun c_79 => ?_)
      · refine w_iinc (pc' := 111) (ls' := [_, _, _, _, _, _, _, _]) k185_108 rfl rfl (by omega) rfl ?_
        refine w_goto k185_111 ?_
        exact ih (n + 1) _ _ _ _ _ _ _ (by omega) (by omega) (by rw [imF, if_neg (by rw [← hx1, ← hx2]; omega)]; exact hx) hn ⟨fun a q1 q2 q3 => by rw [s1.1 a q1 q3, upA_n q2, h1.1 a q1 q2 q3], fun j q1 q2 => by rw [s1.2 j q1 q2, upA_n (by decide), h1.2.1 j q1 q2], by rw [s1.1 62 (by decide) (by decide), upA_s, h1.2.2, upF_uu]⟩
      · refine w_aload (pc' := 83) k185_82 rfl rfl ?_
        refine w_getR (pc' := 86) (v := 75) k185_83 rfl (hM.1 57 (11, 30) rfl) (hM.2 57 26 75 rfl) ?_
        refine w_iload (pc' := 87) k185_86 rfl rfl ?_
        refine w_iald (pc' := 88) (v := shV H E A (aNf A) (upF (aSh A) f (n : Int)) f) k185_87 rfl (hM.1 75 (0, 16) rfl) (by omega) hv7 ?_
        refine w_iload (pc' := 90) k185_88 rfl rfl ?_
        refine w_ic_le (pc' := 93) k185_90 rfl (fun c_90 => ?_) (fun c_90 => ?_)
        · refine w_iinc (pc' := 111) (ls' := [_, _, _, _, _, _, _, _]) k185_108 rfl rfl (by omega) rfl ?_
          refine w_goto k185_111 ?_
          exact ih (n + 1) _ _ _ _ _ _ _ (by omega) (by omega) (by rw [imF, if_neg (by rw [← hx1, ← hx2]; omega)]; exact hx) hn ⟨fun a q1 q2 q3 => by rw [s1.1 a q1 q3, upA_n q2, h1.1 a q1 q2 q3], fun j q1 q2 => by rw [s1.2 j q1 q2, upA_n (by decide), h1.2.1 j q1 q2], by rw [s1.1 62 (by decide) (by decide), upA_s, h1.2.2, upF_uu]⟩
        · refine w_iload (pc' := 95) k185_93 rfl rfl ?_
          refine w_istore (pc' := 96) (ls' := [_, _, _, _, _, _, _, _]) k185_95 rfl rfl rfl ?_
          refine w_aload (pc' := 97) k185_96 rfl rfl ?_
          refine w_getR (pc' := 100) (v := 75) k185_97 rfl (hM.1 57 (11, 30) rfl) (hM.2 57 26 75 rfl) ?_
          refine w_iload (pc' := 101) k185_100 rfl rfl ?_
          refine w_iald (pc' := 102) (v := shV H E A (aNf A) (upF (aSh A) f (n : Int)) f) k185_101 rfl (hM.1 75 (0, 16) rfl) (by omega) hv7 ?_
          refine w_istore (pc' := 104) (ls' := [_, _, _, _, _, _, _, _]) k185_102 rfl rfl rfl ?_
          refine w_iload (pc' := 106) k185_104 rfl rfl ?_
          refine w_istore (pc' := 108) (ls' := [_, _, _, _, _, _, _, _]) k185_106 rfl rfl rfl ?_
          refine w_iinc (pc' := 111) (ls' := [_, _, _, _, _, _, _, _]) k185_108 rfl rfl (by omega) rfl ?_
          refine w_goto k185_111 ?_
          exact ih (n + 1) _ _ _ _ _ _ _ (by omega) (by omega) (by rw [imF, if_pos (by rw [← hx1, ← hx2]; omega)]) hn ⟨fun a q1 q2 q3 => by rw [s1.1 a q1 q3, upA_n q2, h1.1 a q1 q2 q3], fun j q1 q2 => by rw [s1.2 j q1 q2, upA_n (by decide), h1.2.1 j q1 q2], by rw [s1.1 62 (by decide) (by decide), upA_s, h1.2.2, upF_uu]⟩
theorem m185 (hF : MF sh R I K H E HO S L B A) {f : Int} (hf : 0 ≤ f ∧ f < aNf A) : WPM X (d + 8) 185 [.inr (some 57), .inl f] (sh, R, I) 0 0 (fun _ h' => ∃ I', h' = (sh, R, I') ∧ (∀ a, a ≠ 57 → a ≠ 62 → (a < 69 ∨ 75 < a) → I' a = I a) ∧ (∀ j, j ≠ 18 → j ≠ 21 → I' 57 j = I 57 j) ∧ I' 62 = upF (I 62) (4 * f + 3) (bestS H E A (aNf A) (aSh A) f)) := by
  have hF0 := hF
  obtain ⟨hM, hK, hpo, hha, hms, hab, hB⟩ := hF
  have hr := hK.r
  have hnf := hab.2.2.1
  have hf2 := hab.2.2.2 f hf.1 hf.2
  have hHH : 0 ≤ H * H := Int.mul_nonneg (by omega) (by omega)
  show WP X (d + 8) 185 0 [.inr (some 57), .inl f, .inr none, .inr none, .inr none, .inr none, .inr none, .inr none] [] (sh, R, I) 0 0 _
  refine w_aload (pc' := 1) k185_0 rfl rfl ?_
  refine w_getR (pc' := 4) (v := 62) k185_1 rfl (hM.1 57 (11, 30) rfl) (hM.2 57 8 62 rfl) ?_
  refine w_c1 (pc' := 5) k185_4 rfl ?_
  refine w_iload (pc' := 6) k185_5 rfl rfl ?_
  refine w_imul (pc' := 7) k185_6 rfl (by omega) ?_
  refine w_c1 (pc' := 8) k185_7 rfl ?_
  refine w_iadd (pc' := 9) k185_8 rfl (by omega) ?_
  refine w_iald (pc' := 10) (v := aSh A f) k185_9 rfl (hM.1 62 (0, 64) rfl) (by omega) (hms.2.2.2 f hf.1 hf.2).2.2.2 ?_
  refine w_istore (pc' := 11) (ls' := [_, _, _, _, _, _, _, _]) k185_10 rfl rfl rfl ?_
  refine w_aload (pc' := 12) k185_11 rfl rfl ?_
  refine w_callV (pc' := 15) (as := [.inr (some 57)]) k185_12 rfl rfl (co_v rfl rfl (hM.1 57 (11, 30) rfl)) (by decide) (m179 hF0) (fun r_12 h_12 hq => ?_)
  obtain ⟨I_1, rfl, s1, s2⟩ := hq
  have hF3 := s1.mf hF0
  refine w_aload (pc' := 16) k185_15 rfl rfl ?_
  refine w_callE (pc' := 19) (as := [.inr (some 57)]) k185_16 rfl rfl (co_v rfl rfl (hM.1 57 (11, 30) rfl)) (by decide) (m180 hF3 (c := cS H E A (aNf A) (aSh A)) (q := qS H E A (aSh A)) (fun _ _ _ => cS_r) s2) ?_
  rw [show (if aNf A = 0 then (-4 : Int) else lsG (cS H E A (aNf A) (aSh A)) (qS H E A (aSh A)) (aNf A).toNat) = lsV H E A (aNf A) (aSh A) from if_neg (show ¬ aNf A = 0 by omega)]
  refine w_istore (pc' := 20) (ls' := [_, _, _, _, _, _, _, _]) k185_19 rfl rfl rfl ?_
  refine w_aload (pc' := 21) k185_20 rfl rfl ?_
  refine w_getR (pc' := 24) (v := 75) k185_21 rfl (hM.1 57 (11, 30) rfl) (hM.2 57 26 75 rfl) ?_
  refine w_iload (pc' := 25) k185_24 rfl rfl ?_
  refine w_iald (pc' := 26) (v := shV H E A (aNf A) (aSh A) f) k185_25 rfl (hM.1 75 (0, 16) rfl) (by omega) (s2 f hf.1 hf.2) ?_
  refine w_istore (pc' := 28) (ls' := [_, _, _, _, _, _, _, _]) k185_26 rfl rfl rfl ?_
  refine w_iload (pc' := 29) k185_28 rfl rfl ?_
  refine w_istore (pc' := 31) (ls' := [_, _, _, _, _, _, _, _]) k185_29 rfl rfl rfl ?_
  refine w_c1 (pc' := 32) k185_31 rfl ?_
  refine w_istore (pc' := 34) (ls' := [_, _, _, _, _, _, _, _]) k185_32 rfl rfl rfl ?_
  exact m185l hF0 hf (N := (H * H).toNat) (by omega) (H * H).toNat 0 _ _ _ _ (aSh A f) _ _ (by omega) rfl rfl hf2.2.2.2.2 ⟨fun a q1 _ q3 => s1.1 a q1 q3, fun j q1 q2 => s1.2 j q1 q2, by rw [s1.1 62 (by decide) (by decide), ← (hms.2.2.2 f hf.1 hf.2).2.2.2]; exact upF_id.symm⟩
end M80
