/-! ===== REFERENCE: measures ===== -/
section M78
variable {X : Nat × (Int → Int)} {d : Nat} {sh : List (Nat × Nat)} {R : Nat → Nat → Option Nat} {I : Nat → Int → Int} {K H E HO S L B : Int} {A : AS}
/-- only what letters, counts and shares leave behind is another -/
def SE (I I1 : Nat → Int → Int) : Prop := (∀ a, a ≠ 57 → (a < 69 ∨ 75 < a) → I1 a = I a) ∧ ∀ j, j ≠ 18 → j ≠ 21 → I1 57 j = I 57 j
theorem SE.rfl {I : Nat → Int → Int} : SE I I := ⟨fun _ _ _ => Eq.refl _, fun _ _ _ => Eq.refl _⟩
theorem SE.tr {I I1 I2 : Nat → Int → Int} (h : SE I I1) (h2 : SE I1 I2) : SE I I2 := ⟨fun a q1 q2 => (h2.1 a q1 q2).trans (h.1 a q1 q2), fun j q1 q2 => (h2.2 j q1 q2).trans (h.2 j q1 q2)⟩
theorem SE.mf {I1 : Nat → Int → Int} (hF : MF sh R I K H E HO S L B A) (h : SE I I1) : MF sh R I1 K H E HO S L B A := hF.keep (fun a q => h.1 a (by omega) (by omega)) (fun j q => h.2 j (by omega) (by omega))
theorem SE.sc {I1 I2 : Nat → Int → Int} (h : SE I I1) (h1 : ∀ a, a ≠ 57 → a ≠ 69 → a ≠ 70 → I2 a = I1 a) (h2 : ∀ j, j ≠ 18 → j ≠ 21 → I2 57 j = I1 57 j) : SE I I2 := ⟨fun a q1 q2 => (h1 a q1 (by omega) (by omega)).trans (h.1 a q1 q2), fun j q1 q2 => (h2 j q1 q2).trans (h.2 j q1 q2)⟩
theorem SE.ud {I1 I2 : Nat → Int → Int} (h : SE I I1) (h1 : ∀ a, a < 71 ∨ 75 < a → I2 a = I1 a) : SE I I2 := ⟨fun a q1 q2 => (h1 a (by omega)).trans (h.1 a q1 q2), fun j q1 q2 => by rw [h1 57 (by decide)]; exact h.2 j q1 q2⟩
/-- the counts over the first m flows -/
def CI (I1 : Nat → Int → Int) (H E : Int) (A : AS) (m : Nat) : Prop := (∀ l, 0 ≤ l → l < 108 → I1 71 l = sumN (kG (cV H E A) (qV H E A) l) m ∧ I1 72 l = sumN (kG (cV H E A) (qV H E A) (108 + l)) m) ∧ ∀ a, 0 ≤ a → a < 54 → I1 73 a = sumN (kG (cV H E A) (qV H E A) (216 + a)) m ∧ I1 74 a = sumN (kG (cV H E A) (qV H E A) (270 + a)) m
theorem kS_le {u : Int} {m : Nat} (hm : m ≤ 16) : 0 ≤ sumN (kG (cV H E A) (qV H E A) u) m ∧ sumN (kG (cV H E A) (qV H E A) u) m ≤ 96 := by
  have := sumN_le (f := kG (cV H E A) (qV H E A) u) (C := 6) m (fun i _ => kG_le cS_r)
  omega
theorem m179z (hF : MF sh R I K H E HO S L B A) {Q : VV → Hp → Prop} {v2 v3 v4 : VV} (C : ∀ (I1 : Nat → Int → Int) (v1 : VV), (∀ a, a ≠ 73 → a ≠ 74 → I1 a = I a) → (∀ a, 0 ≤ a → a < 54 → I1 73 a = 0 ∧ I1 74 a = 0) → WP X (d + 7) 179 32 [.inr (some 57), v1, v2, v3, v4] [] (sh, R, I1) 0 0 Q) : ∀ (k m : Nat) (i : Int) (I1 : Nat → Int → Int), m + k = 54 → i = (m : Int) → (∀ a, a ≠ 73 → a ≠ 74 → I1 a = I a) → (∀ l : Int, 0 ≤ l → l < (m : Int) → I1 73 l = 0 ∧ I1 74 l = 0) → WP X (d + 7) 179 6 [.inr (some 57), .inl i, v2, v3, v4] [] (sh, R, I1) 0 0 Q := by
  have hF0 := hF
  obtain ⟨hM, hK, hpo, hha, hms, hab, hB⟩ := hF
  have hr := hK.r
  intro k
  induction k with
  | zero =>
    rintro m i I1 hk rfl h1 h2
    refine w_iload (pc' := 7) k179_6 rfl rfl ?_
    refine w_c2 (pc' := 9) k179_7 rfl ?_
    refine w_ic_ge (pc' := 12) k179_9 rfl (fun c_9 => ?_) (fun c_9 => absurd c_9 (by omega))
    exact C _ _ h1 (fun l q1 q2 => h2 l q1 (by omega))
  | succ k ih =>
    rintro m i I1 hk rfl h1 h2
    refine w_iload (pc' := 7) k179_6 rfl rfl ?_
    refine w_c2 (pc' := 9) k179_7 rfl ?_
    refine w_ic_ge (pc' := 12) k179_9 rfl (fun c_9 => absurd c_9 (by omega)) (fun c_9 => ?_)
    refine w_aload (pc' := 13) k179_12 rfl rfl ?_
    refine w_getR (pc' := 16) (v := 73) k179_13 rfl (hM.1 57 (11, 30) rfl) (hM.2 57 24 73 rfl) ?_
    refine w_iload (pc' := 17) k179_16 rfl rfl ?_
    refine w_c1 (pc' := 18) k179_17 rfl ?_
    refine w_iast (pc' := 19) k179_18 rfl (hM.1 73 (0, 54) rfl) (by omega) ?_
    refine w_aload (pc' := 20) k179_19 rfl rfl ?_
    refine w_getR (pc' := 23) (v := 74) k179_20 rfl (hM.1 57 (11, 30) rfl) (hM.2 57 25 74 rfl) ?_
    refine w_iload (pc' := 24) k179_23 rfl rfl ?_
    refine w_c1 (pc' := 25) k179_24 rfl ?_
    refine w_iast (pc' := 26) k179_25 rfl (hM.1 74 (0, 54) rfl) (by omega) ?_
    refine w_iinc (pc' := 29) (ls' := [_, _, _, _, _]) k179_26 rfl rfl (by omega) rfl ?_
    refine w_goto k179_29 ?_
    refine ih (m + 1) _ _ (by omega) (by omega) (fun a q1 q2 => by rw [upA_n q2, upA_n q1, h1 a q1 q2]) (fun l q1 q2 => ?_)
    rw [upA_s, upA_n (show (73 : Nat) ≠ 74 by decide), upA_s, upA_n (show (74 : Nat) ≠ 73 by decide)]
    by_cases c : l = m
    · subst c; rw [upF_s, upF_s]; exact ⟨rfl, rfl⟩
    · rw [upF_n c, upF_n c]; exact h2 l q1 (by omega)
theorem m179c (hF : MF sh R I K H E HO S L B A) {Q : VV → Hp → Prop} {v2 v3 v4 : VV} {N : Nat} (hN : aNf A = (N : Int)) (C : ∀ (I1 : Nat → Int → Int) (v1 : VV), SE I I1 → CI I1 H E A N → WP X (d + 7) 179 101 [.inr (some 57), v1, v2, v3, v4] [] (sh, R, I1) 0 0 Q) : ∀ (k m : Nat) (i : Int) (I1 : Nat → Int → Int), m + k = N → i = (m : Int) → SE I I1 → CI I1 H E A m → WP X (d + 7) 179 34 [.inr (some 57), .inl i, v2, v3, v4] [] (sh, R, I1) 0 0 Q := by
  have hF0 := hF
  obtain ⟨hM, hK, hpo, hha, hms, hab, hB⟩ := hF
  have hr := hK.r
  have hnf := hab.2.2.1
  intro k
  induction k with
  | zero =>
    rintro m i I1 hk rfl h1 h2
    have hF1 := h1.mf hF0
    have e : m = N := by omega
    subst e
    refine w_iload (pc' := 35) k179_34 rfl rfl ?_
    refine w_aload (pc' := 36) k179_35 rfl rfl ?_
    refine w_getI (pc' := 39) (ki := 7) (v := aNf A) k179_36 rfl (hM.1 57 (11, 30) rfl) rfl hF1.2.2.2.2.1.1 ?_
    refine w_ic_ge (pc' := 42) k179_39 rfl (fun c_39 => ?_) (fun c_39 => absurd c_39 (by omega))
    exact C _ _ h1 h2
  | succ k ih =>
    rintro m i I1 hk rfl h1 h2
    have hF1 := h1.mf hF0
    have hf : (0 : Int) ≤ (m : Int) ∧ (m : Int) < aNf A := by omega
    have hf2 := hab.2.2.2 m hf.1 hf.2
    have hen := edge_r hK hf2.1
    refine w_iload (pc' := 35) k179_34 rfl rfl ?_
    refine w_aload (pc' := 36) k179_35 rfl rfl ?_
    refine w_getI (pc' := 39) (ki := 7) (v := aNf A) k179_36 rfl (hM.1 57 (11, 30) rfl) rfl hF1.2.2.2.2.1.1 ?_
    refine w_ic_ge (pc' := 42) k179_39 rfl (fun c_39 => absurd c_39 (by omega)) (fun c_39 => ?_)
    refine w_aload (pc' := 43) k179_42 rfl rfl ?_
    refine w_iload (pc' := 44) k179_43 rfl rfl ?_
    refine w_callV (pc' := 47) (as := [.inr (some 57), .inl _]) k179_44 rfl rfl (co_v rfl rfl (hM.1 57 (11, 30) rfl)) (by decide) (m178 hF1 hf) (fun r_44 h_44 hq => ?_)
    obtain ⟨I_1, rfl, rs⟩ := hq
    have hF2 := (h1.sc rs.1 rs.2.1).mf hF0
    refine w_aload (pc' := 48) k179_47 rfl rfl ?_
    refine w_getI (pc' := 51) (ki := 21) (v := (if pA H E A (aFr A m / H) (aTo A m) (aSh A m) then (1 : Int) else 0)) k179_48 rfl (hM.1 57 (11, 30) rfl) rfl rs.2.2.2.1 ?_
    refine w_if_eq (pc' := 54) k179_51 rfl (fun c_51 => ?_) (fun c_51 => ?_)
    · refine w_iinc (pc' := 98) (ls' := [_, _, _, _, _]) k179_95 rfl rfl (by omega) rfl ?_
      refine w_goto k179_98 ?_
      have hz1 : ¬ pA H E A (aFr A m / H) (aTo A m) (aSh A m) = true := by intro z; rw [if_pos z] at c_51; exact absurd c_51 (by decide)
      refine ih (m + 1) _ _ (by omega) (by omega) (h1.sc rs.1 rs.2.1) ⟨fun l q1 q2 => ?_, fun l q1 q2 => ?_⟩
      · rw [sumN, sumN, kG_n (Or.inr hz1), kG_n (Or.inr hz1), Int.add_zero, Int.add_zero, rs.1 71 (by decide) (by decide) (by decide), rs.1 72 (by decide) (by decide) (by decide)]; exact h2.1 l q1 q2
      · rw [sumN, sumN, kG_n (Or.inr hz1), kG_n (Or.inr hz1), Int.add_zero, Int.add_zero, rs.1 73 (by decide) (by decide) (by decide), rs.1 74 (by decide) (by decide) (by decide)]; exact h2.2 l q1 q2
    · have hz1 : pA H E A (aFr A m / H) (aTo A m) (aSh A m) = true := Decidable.byContradiction (fun z => by rw [if_neg z] at c_51; exact absurd rfl c_51)
      have hU : ∀ l, 0 ≤ l → l < 108 → (0 ≤ I_1 71 l ∧ I_1 71 l ≤ 1000000) ∧ (0 ≤ I_1 72 l ∧ I_1 72 l ≤ 1000000) := by
        intro l q1 q2
        have b1 := kS_le (H := H) (E := E) (A := A) (u := l) (m := m) (by omega)
        have b2 := kS_le (H := H) (E := E) (A := A) (u := 108 + l) (m := m) (by omega)
        rw [rs.1 71 (by decide) (by decide) (by decide), rs.1 72 (by decide) (by decide) (by decide), (h2.1 l q1 q2).1, (h2.1 l q1 q2).2]
        omega
      refine w_aload (pc' := 55) k179_54 rfl rfl ?_
      refine w_c1 (pc' := 56) k179_55 rfl ?_
      refine w_callV (pc' := 59) (as := [.inr (some 57), .inl _]) k179_56 rfl rfl (co_v rfl rfl (hM.1 57 (11, 30) rfl)) (by decide) (m172 hF2 hen hf2.2.1 (by omega) rs.2.2.1 rs.2.2.2.2.2 hU) (fun r_56 h_56 hq => ?_)
      obtain ⟨I_2, rfl, ad⟩ := hq
      have hF3 : SE I I_2 := (h1.sc rs.1 rs.2.1).ud (fun a q => ad.1 a (by omega) (by omega))
      have h62 : I_2 62 = I 62 := hF3.1 62 (by decide) (by decide)
      have h73 : I_2 73 = I1 73 := by rw [ad.1 73 (by decide) (by decide), rs.1 73 (by decide) (by decide) (by decide)]
      have h74 : I_2 74 = I1 74 := by rw [ad.1 74 (by decide) (by decide), rs.1 74 (by decide) (by decide) (by decide)]
      have hv1 := h2.2 (aFr A m) hf2.1.1 (by omega)
      have hv2 := h2.2 (aTo A m) hf2.2.1.1 (by omega)
      have b3 := kS_le (H := H) (E := E) (A := A) (u := 216 + aFr A m) (m := m) (by omega)
      have b4 := kS_le (H := H) (E := E) (A := A) (u := 270 + aTo A m) (m := m) (by omega)
      refine w_aload (pc' := 60) k179_59 rfl rfl ?_
      refine w_getR (pc' := 63) (v := 73) k179_60 rfl (hM.1 57 (11, 30) rfl) (hM.2 57 24 73 rfl) ?_
      refine w_aload (pc' := 64) k179_63 rfl rfl ?_
      refine w_getR (pc' := 67) (v := 62) k179_64 rfl (hM.1 57 (11, 30) rfl) (hM.2 57 8 62 rfl) ?_
      refine w_c1 (pc' := 68) k179_67 rfl ?_
      refine w_iload (pc' := 69) k179_68 rfl rfl ?_
      refine w_imul (pc' := 70) k179_69 rfl (by omega) ?_
      refine w_iald (pc' := 71) (v := aFr A m) k179_70 rfl (hM.1 62 (0, 64) rfl) (by omega) (by rw [h62]; exact (hms.2.2.2 m hf.1 hf.2).1) ?_
      refine w_dup2 (pc' := 72) k179_71 rfl ?_
      refine w_iald (pc' := 73) (v := sumN (kG (cV H E A) (qV H E A) (216 + aFr A m)) m) k179_72 rfl (hM.1 73 (0, 54) rfl) (by omega) (by rw [h73]; exact hv1.1) ?_
      refine w_c1 (pc' := 74) k179_73 rfl ?_
      refine w_iadd (pc' := 75) k179_74 rfl (by omega) ?_
      refine w_iast (pc' := 76) k179_75 rfl (hM.1 73 (0, 54) rfl) (by omega) ?_
      refine w_aload (pc' := 77) k179_76 rfl rfl ?_
      refine w_getR (pc' := 80) (v := 74) k179_77 rfl (hM.1 57 (11, 30) rfl) (hM.2 57 25 74 rfl) ?_
      refine w_aload (pc' := 81) k179_80 rfl rfl ?_
      refine w_getR (pc' := 84) (v := 62) k179_81 rfl (hM.1 57 (11, 30) rfl) (hM.2 57 8 62 rfl) ?_
      refine w_c1 (pc' := 85) k179_84 rfl ?_
      refine w_iload (pc' := 86) k179_85 rfl rfl ?_
      refine w_imul (pc' := 87) k179_86 rfl (by omega) ?_
      refine w_c1 (pc' := 88) k179_87 rfl ?_
      refine w_iadd (pc' := 89) k179_88 rfl (by omega) ?_
      refine w_iald (pc' := 90) (v := aTo A m) k179_89 rfl (hM.1 62 (0, 64) rfl) (by omega) (by rw [upA_n (by decide), h62]; exact (hms.2.2.2 m hf.1 hf.2).2.1) ?_
      refine w_dup2 (pc' := 91) k179_90 rfl ?_
      refine w_iald (pc' := 92) (v := sumN (kG (cV H E A) (qV H E A) (270 + aTo A m)) m) k179_91 rfl (hM.1 74 (0, 54) rfl) (by omega) (by rw [upA_n (by decide), h74]; exact hv2.2) ?_
      refine w_c1 (pc' := 93) k179_92 rfl ?_
      refine w_iadd (pc' := 94) k179_93 rfl (by omega) ?_
      refine w_iast (pc' := 95) k179_94 rfl (hM.1 74 (0, 54) rfl) (by omega) ?_
      refine w_iinc (pc' := 98) (ls' := [_, _, _, _, _]) k179_95 rfl rfl (by omega) rfl ?_
      refine w_goto k179_98 ?_
      refine ih (m + 1) _ _ (by omega) (by omega) (hF3.ud (fun a q => by rw [upA_n (by omega), upA_n (by omega)])) ⟨fun l q1 q2 => ?_, fun l q1 q2 => ?_⟩
      · rw [sumN, sumN, ((kG_u (u := 0) hK hab hf hz1).1 l q1 q2).1, ((kG_u (u := 0) hK hab hf hz1).1 l q1 q2).2, upA_n (show (71 : Nat) ≠ 74 by decide), upA_n (show (71 : Nat) ≠ 73 by decide), upA_n (show (72 : Nat) ≠ 74 by decide), upA_n (show (72 : Nat) ≠ 73 by decide), (ad.2 l q1 q2).1, (ad.2 l q1 q2).2, rs.1 71 (by decide) (by decide) (by decide), rs.1 72 (by decide) (by decide) (by decide), (h2.1 l q1 q2).1, (h2.1 l q1 q2).2, Int.one_mul, Int.one_mul]; exact ⟨rfl, rfl⟩
      · rw [sumN, sumN, ((kG_u (u := 0) hK hab hf hz1).2 l q1 q2).1, ((kG_u (u := 0) hK hab hf hz1).2 l q1 q2).2, upA_n (show (73 : Nat) ≠ 74 by decide), upA_s, upA_s, upA_n (show (74 : Nat) ≠ 73 by decide)]
        have h9 := h2.2 l q1 q2
        constructor
        · by_cases c : l = aFr A m
          · subst c; rw [upF_s, if_pos rfl]
          · rw [upF_n c, if_neg (fun z => c z.symm), Int.add_zero, h73, h9.1]
        · by_cases c : l = aTo A m
          · subst c; rw [upF_s, if_pos rfl]
          · rw [upF_n c, if_neg (fun z => c z.symm), Int.add_zero, h74, h9.2]
theorem m179m (hF : MF sh R I K H E HO S L B A) {m : Nat} (hf : (0 : Int) ≤ (m : Int) ∧ (m : Int) < aNf A) {I1 : Nat → Int → Int} {Q : VV → Hp → Prop} (h1 : SE I I1) (hu : ∀ l, 0 ≤ l → l < 108 → I1 71 l = (usG (cV H E A) (qV H E A)) l ∧ I1 72 l = (usG (cV H E A) (qV H E A)) (108 + l)) {N : Nat} (hN : pV H E A (aFr A m / H) (aTo A m) (aSh A m) = N + 1) (j18 : I1 57 18 = (N : Int) + 1) (j70 : ∀ k : Nat, k + 1 < pV H E A (aFr A m / H) (aTo A m) (aSh A m) → I1 70 k = if pL H E A (aFr A m / H) (aTo A m) (aSh A m) k / H = pN H E A (aFr A m / H) (aTo A m) (aSh A m) k then pL H E A (aFr A m / H) (aTo A m) (aSh A m) k else -1 - pL H E A (aFr A m / H) (aTo A m) (aSh A m) k) (C : ∀ v3 v4, WP X (d + 7) 179 248 [.inr (some 57), .inl (m : Int), .inl (moR (usG (cV H E A) (qV H E A)) (stL H E A (aFr A m / H) (aTo A m) (aSh A m)) ((usG (cV H E A) (qV H E A)) (216 + aFr A m)) ((usG (cV H E A) (qV H E A)) (270 + aTo A m)) N), v3, v4] [] (sh, R, I1) 0 0 Q) : ∀ (k t : Nat) (x i : Int) (v4 : VV), t + k = N → i = (t : Int) → x = moR (usG (cV H E A) (qV H E A)) (stL H E A (aFr A m / H) (aTo A m) (aSh A m)) ((usG (cV H E A) (qV H E A)) (216 + aFr A m)) ((usG (cV H E A) (qV H E A)) (270 + aTo A m)) t → WP X (d + 7) 179 181 [.inr (some 57), .inl (m : Int), .inl x, .inl i, v4] [] (sh, R, I1) 0 0 Q := by
  have hF0 := hF
  obtain ⟨hM, hK, hpo, hha, hms, hab, hB⟩ := hF
  have hr := hK.r
  have hf2 := hab.2.2.2 m hf.1 hf.2
  have hen := edge_r hK hf2.1
  have hv5 := pV_r (H := H) (E := E) (A := A) (n := aFr A m / H) (b := aTo A m) (s := aSh A m)
  intro k
  induction k with
  | zero =>
    rintro t x i v4 hk rfl rfl
    have e : t = N := by omega
    subst e
    refine w_iload (pc' := 182) k179_181 rfl rfl ?_
    refine w_aload (pc' := 183) k179_182 rfl rfl ?_
    refine w_getI (pc' := 186) (ki := 18) (v := (t : Int) + 1) k179_183 rfl (hM.1 57 (11, 30) rfl) rfl j18 ?_
    refine w_c1 (pc' := 187) k179_186 rfl ?_
    refine w_isub (pc' := 188) k179_187 rfl (by omega) ?_
    refine w_ic_ge (pc' := 191) k179_188 rfl (fun c_188 => ?_) (fun c_188 => absurd c_188 (by omega))
    exact C _ _
  | succ k ih =>
    rintro t x i v4 hk rfl hx
    have ht : t + 1 < pV H E A (aFr A m / H) (aTo A m) (aSh A m) := by omega
    have h70 := j70 t ht
    have hpl := pL_r (A := A) (ss := aSh A m) hK hen hf2.2.1 ht
    have hu1 := hu (pL H E A (aFr A m / H) (aTo A m) (aSh A m) t) hpl.1 (by omega)
    have hst : (stL H E A (aFr A m / H) (aTo A m) (aSh A m)) t = if pL H E A (aFr A m / H) (aTo A m) (aSh A m) t / H = pN H E A (aFr A m / H) (aTo A m) (aSh A m) t then pL H E A (aFr A m / H) (aTo A m) (aSh A m) t else 108 + pL H E A (aFr A m / H) (aTo A m) (aSh A m) t := rfl
    by_cases up : pL H E A (aFr A m / H) (aTo A m) (aSh A m) t / H = pN H E A (aFr A m / H) (aTo A m) (aSh A m) t
    · rw [if_pos up] at h70 hst
      refine w_iload (pc' := 182) k179_181 rfl rfl ?_
      refine w_aload (pc' := 183) k179_182 rfl rfl ?_
      refine w_getI (pc' := 186) (ki := 18) (v := (N : Int) + 1) k179_183 rfl (hM.1 57 (11, 30) rfl) rfl j18 ?_
      refine w_c1 (pc' := 187) k179_186 rfl ?_
      refine w_isub (pc' := 188) k179_187 rfl (by omega) ?_
      refine w_ic_ge (pc' := 191) k179_188 rfl (fun c_188 => absurd c_188 (by omega)) (fun c_188 => ?_)
      refine w_aload (pc' := 192) k179_191 rfl rfl ?_
      refine w_getR (pc' := 195) (v := 70) k179_192 rfl (hM.1 57 (11, 30) rfl) (hM.2 57 20 70 rfl) ?_
      refine w_iload (pc' := 196) k179_195 rfl rfl ?_
      refine w_iald (pc' := 197) (v := pL H E A (aFr A m / H) (aTo A m) (aSh A m) t) k179_196 rfl (hM.1 70 (0, 6) rfl) (by omega) h70 ?_
      refine w_if_lt (pc' := 200) k179_197 rfl (fun c_197 => absurd c_197 (by omega)) (fun c_197 => ?_)
      refine w_aload (pc' := 201) k179_200 rfl rfl ?_
      refine w_getR (pc' := 204) (v := 71) k179_201 rfl (hM.1 57 (11, 30) rfl) (hM.2 57 22 71 rfl) ?_
      refine w_aload (pc' := 205) k179_204 rfl rfl ?_
      refine w_getR (pc' := 208) (v := 70) k179_205 rfl (hM.1 57 (11, 30) rfl) (hM.2 57 20 70 rfl) ?_
      refine w_iload (pc' := 209) k179_208 rfl rfl ?_
      refine w_iald (pc' := 210) (v := pL H E A (aFr A m / H) (aTo A m) (aSh A m) t) k179_209 rfl (hM.1 70 (0, 6) rfl) (by omega) h70 ?_
      refine w_iald (pc' := 211) (v := (usG (cV H E A) (qV H E A)) (pL H E A (aFr A m / H) (aTo A m) (aSh A m) t)) k179_210 rfl (hM.1 71 (0, 108) rfl) (by omega) hu1.1 ?_
      refine w_goto k179_211 ?_
      refine w_istore (pc' := 229) (ls' := [_, _, _, _, _]) k179_227 rfl rfl rfl ?_
      refine w_iload (pc' := 231) k179_229 rfl rfl ?_
      refine w_iload (pc' := 232) k179_231 rfl rfl ?_
      refine w_ic_le (pc' := 235) k179_232 rfl (fun c_232 => ?_) (fun c_232 => ?_)
      · refine w_iload (pc' := 241) k179_240 rfl rfl ?_
        refine w_istore (pc' := 242) (ls' := [_, _, _, _, _]) k179_241 rfl rfl rfl ?_
        refine w_iinc (pc' := 245) (ls' := [_, _, _, _, _]) k179_242 rfl rfl (by omega) rfl ?_
        refine w_goto k179_245 ?_
        exact ih (t + 1) _ _ _ (by omega) (by omega) (by rw [moR, hst, ← hx]; omega)
      · refine w_iload (pc' := 237) k179_235 rfl rfl ?_
        refine w_goto k179_237 ?_
        refine w_istore (pc' := 242) (ls' := [_, _, _, _, _]) k179_241 rfl rfl rfl ?_
        refine w_iinc (pc' := 245) (ls' := [_, _, _, _, _]) k179_242 rfl rfl (by omega) rfl ?_
        refine w_goto k179_245 ?_
        exact ih (t + 1) _ _ _ (by omega) (by omega) (by rw [moR, hst, ← hx]; omega)
    · rw [if_neg up] at h70 hst
      refine w_iload (pc' := 182) k179_181 rfl rfl ?_
      refine w_aload (pc' := 183) k179_182 rfl rfl ?_
      refine w_getI (pc' := 186) (ki := 18) (v := (N : Int) + 1) k179_183 rfl (hM.1 57 (11, 30) rfl) rfl j18 ?_
      refine w_c1 (pc' := 187) k179_186 rfl ?_
      refine w_isub (pc' := 188) k179_187 rfl (by omega) ?_
      refine w_ic_ge (pc' := 191) k179_188 rfl (fun c_188 => absurd c_188 (by omega)) (fun c_188 => ?_)
      refine w_aload (pc' := 192) k179_191 rfl rfl ?_
      refine w_getR (pc' := 195) (v := 70) k179_192 rfl (hM.1 57 (11, 30) rfl) (hM.2 57 20 70 rfl) ?_
      refine w_iload (pc' := 196) k179_195 rfl rfl ?_
      refine w_iald (pc' := 197) (v := -1 - pL H E A (aFr A m / H) (aTo A m) (aSh A m) t) k179_196 rfl (hM.1 70 (0, 6) rfl) (by omega) h70 ?_
      refine w_if_lt (pc' := 200) k179_197 rfl (fun c_197 => ?_) (fun c_197 => absurd c_197 (by omega))
      refine w_aload (pc' := 215) k179_214 rfl rfl ?_
      refine w_getR (pc' := 218) (v := 72) k179_215 rfl (hM.1 57 (11, 30) rfl) (hM.2 57 23 72 rfl) ?_
      refine w_c1 (pc' := 219) k179_218 rfl ?_
      refine w_aload (pc' := 220) k179_219 rfl rfl ?_
      refine w_getR (pc' := 223) (v := 70) k179_220 rfl (hM.1 57 (11, 30) rfl) (hM.2 57 20 70 rfl) ?_
      refine w_iload (pc' := 224) k179_223 rfl rfl ?_
      refine w_iald (pc' := 225) (v := -1 - pL H E A (aFr A m / H) (aTo A m) (aSh A m) t) k179_224 rfl (hM.1 70 (0, 6) rfl) (by omega) h70 ?_
      refine w_isub (pc' := 226) k179_225 rfl (by omega) ?_
      rw [show (-1 : Int) - (-1 - pL H E A (aFr A m / H) (aTo A m) (aSh A m) t) = pL H E A (aFr A m / H) (aTo A m) (aSh A m) t by omega]
      refine w_iald (pc' := 227) (v := (usG (cV H E A) (qV H E A)) (108 + pL H E A (aFr A m / H) (aTo A m) (aSh A m) t)) k179_226 rfl (hM.1 72 (0, 108) rfl) (by omega) hu1.2 ?_
      refine w_istore (pc' := 229) (ls' := [_, _, _, _, _]) k179_227 rfl rfl rfl ?_
      refine w_iload (pc' := 231) k179_229 rfl rfl ?_
      refine w_iload (pc' := 232) k179_231 rfl rfl ?_
      refine w_ic_le (pc' := 235) k179_232 rfl (fun c_232 => ?_) (fun c_232 => ?_)
      · refine w_iload (pc' := 241) k179_240 rfl rfl ?_
        refine w_istore (pc' := 242) (ls' := [_, _, _, _, _]) k179_241 rfl rfl rfl ?_
        refine w_iinc (pc' := 245) (ls' := [_, _, _, _, _]) k179_242 rfl rfl (by omega) rfl ?_
        refine w_goto k179_245 ?_
        exact ih (t + 1) _ _ _ (by omega) (by omega) (by rw [moR, hst, ← hx]; omega)
      · refine w_iload (pc' := 237) k179_235 rfl rfl ?_
        refine w_goto k179_237 ?_
        refine w_istore (pc' := 242) (ls' := [_, _, _, _, _]) k179_241 rfl rfl rfl ?_
        refine w_iinc (pc' := 245) (ls' := [_, _, _, _, _]) k179_242 rfl rfl (by omega) rfl ?_
        refine w_goto k179_245 ?_
        exact ih (t + 1) _ _ _ (by omega) (by omega) (by rw [moR, hst, ← hx]; omega)
theorem m179s (hF : MF sh R I K H E HO S L B A) {N : Nat} (hN : aNf A = (N : Int)) : ∀ (k m : Nat) (i : Int) (I1 : Nat → Int → Int) (v2 v3 v4 : VV), m + k = N → i = (m : Int) → SE I I1 → CI I1 H E A N → (∀ f : Int, 0 ≤ f → f < (m : Int) → I1 75 f = shV H E A (aNf A) (aSh A) f) → WP X (d + 7) 179 103 [.inr (some 57), .inl i, v2, v3, v4] [] (sh, R, I1) 0 0 (fun _ h' => ∃ I', h' = (sh, R, I') ∧ SE I I' ∧ ∀ f, 0 ≤ f → f < aNf A → I' 75 f = shV H E A (aNf A) (aSh A) f) := by
  have hF0 := hF
  obtain ⟨hM, hK, hpo, hha, hms, hab, hB⟩ := hF
  have hr := hK.r
  have hnf := hab.2.2.1
  have hNN : (aNf A).toNat = N := by omega
  intro k
  induction k with
  | zero =>
    rintro m i I1 v2 v3 v4 hk rfl h1 h2 h3
    have hF1 := h1.mf hF0
    refine w_iload (pc' := 104) k179_103 rfl rfl ?_
    refine w_aload (pc' := 105) k179_104 rfl rfl ?_
    refine w_getI (pc' := 108) (ki := 7) (v := aNf A) k179_105 rfl (hM.1 57 (11, 30) rfl) rfl hF1.2.2.2.2.1.1 ?_
    refine w_ic_ge (pc' := 111) k179_108 rfl (fun c_108 => ?_) (fun c_108 => absurd c_108 (by omega))
    exact w_retv k179_275 ⟨_, rfl, h1, fun f q1 q2 => h3 f q1 (by omega)⟩
  | succ k ih =>
    rintro m i I1 v2 v3 v4 hk rfl h1 h2 h3
    have hF1 := h1.mf hF0
    have hf : (0 : Int) ≤ (m : Int) ∧ (m : Int) < aNf A := by omega
    have hf2 := hab.2.2.2 m hf.1 hf.2
    have hen := edge_r hK hf2.1
    have hus : ∀ u, (usG (cV H E A) (qV H E A)) u = sumN (kG (cV H E A) (qV H E A) u) N := fun u => by rw [usG_nf hnf, hNN]
    have hv5 := pV_r (H := H) (E := E) (A := A) (n := aFr A m / H) (b := aTo A m) (s := aSh A m)
    obtain ⟨n, hn⟩ : ∃ n, pV H E A (aFr A m / H) (aTo A m) (aSh A m) = n + 1 := ⟨_, (Nat.succ_pred_eq_of_pos hv5.1).symm⟩
    have hv1 : I1 73 (aFr A m) = (usG (cV H E A) (qV H E A)) (216 + aFr A m) := by rw [hus]; exact (h2.2 (aFr A m) hf2.1.1 (by omega)).1
    have hv2 : I1 74 (aTo A m) = (usG (cV H E A) (qV H E A)) (270 + aTo A m) := by rw [hus]; exact (h2.2 (aTo A m) hf2.2.1.1 (by omega)).2
    refine w_iload (pc' := 104) k179_103 rfl rfl ?_
    refine w_aload (pc' := 105) k179_104 rfl rfl ?_
    refine w_getI (pc' := 108) (ki := 7) (v := aNf A) k179_105 rfl (hM.1 57 (11, 30) rfl) rfl hF1.2.2.2.2.1.1 ?_
    refine w_ic_ge (pc' := 111) k179_108 rfl (fun c_108 => absurd c_108 (by omega)) (fun c_108 => ?_)
    refine w_aload (pc' := 112) k179_111 rfl rfl ?_
    refine w_iload (pc' := 113) k179_112 rfl rfl ?_
    refine w_callV (pc' := 116) (as := [.inr (some 57), .inl _]) k179_113 rfl rfl (co_v rfl rfl (hM.1 57 (11, 30) rfl)) (by decide) (m178 hF1 hf) (fun r_113 h_113 hq => ?_)
    obtain ⟨I_1, rfl, rs⟩ := hq
    have h62 : I_1 62 = I 62 := (h1.sc rs.1 rs.2.1).1 62 (by decide) (by decide)
    have h73 : I_1 73 (aFr A m) = (usG (cV H E A) (qV H E A)) (216 + aFr A m) := by rw [rs.1 73 (by decide) (by decide) (by decide), hv1]
    have h74 : I_1 74 (aTo A m) = (usG (cV H E A) (qV H E A)) (270 + aTo A m) := by rw [rs.1 74 (by decide) (by decide) (by decide), hv2]
    refine w_aload (pc' := 117) k179_116 rfl rfl ?_
    refine w_getR (pc' := 120) (v := 73) k179_117 rfl (hM.1 57 (11, 30) rfl) (hM.2 57 24 73 rfl) ?_
    refine w_aload (pc' := 121) k179_120 rfl rfl ?_
    refine w_getR (pc' := 124) (v := 62) k179_121 rfl (hM.1 57 (11, 30) rfl) (hM.2 57 8 62 rfl) ?_
    refine w_c1 (pc' := 125) k179_124 rfl ?_
    refine w_iload (pc' := 126) k179_125 rfl rfl ?_
    refine w_imul (pc' := 127) k179_126 rfl (by omega) ?_
    refine w_iald (pc' := 128) (v := aFr A m) k179_127 rfl (hM.1 62 (0, 64) rfl) (by omega) (by rw [h62]; exact (hms.2.2.2 m hf.1 hf.2).1) ?_
    refine w_iald (pc' := 129) (v := (usG (cV H E A) (qV H E A)) (216 + aFr A m)) k179_128 rfl (hM.1 73 (0, 54) rfl) (by omega) h73 ?_
    refine w_aload (pc' := 130) k179_129 rfl rfl ?_
    refine w_getR (pc' := 133) (v := 74) k179_130 rfl (hM.1 57 (11, 30) rfl) (hM.2 57 25 74 rfl) ?_
    refine w_aload (pc' := 134) k179_133 rfl rfl ?_
    refine w_getR (pc' := 137) (v := 62) k179_134 rfl (hM.1 57 (11, 30) rfl) (hM.2 57 8 62 rfl) ?_
    refine w_c1 (pc' := 138) k179_137 rfl ?_
    refine w_iload (pc' := 139) k179_138 rfl rfl ?_
    refine w_imul (pc' := 140) k179_139 rfl (by omega) ?_
    refine w_c1 (pc' := 141) k179_140 rfl ?_
    refine w_iadd (pc' := 142) k179_141 rfl (by omega) ?_
    refine w_iald (pc' := 143) (v := aTo A m) k179_142 rfl (hM.1 62 (0, 64) rfl) (by omega) (by rw [h62]; exact (hms.2.2.2 m hf.1 hf.2).2.1) ?_
    refine w_iald (pc' := 144) (v := (usG (cV H E A) (qV H E A)) (270 + aTo A m)) k179_143 rfl (hM.1 74 (0, 54) rfl) (by omega) h74 ?_
    refine w_ic_le (pc' := 147) k179_144 rfl (fun c_144 => ?_) (fun c_144 => ?_)
    · refine w_aload (pc' := 164) k179_163 rfl rfl ?_
      refine w_getR (pc' := 167) (v := 74) k179_164 rfl (hM.1 57 (11, 30) rfl) (hM.2 57 25 74 rfl) ?_
      refine w_aload (pc' := 168) k179_167 rfl rfl ?_
      refine w_getR (pc' := 171) (v := 62) k179_168 rfl (hM.1 57 (11, 30) rfl) (hM.2 57 8 62 rfl) ?_
      refine w_c1 (pc' := 172) k179_171 rfl ?_
      refine w_iload (pc' := 173) k179_172 rfl rfl ?_
      refine w_imul (pc' := 174) k179_173 rfl (by omega) ?_
      refine w_c1 (pc' := 175) k179_174 rfl ?_
      refine w_iadd (pc' := 176) k179_175 rfl (by omega) ?_
      refine w_iald (pc' := 177) (v := aTo A m) k179_176 rfl (hM.1 62 (0, 64) rfl) (by omega) (by rw [h62]; exact (hms.2.2.2 m hf.1 hf.2).2.1) ?_
      refine w_iald (pc' := 178) (v := (usG (cV H E A) (qV H E A)) (270 + aTo A m)) k179_177 rfl (hM.1 74 (0, 54) rfl) (by omega) h74 ?_
      refine w_istore (pc' := 179) (ls' := [_, _, _, _, _]) k179_178 rfl rfl rfl ?_
      refine w_c1 (pc' := 180) k179_179 rfl ?_
      refine w_istore (pc' := 181) (ls' := [_, _, _, _, _]) k179_180 rfl rfl rfl ?_
      refine m179m hF0 hf (h1.sc rs.1 rs.2.1) (fun l q1 q2 => by rw [rs.1 71 (by decide) (by decide) (by decide), rs.1 72 (by decide) (by decide) (by decide), hus, hus]; exact h2.1 l q1 q2) hn (by rw [rs.2.2.1, hn]; rfl) rs.2.2.2.2.2 (fun v3 v4 => ?_) n 0 _ _ _ (by omega) rfl (by rw [moR]; omega)
      refine w_aload (pc' := 249) k179_248 rfl rfl ?_
      refine w_getR (pc' := 252) (v := 75) k179_249 rfl (hM.1 57 (11, 30) rfl) (hM.2 57 26 75 rfl) ?_
      refine w_iload (pc' := 253) k179_252 rfl rfl ?_
      refine w_aload (pc' := 254) k179_253 rfl rfl ?_
      refine w_getI (pc' := 257) (ki := 21) (v := (if pA H E A (aFr A m / H) (aTo A m) (aSh A m) then (1 : Int) else 0)) k179_254 rfl (hM.1 57 (11, 30) rfl) rfl rs.2.2.2.1 ?_
      refine w_if_eq (pc' := 260) k179_257 rfl (fun c_257 => ?_) (fun c_257 => ?_)
      · have hz1 : ¬ pA H E A (aFr A m / H) (aTo A m) (aSh A m) = true := by intro z; rw [if_pos z] at c_257; exact absurd c_257 (by decide)
        refine w_c1 (pc' := 268) k179_267 rfl ?_
        refine w_iast (pc' := 269) k179_268 rfl (hM.1 75 (0, 16) rfl) (by omega) ?_
        refine w_iinc (pc' := 272) (ls' := [_, _, _, _, _]) k179_269 rfl rfl (by omega) rfl ?_
        refine w_goto k179_272 ?_
        refine ih (m + 1) _ _ _ _ _ (by omega) (by omega) ((h1.sc rs.1 rs.2.1).ud (fun a q => by rw [upA_n (by omega)])) ⟨fun l q1 q2 => ?_, fun l q1 q2 => ?_⟩ (fun f q1 q2 => ?_)
        · rw [upA_n (by decide), upA_n (by decide), rs.1 71 (by decide) (by decide) (by decide), rs.1 72 (by decide) (by decide) (by decide)]; exact h2.1 l q1 q2
        · rw [upA_n (by decide), upA_n (by decide), rs.1 73 (by decide) (by decide) (by decide), rs.1 74 (by decide) (by decide) (by decide)]; exact h2.2 l q1 q2
        · rw [upA_s]
          by_cases c : f = m
          · subst c; rw [upF_s]; exact (shV_n hz1).symm
          · rw [upF_n c, rs.1 75 (by decide) (by decide) (by decide)]; exact h3 f q1 (by omega)
      · have hz1 : pA H E A (aFr A m / H) (aTo A m) (aSh A m) = true := Decidable.byContradiction (fun z => by rw [if_neg z] at c_257; exact absurd rfl c_257)
        have hsy := (shV_y hab hf hK hz1 hn).1
        refine w_ldc (pc' := 262) k179_260 rfl ?_
        refine w_iload (pc' := 263) k179_262 rfl rfl ?_
        refine w_idiv (pc' := 264) k179_263 rfl (by omega) ?_
        refine w_goto k179_264 ?_
        refine w_iast (pc' := 269) k179_268 rfl (hM.1 75 (0, 16) rfl) (by omega) ?_
        refine w_iinc (pc' := 272) (ls' := [_, _, _, _, _]) k179_269 rfl rfl (by omega) rfl ?_
        refine w_goto k179_272 ?_
        refine ih (m + 1) _ _ _ _ _ (by omega) (by omega) ((h1.sc rs.1 rs.2.1).ud (fun a q => by rw [upA_n (by omega)])) ⟨fun l q1 q2 => ?_, fun l q1 q2 => ?_⟩ (fun f q1 q2 => ?_)
        · rw [upA_n (by decide), upA_n (by decide), rs.1 71 (by decide) (by decide) (by decide), rs.1 72 (by decide) (by decide) (by decide)]; exact h2.1 l q1 q2
        · rw [upA_n (by decide), upA_n (by decide), rs.1 73 (by decide) (by decide) (by decide), rs.1 74 (by decide) (by decide) (by decide)]; exact h2.2 l q1 q2
        · rw [upA_s]
          by_cases c : f = m
          · subst c; rw [upF_s]; exact (shV_y hab hf hK hz1 hn).2.symm
          · rw [upF_n c, rs.1 75 (by decide) (by decide) (by decide)]; exact h3 f q1 (by omega)
    · refine w_aload (pc' := 148) k179_147 rfl rfl ?_
      refine w_getR (pc' := 151) (v := 73) k179_148 rfl (hM.1 57 (11, 30) rfl) (hM.2 57 24 73 rfl) ?_
      refine w_aload (pc' := 152) k179_151 rfl rfl ?_
      refine w_getR (pc' := 155) (v := 62) k179_152 rfl (hM.1 57 (11, 30) rfl) (hM.2 57 8 62 rfl) ?_
      refine w_c1 (pc' := 156) k179_155 rfl ?_
      refine w_iload (pc' := 157) k179_156 rfl rfl ?_
      refine w_imul (pc' := 158) k179_157 rfl (by omega) ?_
      refine w_iald (pc' := 159) (v := aFr A m) k179_158 rfl (hM.1 62 (0, 64) rfl) (by omega) (by rw [h62]; exact (hms.2.2.2 m hf.1 hf.2).1) ?_
      refine w_iald (pc' := 160) (v := (usG (cV H E A) (qV H E A)) (216 + aFr A m)) k179_159 rfl (hM.1 73 (0, 54) rfl) (by omega) h73 ?_
      refine w_goto k179_160 ?_
      refine w_istore (pc' := 179) (ls' := [_, _, _, _, _]) k179_178 rfl rfl rfl ?_
      refine w_c1 (pc' := 180) k179_179 rfl ?_
      refine w_istore (pc' := 181) (ls' := [_, _, _, _, _]) k179_180 rfl rfl rfl ?_
      refine m179m hF0 hf (h1.sc rs.1 rs.2.1) (fun l q1 q2 => by rw [rs.1 71 (by decide) (by decide) (by decide), rs.1 72 (by decide) (by decide) (by decide), hus, hus]; exact h2.1 l q1 q2) hn (by rw [rs.2.2.1, hn]; rfl) rs.2.2.2.2.2 (fun v3 v4 => ?_) n 0 _ _ _ (by omega) rfl (by rw [moR]; omega)
      refine w_aload (pc' := 249) k179_248 rfl rfl ?_
      refine w_getR (pc' := 252) (v := 75) k179_249 rfl (hM.1 57 (11, 30) rfl) (hM.2 57 26 75 rfl) ?_
      refine w_iload (pc' := 253) k179_252 rfl rfl ?_
      refine w_aload (pc' := 254) k179_253 rfl rfl ?_
      refine w_getI (pc' := 257) (ki := 21) (v := (if pA H E A (aFr A m / H) (aTo A m) (aSh A m) then (1 : Int) else 0)) k179_254 rfl (hM.1 57 (11, 30) rfl) rfl rs.2.2.2.1 ?_
      refine w_if_eq (pc' := 260) k179_257 rfl (fun c_257 => ?_) (fun c_257 => ?_)
      · have hz1 : ¬ pA H E A (aFr A m / H) (aTo A m) (aSh A m) = true := by intro z; rw [if_pos z] at c_257; exact absurd c_257 (by decide)
        refine w_c1 (pc' := 268) k179_267 rfl ?_
        refine w_iast (pc' := 269) k179_268 rfl (hM.1 75 (0, 16) rfl) (by omega) ?_
        refine w_iinc (pc' := 272) (ls' := [_, _, _, _, _]) k179_269 rfl rfl (by omega) rfl ?_
        refine w_goto k179_272 ?_
        refine ih (m + 1) _ _ _ _ _ (by omega) (by omega) ((h1.sc rs.1 rs.2.1).ud (fun a q => by rw [upA_n (by omega)])) ⟨fun l q1 q2 => ?_, fun l q1 q2 => ?_⟩ (fun f q1 q2 => ?_)
        · rw [upA_n (by decide), upA_n (by decide), rs.1 71 (by decide) (by decide) (by decide), rs.1 72 (by decide) (by decide) (by decide)]; exact h2.1 l q1 q2
        · rw [upA_n (by decide), upA_n (by decide), rs.1 73 (by decide) (by decide) (by decide), rs.1 74 (by decide) (by decide) (by decide)]; exact h2.2 l q1 q2
        · rw [upA_s]
          by_cases c : f = m
          · subst c; rw [upF_s]; exact (shV_n hz1).symm
          · rw [upF_n c, rs.1 75 (by decide) (by decide) (by decide)]; exact h3 f q1 (by omega)
      · have hz1 : pA H E A (aFr A m / H) (aTo A m) (aSh A m) = true := Decidable.byContradiction (fun z => by rw [if_neg z] at c_257; exact absurd rfl c_257)
        have hsy := (shV_y hab hf hK hz1 hn).1
        refine w_ldc (pc' := 262) k179_260 rfl ?_
        refine w_iload (pc' := 263) k179_262 rfl rfl ?_
        refine w_idiv (pc' := 264) k179_263 rfl (by omega) ?_
        refine w_goto k179_264 ?_
        refine w_iast (pc' := 269) k179_268 rfl (hM.1 75 (0, 16) rfl) (by omega) ?_
        refine w_iinc (pc' := 272) (ls' := [_, _, _, _, _]) k179_269 rfl rfl (by omega) rfl ?_
        refine w_goto k179_272 ?_
        refine ih (m + 1) _ _ _ _ _ (by omega) (by omega) ((h1.sc rs.1 rs.2.1).ud (fun a q => by rw [upA_n (by omega)])) ⟨fun l q1 q2 => ?_, fun l q1 q2 => ?_⟩ (fun f q1 q2 => ?_)
        · rw [upA_n (by decide), upA_n (by decide), rs.1 71 (by decide) (by decide) (by decide), rs.1 72 (by decide) (by decide) (by decide)]; exact h2.1 l q1 q2
        · rw [upA_n (by decide), upA_n (by decide), rs.1 73 (by decide) (by decide) (by decide), rs.1 74 (by decide) (by decide) (by decide)]; exact h2.2 l q1 q2
        · rw [upA_s]
          by_cases c : f = m
          · subst c; rw [upF_s]; exact (shV_y hab hf hK hz1 hn).2.symm
          · rw [upF_n c, rs.1 75 (by decide) (by decide) (by decide)]; exact h3 f q1 (by omega)
theorem m179 (hF : MF sh R I K H E HO S L B A)  : WPM X (d + 7) 179 [.inr (some 57)] (sh, R, I) 0 0 (fun _ h' => ∃ I', h' = (sh, R, I') ∧ SE I I' ∧ ∀ f, 0 ≤ f → f < aNf A → I' 75 f = shV H E A (aNf A) (aSh A) f) := by
  have hF0 := hF
  obtain ⟨hM, hK, hpo, hha, hms, hab, hB⟩ := hF
  have hr := hK.r
  show WP X (d + 7) 179 0 [.inr (some 57), .inr none, .inr none, .inr none, .inr none] [] (sh, R, I) 0 0 _
  refine w_aload (pc' := 1) k179_0 rfl rfl ?_
  refine w_callV (pc' := 4) (as := [.inr (some 57)]) k179_1 rfl rfl (co_v rfl rfl (hM.1 57 (11, 30) rfl)) (by decide) (m171 hF0) (fun r_1 h_1 hq => ?_)
  obtain ⟨I_1, rfl, c1, c2⟩ := hq
  have s1 : SE I I_1 := SE.rfl.ud (fun a q => c1 a (by omega) (by omega))
  refine w_c1 (pc' := 5) k179_4 rfl ?_
  refine w_istore (pc' := 6) (ls' := [_, _, _, _, _]) k179_5 rfl rfl rfl ?_
  refine m179z (s1.mf hF0) (fun I2 v1 e1 e2 => ?_) 54 0 _ _ (by omega) rfl (fun _ _ _ => rfl) (fun l q1 q2 => absurd q1 (by omega))
  have s2 : SE I I2 := s1.ud (fun a q => e1 a (by omega) (by omega))
  refine w_c1 (pc' := 33) k179_32 rfl ?_
  refine w_istore (pc' := 34) (ls' := [_, _, _, _, _]) k179_33 rfl rfl rfl ?_
  refine m179c hF0 (N := (aNf A).toNat) (by have := hab.2.2.1; omega) (fun I3 v1 s3 g3 => ?_) (aNf A).toNat 0 _ _ (by omega) rfl s2 ⟨fun l q1 q2 => ?_, fun l q1 q2 => ?_⟩
  · refine w_c1 (pc' := 102) k179_101 rfl ?_
    refine w_istore (pc' := 103) (ls' := [_, _, _, _, _]) k179_102 rfl rfl rfl ?_
    exact m179s hF0 (N := (aNf A).toNat) (by have := hab.2.2.1; omega) (aNf A).toNat 0 _ _ _ _ _ (by omega) rfl s3 g3 (fun f q1 q2 => absurd q1 (by omega))
  · rw [e1 71 (by decide) (by decide), e1 72 (by decide) (by decide)]; exact c2 l q1 q2
  · exact e2 l q1 q2
end M78
