/-! ===== REFERENCE: plan ===== -/
section SP84
variable {H E : Int} {A : AS}
/-- how many flows go on another way than at first -/
def difC (A : AS) (σ : Int → Int) (n : Nat) : Int := cnt (fun f => decide (σ f ≠ aSh A f)) n
theorem plF_c {z : Int} {x : (Int → Int) × Int} {N : Nat} (h1 : ∀ f, 0 ≤ f → f < (N : Int) → aSz A f ≤ z → x.1 f = aSh A f) (h2 : x.2 = difC A x.1 N) : ∀ g : Nat, g ≤ N → (∀ f, 0 ≤ f → f < (N : Int) → (aSz A f < z ∨ (aSz A f = z ∧ (g : Int) ≤ f)) → (plF H E A z x g).1 f = aSh A f) ∧ (plF H E A z x g).2 = difC A (plF H E A z x g).1 N
  | 0, _ => ⟨fun f q1 q2 q3 => h1 f q1 q2 (by omega), h2⟩
  | g + 1, hg => by
    obtain ⟨i1, i2⟩ := plF_c h1 h2 g (by omega)
    rw [plF]
    by_cases c : aSz A g = z
    · rw [if_pos c]
      have e0 := i1 g (by omega) (by omega) (Or.inr ⟨c, Int.le_refl _⟩)
      refine ⟨fun f q1 q2 q3 => ?_, ?_⟩
      · show upF (plF H E A z x g).1 (g : Int) _ f = aSh A f
        rw [upF_n (by intro z9; subst z9; omega)]
        exact i1 f q1 q2 (by omega)
      · show (plF H E A z x g).2 + (if bestS H E A (aNf A) (plF H E A z x g).1 g = (plF H E A z x g).1 g then 0 else 1) = difC A (upF (plF H E A z x g).1 (g : Int) (bestS H E A (aNf A) (plF H E A z x g).1 g)) N
        generalize bestS H E A (aNf A) (plF H E A z x g).1 g = b
        rw [i2, e0]
        unfold difC cnt
        rw [sumN_1 (g := fun f => if decide ((plF H E A z x g).1 f ≠ aSh A f) = true then 1 else 0) (g' := fun f => if decide (upF (plF H E A z x g).1 (g : Int) b f ≠ aSh A f) = true then 1 else 0) (f := g) N (by omega) (fun i hi => by rw [upF_n (by omega)])]
        rw [upF_s, e0]
        simp only [ne_eq, not_true_eq_false, decide_false, decide_not, Bool.not_eq_true', decide_eq_false_iff_not]
        split <;> simp_all
    · rw [if_neg c]
      exact ⟨fun f q1 q2 q3 => i1 f q1 q2 (by rcases q3 with q3 | ⟨q3, q4⟩; exact Or.inl q3; exact Or.inr ⟨q3, by omega⟩), i2⟩
theorem plN_c (hs : ∀ f, 0 ≤ f → f < aNf A → aSz A f ≤ 99) : ∀ t : Nat, t ≤ 99 → (∀ f, 0 ≤ f → f < ((aNf A).toNat : Int) → aSz A f ≤ 99 - (t : Int) → (plN H E A t).1 f = aSh A f) ∧ (plN H E A t).2 = difC A (plN H E A t).1 (aNf A).toNat
  | 0, _ => ⟨fun _ _ _ _ => rfl, by show 0 = difC A (aSh A) _; unfold difC; rw [cnt_no]; intro i _; simp⟩
  | t + 1, ht => by
    obtain ⟨i1, i2⟩ := plN_c hs t (by omega)
    rw [plN]
    obtain ⟨j1, j2⟩ := plF_c (H := H) (E := E) i1 i2 (aNf A).toNat (Nat.le_refl _)
    exact ⟨fun f q1 q2 q3 => j1 f q1 q2 (Or.inl (by omega)), j2⟩
end SP84
section M84
variable {X : Nat × (Int → Int)} {d : Nat} {sh : List (Nat × Nat)} {R : Nat → Nat → Option Nat} {I : Nat → Int → Int} {K H E HO S L B : Int} {A : AS}
variable {A1 A2 : AS} {u : Int} {tx : Int → Int} {len : Int}
/-- while plan is under way -/
def PLM (I I1 : Nat → Int → Int) : Prop := (∀ a, a ≠ 57 → a ≠ 62 → (a < 69 ∨ 75 < a) → a ≠ 77 → I1 a = I a) ∧ ∀ j, j ≠ 18 → j ≠ 21 → I1 57 j = I 57 j
theorem MF.shext {σ τ : Int → Int} (h : MF sh R I K H E HO S L B (shW A σ)) (e : ∀ f, 0 ≤ f → f < aNf A → τ f = σ f) : MF sh R I K H E HO S L B (shW A τ) := by
  obtain ⟨hM, hK, hpo, hha, hms, hab, hB⟩ := h
  refine ⟨hM, hK, hpo, hha, ⟨hms.1, hms.2.1, hms.2.2.1, fun f q1 q2 => ?_⟩, ⟨hab.1, hab.2.1, hab.2.2.1, fun f q1 q2 => ?_⟩, hB⟩
  · have h9 := hms.2.2.2 f q1 q2
    refine ⟨h9.1, h9.2.1, h9.2.2.1, ?_⟩
    show I 62 (4 * f + 3) = τ f
    rw [e f q1 q2]; exact h9.2.2.2
  · have h9 := hab.2.2.2 f q1 q2
    refine ⟨h9.1, h9.2.1, h9.2.2.1, h9.2.2.2.1, ?_⟩
    show 0 ≤ τ f ∧ τ f < H * H
    rw [e f q1 q2]; exact h9.2.2.2.2
theorem m186a (hF : MF sh R I K H E HO S L B A) {Q : VV → Hp → Prop} {v1 v3 : VV} {N : Nat} (hN : aNf A = (N : Int)) (C : ∀ (I1 : Nat → Int → Int) (v2 : VV), (∀ a, a ≠ 77 → I1 a = I a) → (∀ f, 0 ≤ f → f < aNf A → I1 77 f = aSh A f) → WP X (d + 9) 186 34 [.inr (some 57), v1, v2, v3] [] (sh, R, I1) 0 0 Q) : ∀ (k m : Nat) (i : Int) (I1 : Nat → Int → Int), m + k = N → i = (m : Int) → (∀ a, a ≠ 77 → I1 a = I a) → (∀ f : Int, 0 ≤ f → f < (m : Int) → I1 77 f = aSh A f) → WP X (d + 9) 186 4 [.inr (some 57), v1, .inl i, v3] [] (sh, R, I1) 0 0 Q := by
  have hF0 := hF
  obtain ⟨hM, hK, hpo, hha, hms, hab, hB⟩ := hF
  have hr := hK.r
  have hnf := hab.2.2.1
  intro k
  induction k with
  | zero =>
    rintro m i I1 hk rfl h1 h2
    have g7 : I1 57 7 = aNf A := by rw [h1 57 (by decide)]; exact hms.1
    refine w_iload (pc' := 5) k186_4 rfl rfl ?_
    refine w_aload (pc' := 6) k186_5 rfl rfl ?_
    refine w_getI (pc' := 9) (ki := 7) (v := aNf A) k186_6 rfl (hM.1 57 (11, 30) rfl) rfl g7 ?_
    refine w_ic_ge (pc' := 12) k186_9 rfl (fun c_9 => ?_) (fun c_9 => absurd c_9 (by omega))
    exact C _ _ h1 (fun f q1 q2 => h2 f q1 (by omega))
  | succ k ih =>
    rintro m i I1 hk rfl h1 h2
    have g7 : I1 57 7 = aNf A := by rw [h1 57 (by decide)]; exact hms.1
    refine w_iload (pc' := 5) k186_4 rfl rfl ?_
    refine w_aload (pc' := 6) k186_5 rfl rfl ?_
    refine w_getI (pc' := 9) (ki := 7) (v := aNf A) k186_6 rfl (hM.1 57 (11, 30) rfl) rfl g7 ?_
    refine w_ic_ge (pc' := 12) k186_9 rfl (fun c_9 => absurd c_9 (by omega)) (fun c_9 => ?_)
    refine w_aload (pc' := 13) k186_12 rfl rfl ?_
    refine w_getR (pc' := 16) (v := 77) k186_13 rfl (hM.1 57 (11, 30) rfl) (hM.2 57 29 77 rfl) ?_
    refine w_iload (pc' := 17) k186_16 rfl rfl ?_
    refine w_aload (pc' := 18) k186_17 rfl rfl ?_
    refine w_getR (pc' := 21) (v := 62) k186_18 rfl (hM.1 57 (11, 30) rfl) (hM.2 57 8 62 rfl) ?_
    refine w_c1 (pc' := 22) k186_21 rfl ?_
    refine w_iload (pc' := 23) k186_22 rfl rfl ?_
    refine w_imul (pc' := 24) k186_23 rfl (by omega) ?_
    refine w_c1 (pc' := 25) k186_24 rfl ?_
    refine w_iadd (pc' := 26) k186_25 rfl (by omega) ?_
    refine w_iald (pc' := 27) (v := aSh A m) k186_26 rfl (hM.1 62 (0, 64) rfl) (by omega) (by rw [h1 62 (by decide)]; exact (hms.2.2.2 m (by omega) (by omega)).2.2.2) ?_
    refine w_iast (pc' := 28) k186_27 rfl (hM.1 77 (0, 16) rfl) (by omega) ?_
    refine w_iinc (pc' := 31) (ls' := [_, _, _, _]) k186_28 rfl rfl (by omega) rfl ?_
    refine w_goto k186_31 ?_
    refine ih (m + 1) _ _ (by omega) (by omega) (fun a q => by rw [upA_n q, h1 a q]) (fun f q1 q2 => ?_)
    rw [upA_s]
    by_cases c : f = m
    · subst c; rw [upF_s]
    · rw [upF_n c]; exact h2 f q1 (by omega)
theorem m186i (hF : MF sh R I K H E HO S L B A) {Q : VV → Hp → Prop} {v1 : VV} {z : Int} {x : (Int → Int) × Int} {J77 : Int → Int} {N : Nat} (hN : aNf A = (N : Int)) (C : ∀ (I1 : Nat → Int → Int) (v3 : VV), PLM I I1 → I1 77 = J77 → MF sh R I1 K H E HO S L B (shW A (plF H E A z x N).1) → WP X (d + 9) 186 76 [.inr (some 57), v1, .inl z, v3] [] (sh, R, I1) 0 0 Q) : ∀ (k m : Nat) (i : Int) (I1 : Nat → Int → Int), m + k = N → i = (m : Int) → PLM I I1 → I1 77 = J77 → MF sh R I1 K H E HO S L B (shW A (plF H E A z x m).1) → WP X (d + 9) 186 43 [.inr (some 57), v1, .inl z, .inl i] [] (sh, R, I1) 0 0 Q := by
  have hF0 := hF
  obtain ⟨hM, hK, hpo, hha, hms, hab, hB⟩ := hF
  have hr := hK.r
  have hnf := hab.2.2.1
  intro k
  induction k with
  | zero =>
    rintro m i I1 hk rfl h1 h77 h2
    have e : m = N := by omega
    subst e
    have g7 : I1 57 7 = aNf A := h2.2.2.2.2.1.1
    refine w_iload (pc' := 44) k186_43 rfl rfl ?_
    refine w_aload (pc' := 45) k186_44 rfl rfl ?_
    refine w_getI (pc' := 48) (ki := 7) (v := aNf A) k186_45 rfl (hM.1 57 (11, 30) rfl) rfl g7 ?_
    refine w_ic_ge (pc' := 51) k186_48 rfl (fun c_48 => ?_) (fun c_48 => absurd c_48 (by omega))
    exact C _ _ h1 h77 h2
  | succ k ih =>
    rintro m i I1 hk rfl h1 h77 h2
    have g7 : I1 57 7 = aNf A := h2.2.2.2.2.1.1
    have hf : (0 : Int) ≤ (m : Int) ∧ (m : Int) < aNf A := by omega
    have hrow := h2.2.2.2.2.1.2.2.2 m hf.1 hf.2
    have hshr : 0 ≤ (plF H E A z x m).1 m ∧ (plF H E A z x m).1 m < H * H := (h2.2.2.2.2.2.1.2.2.2 m hf.1 hf.2).2.2.2.2
    refine w_iload (pc' := 44) k186_43 rfl rfl ?_
    refine w_aload (pc' := 45) k186_44 rfl rfl ?_
    refine w_getI (pc' := 48) (ki := 7) (v := aNf A) k186_45 rfl (hM.1 57 (11, 30) rfl) rfl g7 ?_
    refine w_ic_ge (pc' := 51) k186_48 rfl (fun c_48 => absurd c_48 (by omega)) (fun c_48 => ?_)
    refine w_aload (pc' := 52) k186_51 rfl rfl ?_
    refine w_getR (pc' := 55) (v := 62) k186_52 rfl (hM.1 57 (11, 30) rfl) (hM.2 57 8 62 rfl) ?_
    refine w_c1 (pc' := 56) k186_55 rfl ?_
    refine w_iload (pc' := 57) k186_56 rfl rfl ?_
    refine w_imul (pc' := 58) k186_57 rfl (by omega) ?_
    refine w_c1 (pc' := 59) k186_58 rfl ?_
    refine w_iadd (pc' := 60) k186_59 rfl (by omega) ?_
    refine w_iald (pc' := 61) (v := aSz A m) k186_60 rfl (hM.1 62 (0, 64) rfl) (by omega) hrow.2.2.1 ?_
    refine w_iload (pc' := 62) k186_61 rfl rfl ?_
    refine w_ic_ne (pc' := 65) k186_62 rfl (fun c_62 => ?_) (fun c_62 => ?_)
    · refine w_iinc (pc' := 73) (ls' := [_, _, _, _]) k186_70 rfl rfl (by omega) rfl ?_
      refine w_goto k186_73 ?_
      exact ih (m + 1) _ _ (by omega) (by omega) h1 h77 (by rw [plF, if_neg c_62]; exact h2)
    · refine w_aload (pc' := 66) k186_65 rfl rfl ?_
      refine w_iload (pc' := 67) k186_66 rfl rfl ?_
      refine w_callV (pc' := 70) (as := [.inr (some 57), .inl _]) k186_67 rfl rfl (co_v rfl rfl (hM.1 57 (11, 30) rfl)) (by decide) (m185 h2 hf) (fun r_67 h_67 hq => ?_)
      obtain ⟨I_2, rfl, b1, b2, b3⟩ := hq
      refine w_iinc (pc' := 73) (ls' := [_, _, _, _]) k186_70 rfl rfl (by omega) rfl ?_
      refine w_goto k186_73 ?_
      have eb : bestS H E (shW A (plF H E A z x m).1) (aNf (shW A (plF H E A z x m).1)) (aSh (shW A (plF H E A z x m).1)) m = bestS H E A (aNf A) (plF H E A z x m).1 m := bestS_mk (A' := shW A (plF H E A z x m).1) (A := A) rfl rfl rfl
      rw [eb] at b3
      refine ih (m + 1) _ _ (by omega) (by omega) ⟨fun a q1 q2 q3 q4 => by rw [b1 a q1 q2 q3, h1.1 a q1 q2 q3 q4], fun j q1 q2 => by rw [b2 j q1 q2, h1.2 j q1 q2]⟩ (by rw [b1 77 (by decide) (by decide) (by decide), h77]) ?_
      rw [plF, if_pos c_62]
      refine (h2.shw (f := (m : Int)) (t := bestS H E A (aNf A) (plF H E A z x m).1 m) hf (best_r hshr)).keep (fun a q => ?_) (fun j q => by rw [upA_n (by decide), b2 j (by omega) (by omega)])
      by_cases c : a = 62
      · subst c; rw [upA_s, b3]
      · rw [upA_n c, b1 a (by omega) c (by omega)]
theorem m186o (hF : MF sh R I K H E HO S L B A) {Q : VV → Hp → Prop} {v1 : VV} {J77 : Int → Int} (C : ∀ (I1 : Nat → Int → Int) (v2 v3 : VV), PLM I I1 → I1 77 = J77 → MF sh R I1 K H E HO S L B (shW A (plN H E A 99).1) → WP X (d + 9) 186 82 [.inr (some 57), v1, v2, v3] [] (sh, R, I1) 0 0 Q) : ∀ (k t : Nat) (i : Int) (v3 : VV) (I1 : Nat → Int → Int), t + k = 99 → i = 99 - (t : Int) → PLM I I1 → I1 77 = J77 → MF sh R I1 K H E HO S L B (shW A (plN H E A t).1) → WP X (d + 9) 186 37 [.inr (some 57), v1, .inl i, v3] [] (sh, R, I1) 0 0 Q := by
  have hF0 := hF
  obtain ⟨hM, hK, hpo, hha, hms, hab, hB⟩ := hF
  have hr := hK.r
  have hnf := hab.2.2.1
  intro k
  induction k with
  | zero =>
    rintro t i v3 I1 hk rfl h1 h77 h2
    have e : t = 99 := by omega
    subst e
    refine w_iload (pc' := 38) k186_37 rfl rfl ?_
    refine w_if_le (pc' := 41) k186_38 rfl (fun c_38 => ?_) (fun c_38 => absurd c_38 (by omega))
    exact C _ _ _ h1 h77 h2
  | succ k ih =>
    rintro t i v3 I1 hk rfl h1 h77 h2
    refine w_iload (pc' := 38) k186_37 rfl rfl ?_
    refine w_if_le (pc' := 41) k186_38 rfl (fun c_38 => absurd c_38 (by omega)) (fun c_38 => ?_)
    refine w_c1 (pc' := 42) k186_41 rfl ?_
    refine w_istore (pc' := 43) (ls' := [_, _, _, _]) k186_42 rfl rfl rfl ?_
    refine m186i hF0 (x := plN H E A t) (J77 := J77) (N := (aNf A).toNat) (by omega) (fun I2 v3 g1 g77 g2 => ?_) (aNf A).toNat 0 _ _ (by omega) rfl h1 h77 h2
    refine w_iinc (pc' := 79) (ls' := [_, _, _, _]) k186_76 rfl rfl (by omega) rfl ?_
    refine w_goto k186_79 ?_
    exact ih (t + 1) _ _ _ (by omega) (by omega) g1 g77 (by rw [plN]; exact g2)
theorem mx_s {A : AS} {σ : Int → Int} {m : Nat} : upF (fun f => if f < ((m : Nat) : Int) then aSh A f else σ f) (m : Int) (aSh A m) = (fun f => if f < ((m + 1 : Nat) : Int) then aSh A f else σ f) := by
  funext f
  by_cases c : f = m
  · subst c; rw [upF_s, if_pos (by omega)]
  · rw [upF_n c]
    by_cases c2 : f < (m : Int)
    · rw [if_pos c2, if_pos (by omega)]
    · rw [if_neg c2, if_neg (by omega)]
theorem my_s {A : AS} {σ : Int → Int} {m : Nat} : upF (fun f => if f < ((m : Nat) : Int) then σ f else aSh A f) (m : Int) (σ m) = (fun f => if f < ((m + 1 : Nat) : Int) then σ f else aSh A f) := by
  funext f
  by_cases c : f = m
  · subst c; rw [upF_s, if_pos (by omega)]
  · rw [upF_n c]
    by_cases c2 : f < (m : Int)
    · rw [if_pos c2, if_pos (by omega)]
    · rw [if_neg c2, if_neg (by omega)]
theorem m186s (hF : MF sh R I K H E HO S L B A) {Q : VV → Hp → Prop} {σ : Int → Int} {N : Nat} (hN : aNf A = (N : Int)) (C : ∀ (I1 : Nat → Int → Int) (v2 v3 : VV), PLM I I1 → (∀ f, 0 ≤ f → f < aNf A → I1 77 f = σ f) → MF sh R I1 K H E HO S L B A → WP X (d + 9) 186 154 [.inr (some 57), .inl (difC A σ N), v2, v3] [] (sh, R, I1) 0 0 Q) : ∀ (k m : Nat) (c i : Int) (v3 : VV) (I1 : Nat → Int → Int), m + k = N → i = (m : Int) → c = difC A σ m → PLM I I1 → (∀ f, 0 ≤ f → f < aNf A → I1 77 f = (fun f => if f < ((m : Nat) : Int) then σ f else aSh A f) f) → MF sh R I1 K H E HO S L B (shW A (fun f => if f < ((m : Nat) : Int) then aSh A f else σ f)) → WP X (d + 9) 186 84 [.inr (some 57), .inl c, .inl i, v3] [] (sh, R, I1) 0 0 Q := by
  have hF0 := hF
  obtain ⟨hM, hK, hpo, hha, hms, hab, hB⟩ := hF
  have hr := hK.r
  have hnf := hab.2.2.1
  intro k
  induction k with
  | zero =>
    rintro m c i v3 I1 hk rfl rfl h1 h77 h2
    have e : m = N := by omega
    subst e
    have g7 : I1 57 7 = aNf A := h2.2.2.2.2.1.1
    refine w_iload (pc' := 85) k186_84 rfl rfl ?_
    refine w_aload (pc' := 86) k186_85 rfl rfl ?_
    refine w_getI (pc' := 89) (ki := 7) (v := aNf A) k186_86 rfl (hM.1 57 (11, 30) rfl) rfl g7 ?_
    refine w_ic_ge (pc' := 92) k186_89 rfl (fun c_89 => ?_) (fun c_89 => absurd c_89 (by omega))
    exact C _ _ _ h1 (fun f q1 q2 => by rw [h77 f q1 q2]; exact if_pos (by omega)) (h2.shext (τ := aSh A) (fun f q1 q2 => (if_pos (show f < (m : Int) by omega)).symm))
  | succ k ih =>
    rintro m c i v3 I1 hk rfl hc h1 h77 h2
    have g7 : I1 57 7 = aNf A := h2.2.2.2.2.1.1
    have hf : (0 : Int) ≤ (m : Int) ∧ (m : Int) < aNf A := by omega
    have hcl := cnt_le (fun f => decide (σ f ≠ aSh A f)) m
    have hcr : 0 ≤ c ∧ c ≤ 16 := by rw [hc]; unfold difC; omega
    have hrow : I1 62 (4 * (m : Int) + 3) = σ m := (h2.2.2.2.2.1.2.2.2 m hf.1 hf.2).2.2.2.trans (if_neg (by omega))
    have hv7 : I1 77 (m : Int) = aSh A m := (h77 m hf.1 hf.2).trans (if_neg (by omega))
    have hsr := (hab.2.2.2 m hf.1 hf.2).2.2.2.2
    have h3 := h2.shw (f := (m : Int)) (t := aSh A m) hf hsr
    have h4 : MF sh R (upA I1 62 (upF (I1 62) (4 * (m : Int) + 3) (aSh A m))) K H E HO S L B (shW A (fun f => if f < ((m + 1 : Nat) : Int) then aSh A f else σ f)) := by rw [← mx_s]; exact h3
    refine w_iload (pc' := 85) k186_84 rfl rfl ?_
    refine w_aload (pc' := 86) k186_85 rfl rfl ?_
    refine w_getI (pc' := 89) (ki := 7) (v := aNf A) k186_86 rfl (hM.1 57 (11, 30) rfl) rfl g7 ?_
    refine w_ic_ge (pc' := 92) k186_89 rfl (fun c_89 => absurd c_89 (by omega)) (fun c_89 => ?_)
    refine w_aload (pc' := 93) k186_92 rfl rfl ?_
    refine w_getR (pc' := 96) (v := 62) k186_93 rfl (hM.1 57 (11, 30) rfl) (hM.2 57 8 62 rfl) ?_
    refine w_c1 (pc' := 97) k186_96 rfl ?_
    refine w_iload (pc' := 98) k186_97 rfl rfl ?_
    refine w_imul (pc' := 99) k186_98 rfl (by omega) ?_
    refine w_c1 (pc' := 100) k186_99 rfl ?_
    refine w_iadd (pc' := 101) k186_100 rfl (by omega) ?_
    refine w_iald (pc' := 102) (v := σ m) k186_101 rfl (hM.1 62 (0, 64) rfl) (by omega) hrow ?_
    refine w_istore (pc' := 103) (ls' := [_, _, _, _]) k186_102 rfl rfl rfl ?_
    refine w_aload (pc' := 104) k186_103 rfl rfl ?_
    refine w_getR (pc' := 107) (v := 62) k186_104 rfl (hM.1 57 (11, 30) rfl) (hM.2 57 8 62 rfl) ?_
    refine w_c1 (pc' := 108) k186_107 rfl ?_
    refine w_iload (pc' := 109) k186_108 rfl rfl ?_
    refine w_imul (pc' := 110) k186_109 rfl (by omega) ?_
    refine w_c1 (pc' := 111) k186_110 rfl ?_
    refine w_iadd (pc' := 112) k186_111 rfl (by omega) ?_
    refine w_aload (pc' := 113) k186_112 rfl rfl ?_
    refine w_getR (pc' := 116) (v := 77) k186_113 rfl (hM.1 57 (11, 30) rfl) (hM.2 57 29 77 rfl) ?_
    refine w_iload (pc' := 117) k186_116 rfl rfl ?_
    refine w_iald (pc' := 118) (v := aSh A m) k186_117 rfl (hM.1 77 (0, 16) rfl) (by omega) hv7 ?_
    refine w_iast (pc' := 119) k186_118 rfl (hM.1 62 (0, 64) rfl) (by omega) ?_
    refine w_aload (pc' := 120) k186_119 rfl rfl ?_
    refine w_getR (pc' := 123) (v := 77) k186_120 rfl (hM.1 57 (11, 30) rfl) (hM.2 57 29 77 rfl) ?_
    refine w_iload (pc' := 124) k186_123 rfl rfl ?_
    refine w_iload (pc' := 125) k186_124 rfl rfl ?_
    refine w_iast (pc' := 126) k186_125 rfl (hM.1 77 (0, 16) rfl) (by omega) ?_
    refine w_iload (pc' := 127) k186_126 rfl rfl ?_
    refine w_iload (pc' := 128) k186_127 rfl rfl ?_
    refine w_aload (pc' := 129) k186_128 rfl rfl ?_
    refine w_getR (pc' := 132) (v := 62) k186_129 rfl (hM.1 57 (11, 30) rfl) (hM.2 57 8 62 rfl) ?_
    refine w_c1 (pc' := 133) k186_132 rfl ?_
    refine w_iload (pc' := 134) k186_133 rfl rfl ?_
    refine w_imul (pc' := 135) k186_134 rfl (by omega) ?_
    refine w_c1 (pc' := 136) k186_135 rfl ?_
    refine w_iadd (pc' := 137) k186_136 rfl (by omega) ?_
    refine w_iald (pc' := 138) (v := aSh A m) k186_137 rfl (hM.1 62 (0, 64) rfl) (by omega) (by rw [upA_n (by decide), upA_s, upF_s]) ?_
    refine w_ic_ne (pc' := 141) k186_138 rfl (fun c_138 => ?_) (fun c_138 => ?_)
    · refine w_c1 (pc' := 146) k186_145 rfl ?_
      refine w_iadd (pc' := 147) k186_146 rfl (by omega) ?_
      refine w_istore (pc' := 148) (ls' := [_, _, _, _]) k186_147 rfl rfl rfl ?_
      refine w_iinc (pc' := 151) (ls' := [_, _, _, _]) k186_148 rfl rfl (by omega) rfl ?_
      refine w_goto k186_151 ?_
      refine ih (m + 1) _ _ _ _ (by omega) (by omega) (by unfold difC; rw [cnt_s, if_pos (by simpa using c_138), hc]; rfl) ⟨fun a q1 q2 q3 q4 => by rw [upA_n q4, upA_n q2, h1.1 a q1 q2 q3 q4], fun j q1 q2 => by rw [upA_n (by decide), upA_n (by decide), h1.2 j q1 q2]⟩ (fun f q1 q2 => ?_) (h4.keep (fun a q => by rw [upA_n (by omega)]) (fun j q => by rw [upA_n (by decide)]))
      rw [upA_s, upA_n (by decide), ← my_s]
      by_cases c9 : f = m
      · subst c9; rw [upF_s, upF_s]
      · rw [upF_n c9, upF_n c9]; exact h77 f q1 q2
    · refine w_c1 (pc' := 142) k186_141 rfl ?_
      refine w_goto k186_142 ?_
      refine w_iadd (pc' := 147) k186_146 rfl (by omega) ?_
      refine w_istore (pc' := 148) (ls' := [_, _, _, _]) k186_147 rfl rfl rfl ?_
      refine w_iinc (pc' := 151) (ls' := [_, _, _, _]) k186_148 rfl rfl (by omega) rfl ?_
      refine w_goto k186_151 ?_
      refine ih (m + 1) _ _ _ _ (by omega) (by omega) (by unfold difC; rw [cnt_s, if_neg (by simpa using c_138), hc]; rfl) ⟨fun a q1 q2 q3 q4 => by rw [upA_n q4, upA_n q2, h1.1 a q1 q2 q3 q4], fun j q1 q2 => by rw [upA_n (by decide), upA_n (by decide), h1.2 j q1 q2]⟩ (fun f q1 q2 => ?_) (h4.keep (fun a q => by rw [upA_n (by omega)]) (fun j q => by rw [upA_n (by decide)]))
      rw [upA_s, upA_n (by decide), ← my_s]
      by_cases c9 : f = m
      · subst c9; rw [upF_s, upF_s]
      · rw [upF_n c9, upF_n c9]; exact h77 f q1 q2
theorem m186e (hF : MF sh R I K H E HO S L B A) {Q : VV → Hp → Prop} {v1 v3 : VV} {σ : Int → Int} (hσ : ∀ f, 0 ≤ f → f < aNf A → 0 ≤ σ f ∧ σ f < H * H) (h77 : ∀ f, 0 ≤ f → f < aNf A → I 77 f = σ f) {N : Nat} (hN : aNf A = (N : Int)) (C : ∀ (I1 : Nat → Int → Int) (v2 : VV), (∀ a, a ≠ 62 → I1 a = I a) → MF sh R I1 K H E HO S L B (shW A σ) → WP X (d + 9) 186 194 [.inr (some 57), v1, v2, v3] [] (sh, R, I1) 0 0 Q) : ∀ (k m : Nat) (i : Int) (I1 : Nat → Int → Int), m + k = N → i = (m : Int) → (∀ a, a ≠ 62 → I1 a = I a) → MF sh R I1 K H E HO S L B (shW A (fun f => if f < ((m : Nat) : Int) then σ f else aSh A f)) → WP X (d + 9) 186 164 [.inr (some 57), v1, .inl i, v3] [] (sh, R, I1) 0 0 Q := by
  have hF0 := hF
  obtain ⟨hM, hK, hpo, hha, hms, hab, hB⟩ := hF
  have hr := hK.r
  have hnf := hab.2.2.1
  intro k
  induction k with
  | zero =>
    rintro m i I1 hk rfl h1 h2
    have e : m = N := by omega
    subst e
    have g7 : I1 57 7 = aNf A := h2.2.2.2.2.1.1
    refine w_iload (pc' := 165) k186_164 rfl rfl ?_
    refine w_aload (pc' := 166) k186_165 rfl rfl ?_
    refine w_getI (pc' := 169) (ki := 7) (v := aNf A) k186_166 rfl (hM.1 57 (11, 30) rfl) rfl g7 ?_
    refine w_ic_ge (pc' := 172) k186_169 rfl (fun c_169 => ?_) (fun c_169 => absurd c_169 (by omega))
    exact C _ _ h1 (h2.shext (τ := σ) (fun f q1 q2 => (if_pos (show f < (m : Int) by omega)).symm))
  | succ k ih =>
    rintro m i I1 hk rfl h1 h2
    have g7 : I1 57 7 = aNf A := h2.2.2.2.2.1.1
    have hf : (0 : Int) ≤ (m : Int) ∧ (m : Int) < aNf A := by omega
    have hv7 : I1 77 (m : Int) = σ m := by rw [h1 77 (by decide)]; exact h77 m hf.1 hf.2
    have h3 := h2.shw (f := (m : Int)) (t := σ m) hf (hσ m hf.1 hf.2)
    have h4 : MF sh R (upA I1 62 (upF (I1 62) (4 * (m : Int) + 3) (σ m))) K H E HO S L B (shW A (fun f => if f < ((m + 1 : Nat) : Int) then σ f else aSh A f)) := by rw [← my_s]; exact h3
    refine w_iload (pc' := 165) k186_164 rfl rfl ?_
    refine w_aload (pc' := 166) k186_165 rfl rfl ?_
    refine w_getI (pc' := 169) (ki := 7) (v := aNf A) k186_166 rfl (hM.1 57 (11, 30) rfl) rfl g7 ?_
    refine w_ic_ge (pc' := 172) k186_169 rfl (fun c_169 => absurd c_169 (by omega)) (fun c_169 => ?_)
    refine w_aload (pc' := 173) k186_172 rfl rfl ?_
    refine w_getR (pc' := 176) (v := 62) k186_173 rfl (hM.1 57 (11, 30) rfl) (hM.2 57 8 62 rfl) ?_
    refine w_c1 (pc' := 177) k186_176 rfl ?_
    refine w_iload (pc' := 178) k186_177 rfl rfl ?_
    refine w_imul (pc' := 179) k186_178 rfl (by omega) ?_
    refine w_c1 (pc' := 180) k186_179 rfl ?_
    refine w_iadd (pc' := 181) k186_180 rfl (by omega) ?_
    refine w_aload (pc' := 182) k186_181 rfl rfl ?_
    refine w_getR (pc' := 185) (v := 77) k186_182 rfl (hM.1 57 (11, 30) rfl) (hM.2 57 29 77 rfl) ?_
    refine w_iload (pc' := 186) k186_185 rfl rfl ?_
    refine w_iald (pc' := 187) (v := σ m) k186_186 rfl (hM.1 77 (0, 16) rfl) (by omega) hv7 ?_
    refine w_iast (pc' := 188) k186_187 rfl (hM.1 62 (0, 64) rfl) (by omega) ?_
    refine w_iinc (pc' := 191) (ls' := [_, _, _, _]) k186_188 rfl rfl (by omega) rfl ?_
    refine w_goto k186_191 ?_
    exact ih (m + 1) _ _ (by omega) (by omega) (fun a q => by rw [upA_n q, h1 a q]) h4
theorem m186 (hG : MG sh R I K H E HO S L B (A, A1, A2, u) tx len) (hB1 : B + 2 ≤ 1000000) : QN X (d + 9) 186 [.inr (some 57)] sh R I K H E HO S L (B + 1) (planV H E A) (planZ H E (A, A1, A2, u)) tx len := by
  have hG0 := hG
  obtain ⟨hF, h9, hW, hT⟩ := hG
  have hF : MF sh R I K H E HO S L B A := hF
  have hF0 := hF
  obtain ⟨hM, hK, hpo, hha, hms, hab, hB⟩ := hF
  have hr := hK.r
  have h9' : I 57 9 = u := h9
  have hnf := hab.2.2.1
  have hN : aNf A = ((aNf A).toNat : Int) := by omega
  have hpc := (plN_c (H := H) (E := E) (A := A) (fun f q1 q2 => (hab.2.2.2 f q1 q2).2.2.2.1.2) 99 (by omega)).2
  show WP X (d + 9) 186 0 [.inr (some 57), .inr none, .inr none, .inr none] [] (sh, R, I) 0 0 _
  refine w_c1 (pc' := 1) k186_0 rfl ?_
  refine w_istore (pc' := 2) (ls' := [_, _, _, _]) k186_1 rfl rfl rfl ?_
  refine w_c1 (pc' := 3) k186_2 rfl ?_
  refine w_istore (pc' := 4) (ls' := [_, _, _, _]) k186_3 rfl rfl rfl ?_
  refine m186a hF0 hN (fun I1 v2 e1 e2 => ?_) (aNf A).toNat 0 _ _ (by omega) rfl (fun _ _ => rfl) (fun f q1 q2 => absurd q1 (by omega))
  refine w_c2 (pc' := 36) k186_34 rfl ?_
  refine w_istore (pc' := 37) (ls' := [_, _, _, _]) k186_36 rfl rfl rfl ?_
  refine m186o hF0 (J77 := I1 77) (fun I2 v2 v3 g21 g277 g22 => ?_) 99 0 _ _ _ (by omega) rfl ⟨fun a q1 q2 q3 q4 => e1 a q4, fun j q1 q2 => by rw [e1 57 (by decide)]⟩ rfl (show MF sh R I1 K H E HO S L B A from hF0.keep (fun a q => e1 a (by omega)) (fun j q => by rw [e1 57 (by decide)]))
  refine w_c1 (pc' := 83) k186_82 rfl ?_
  refine w_istore (pc' := 84) (ls' := [_, _, _, _]) k186_83 rfl rfl rfl ?_
  refine m186s hF0 (σ := (plN H E A 99).1) hN (fun I3 v2 v3 g31 g32 g33 => ?_) (aNf A).toNat 0 _ _ _ _ (by omega) rfl rfl g21 (fun f q1 q2 => by rw [g277, e2 f q1 q2]; exact (if_neg (by omega)).symm) (g22.shext (fun f q1 q2 => if_neg (by omega)))
  refine w_iload (pc' := 155) k186_154 rfl rfl ?_
  refine w_if_le (pc' := 158) k186_155 rfl (fun c_155 => ?_) (fun c_155 => ?_)
  · have hd0 := cnt_le (fun f => decide ((plN H E A 99).1 f ≠ aSh A f)) (aNf A).toNat
    have hd1 : difC A (plN H E A 99).1 (aNf A).toNat = 0 := by unfold difC at c_155 ⊢; omega
    have hσ : ∀ f, 0 ≤ f → f < aNf A → (plN H E A 99).1 f = aSh A f := by
      intro f q1 q2
      have hz := cnt_0 (P := fun f => decide ((plN H E A 99).1 f ≠ aSh A f)) (aNf A).toNat (by unfold difC at hd1; omega) f.toNat (by omega)
      rw [show ((f.toNat : Nat) : Int) = f by omega] at hz
      simpa using hz
    refine w_iload (pc' := 195) k186_194 rfl rfl ?_
    refine w_reti k186_195 ⟨?_, _, rfl, fun a q => g31.1 a (by omega) (by omega) (by omega) (by omega), ?_⟩
    · unfold planV; rw [hpc]
    · unfold planZ
      rw [if_neg (show ¬ 0 < (plN H E A 99).2 by rw [hpc]; omega)]
      refine ⟨((g33.shext (σ := aSh A) (τ := (plN H E A 99).1) hσ)).mono (by omega) (by omega), by rw [g31.2 9 (by decide) (by decide)]; exact h9, (hW.mono (by omega)).keep (fun a q1 q2 => g31.1 a (by omega) (by omega) (by omega) (by omega)), hT.keep (g31.2 0 (by decide) (by decide)) (g31.1 58 (by decide) (by decide) (by decide) (by decide))⟩
  · have hG3 : MG sh R I3 K H E HO S L B (A, A1, A2, u) tx len := ⟨g33, by rw [g31.2 9 (by decide) (by decide)]; exact h9, hW.keep (fun a q1 q2 => g31.1 a (by omega) (by omega) (by omega) (by omega)), hT.keep (g31.2 0 (by decide) (by decide)) (g31.1 58 (by decide) (by decide) (by decide) (by decide))⟩
    refine w_aload (pc' := 159) k186_158 rfl rfl ?_
    refine w_callV (pc' := 162) (as := [.inr (some 57)]) k186_159 rfl rfl (co_v rfl rfl (hM.1 57 (11, 30) rfl)) (by decide) (m147 hM (show I3 57 9 = u by rw [g31.2 9 (by decide) (by decide)]; exact h9) hW.1) (fun r_159 h_159 hq => ?_)
    obtain ⟨I_5, rfl, kp⟩ := hq
    refine w_c1 (pc' := 163) k186_162 rfl ?_
    refine w_istore (pc' := 164) (ls' := [_, _, _, _]) k186_163 rfl rfl rfl ?_
    refine m186e (kp.mf g33) (σ := (plN H E A 99).1) (fun f q1 q2 => (g22.2.2.2.2.2.1.2.2.2 f q1 q2).2.2.2.2) (fun f q1 q2 => by rw [kp.1 77 (by decide) (by decide)]; exact g32 f q1 q2) hN (fun I4 v2 g41 g42 => ?_) (aNf A).toNat 0 _ _ (by omega) rfl (fun _ _ => rfl) ((kp.mf g33).shext (σ := aSh A) (fun f q1 q2 => if_neg (by omega)))
    refine w_iload (pc' := 195) k186_194 rfl rfl ?_
    refine w_reti k186_195 ⟨?_, _, rfl, fun a q => by rw [g41 a (by omega), kp.1 a (by omega) (by omega), g31.1 a (by omega) (by omega) (by omega) (by omega)], ?_⟩
    · unfold planV; rw [hpc]
    · unfold planZ
      rw [if_pos (show 0 < (plN H E A 99).2 by rw [hpc]; exact c_155)]
      exact hG3.push kp (show B ≤ B + 1 by omega) (g42.mono (by omega) (by omega)) (fun a q => g41 a (by omega)) (fun j q => by rw [g41 57 (by decide)])
end M84
