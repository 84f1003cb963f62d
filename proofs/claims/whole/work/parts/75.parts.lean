/-! ===== REFERENCE: parts, counts, adds ===== -/
theorem waysS_ext {H E : Int} {op op' : Int → Bool} (hH : 0 ≤ H) (hE : 0 ≤ E) (h : ∀ x, 0 ≤ x → op x = op' x) {e o : Int} (he : 0 ≤ e) (ho : 0 ≤ o) : waysS H E op e o = waysS H E op' e o := by
  unfold waysS
  split
  · rfl
  · apply sumN_ext
    intro j _
    have n1 : ∀ x : Int, 0 ≤ x → op (x * H + (j : Int)) = op' (x * H + (j : Int)) := fun x hx => h _ (Int.add_nonneg (Int.mul_nonneg hx hH) (by omega))
    have n2 : ∀ (x : Int) (m : Nat), 0 ≤ x → op ((E + x * H + (j : Int)) * H + (m : Int)) = op' ((E + x * H + (j : Int)) * H + (m : Int)) := fun x m hx => h _ (Int.add_nonneg (Int.mul_nonneg (by have := Int.mul_nonneg hx hH; omega) hH) (by omega))
    unfold wJ wMid
    rw [n1 e he, n1 o ho]
    have h3 : cnt (fun m => op ((E + e / H * H + (j : Int)) * H + m) && op ((E + o / H * H + (j : Int)) * H + m)) H.toNat = cnt (fun m => op' ((E + e / H * H + (j : Int)) * H + m) && op' ((E + o / H * H + (j : Int)) * H + m)) H.toNat := cnt_ext (fun m _ => by rw [n2 _ m (Int.ediv_nonneg he hH), n2 _ m (Int.ediv_nonneg ho hH)])
    rw [h3]
theorem joinS_ext {H E : Int} {op op' : Int → Bool} (hH : 0 ≤ H) (hE : 0 ≤ E) (h : ∀ x, 0 ≤ x → op x = op' x) : joinS H E op = joinS H E op' := by
  unfold joinS
  apply sumN_ext
  intro e _
  apply sumN_ext
  intro o _
  unfold jpS
  rw [waysS_ext hH hE h (by omega) (by omega)]
section M75
variable {X : Nat × (Int → Int)} {d : Nat} {sh : List (Nat × Nat)} {R : Nat → Nat → Option Nat} {I : Nat → Int → Int} {K H E HO S L B : Int} {A : AS}
theorem MF.age (hF : MF sh R I K H E HO S L B A) {l : Int} {I1 : Nat → Int → Int} (hl : 0 ≤ l ∧ l < L) (hB1 : B + 1 ≤ 1000000) (e1 : I1 59 = upF (I 59) l (aAg A l + 1)) (e2 : ∀ a, a = 60 ∨ a = 62 → I1 a = I a) (e3 : ∀ j, j = 2 ∨ j = 3 ∨ j = 7 → I1 57 j = I 57 j) : MF sh R I1 K H E HO S L (B + 1) ((upF (aAg A) l (aAg A l + 1), A.2) : AS) := by
  have hF0 := hF
  obtain ⟨hM, hK, hpo, hha, hms, hab, hB⟩ := hF
  have hr := hK.r
  refine ⟨hM, hK, by rw [e3 2 (by omega), hpo], by rw [e3 3 (by omega), hha], ⟨by rw [e3 7 (by omega)]; exact hms.1, fun k q1 q2 => ?_, fun n k q1 q2 q3 q4 => by rw [e2 60 (by omega)]; exact hms.2.2.1 n k q1 q2 q3 q4, fun f q1 q2 => by rw [e2 62 (by omega)]; exact hms.2.2.2 f q1 q2⟩, ⟨fun k q1 q2 => ?_, fun n k q1 q2 q3 q4 => ?_, hab.2.2⟩, hB1⟩
  · rw [e1]
    show upF (I 59) l (aAg A l + 1) k = upF (aAg A) l (aAg A l + 1) k
    by_cases c : k = l
    · subst c; rw [upF_s, upF_s]
    · rw [upF_n c, upF_n c, hms.2.1 k q1 q2]
  · show 0 ≤ upF (aAg A) l (aAg A l + 1) k ∧ upF (aAg A) l (aAg A l + 1) k ≤ B + 1
    have h1 := hab.1 k q1 q2
    by_cases c : k = l
    · subst c; rw [upF_s]; omega
    · rw [upF_n c]; omega
  · have h1 := hab.2.1 n k q1 q2 q3 q4
    exact ⟨h1.1, Int.le_trans h1.2 (by omega)⟩
theorem m170 (hF : MF sh R I K H E HO S L B A) {l : Int} (hB1 : B + 1 ≤ 1000000) : QM X (d + 7) 170 [.inr (some 57), .inl l] sh R I (partS H E L A l) := by
  have hF0 := hF
  obtain ⟨hM, hK, hpo, hha, hms, hab, hB⟩ := hF
  have hr := hK.r
  have hH : 1 ≤ H ∧ H ≤ 3 := by omega
  have hE : 2 ≤ E ∧ E ≤ 18 := by omega
  show WP X (d + 7) 170 0 [.inr (some 57), .inl l, .inr none, .inr none] [] (sh, R, I) 0 0 _
  refine w_aload (pc' := 1) k170_0 rfl rfl ?_
  refine w_iload (pc' := 2) k170_1 rfl rfl ?_
  refine w_callB (pc' := 5) (as := [.inr (some 57), .inl _]) k170_2 rfl rfl (co_v rfl rfl (hM.1 57 (11, 30) rfl)) (by decide) (m135 hF0) (fun q_2 => ?_) (fun q_2 => ?_)
  · refine w_if_ne (pc' := 8) k170_5 rfl (fun _ => ?_) (fun c_5 => absurd c_5 (by decide))
    refine w_aload (pc' := 11) k170_10 rfl rfl ?_
    refine w_iload (pc' := 12) k170_11 rfl rfl ?_
    refine w_callB (pc' := 15) (as := [.inr (some 57), .inl _]) k170_12 rfl rfl (co_v rfl rfl (hM.1 57 (11, 30) rfl)) (by decide) (m142 hF0 q_2) (fun q_12 => ?_) (fun q_12 => ?_)
    · refine w_if_ne (pc' := 18) k170_15 rfl (fun _ => ?_) (fun c_15 => absurd c_15 (by decide))
      refine w_aload (pc' := 21) k170_20 rfl rfl ?_
      refine w_c1 (pc' := 22) k170_21 rfl ?_
      refine w_callI (pc' := 25) (as := [.inr (some 57), .inl _]) k170_22 rfl rfl (co_v rfl rfl (hM.1 57 (11, 30) rfl)) (by decide) (m169 hF0) (fun z_22 h_22 hq => ?_)
      have hq1 : z_22 = joinS H E (opC A (-4)) ∧ ∃ I1, h_22 = (sh, R, I1) ∧ SC I I1 := by
        obtain ⟨v0, e0, p0, I1, e1, sc1⟩ := hq
        refine ⟨?_, I1, e1, sc1⟩
        rcases p0 with ⟨_, p0⟩ | ⟨z0, _⟩ | ⟨z0, _⟩ | ⟨z0, _⟩ | ⟨z0, _⟩ <;> first | (exact absurd z0 (by omega)) | (rw [← p0]; exact Sum.inl.inj e0)
      obtain ⟨rfl, I1, rfl, sc1⟩ := hq1
      have hj1 := joinS_le (op := opC A (-4)) hH hE
      have hal := hab.1 l q_2.1 q_2.2
      have hv1 : I1 59 l = aAg A l := by rw [sc1.1 59 (by decide) (by decide) (by decide)]; exact hms.2.1 l q_2.1 q_2.2
      have hF2 : MF sh R (upA I1 59 (upF (I1 59) l (aAg A l + 1))) K H E HO S L (B + 1) ((upF (aAg A) l (aAg A l + 1), A.2) : AS) := hF0.age q_2 hB1 (by rw [upA_s, sc1.1 59 (by decide) (by decide) (by decide)]) (fun a q => by rw [upA_n (by omega), sc1.1 a (by omega) (by omega) (by omega)]) (fun j q => by rw [upA_n (by omega), sc1.2 j (by omega) (by omega)])
      refine w_istore (pc' := 26) (ls' := [_, _, _, _]) k170_25 rfl rfl rfl ?_
      refine w_aload (pc' := 27) k170_26 rfl rfl ?_
      refine w_getR (pc' := 30) (v := 59) k170_27 rfl (hM.1 57 (11, 30) rfl) (hM.2 57 4 59 rfl) ?_
      refine w_iload (pc' := 31) k170_30 rfl rfl ?_
      refine w_dup2 (pc' := 32) k170_31 rfl ?_
      refine w_iald (pc' := 33) (v := aAg A l) k170_32 rfl (hM.1 59 (0, 108) rfl) (by omega) hv1 ?_
      refine w_c1 (pc' := 34) k170_33 rfl ?_
      refine w_iadd (pc' := 35) k170_34 rfl (by omega) ?_
      refine w_iast (pc' := 36) k170_35 rfl (hM.1 59 (0, 108) rfl) (by omega) ?_
      refine w_aload (pc' := 37) k170_36 rfl rfl ?_
      refine w_c1 (pc' := 38) k170_37 rfl ?_
      refine w_callI (pc' := 41) (as := [.inr (some 57), .inl _]) k170_38 rfl rfl (co_v rfl rfl (hM.1 57 (11, 30) rfl)) (by decide) (m169 hF2) (fun z_38 h_38 hq => ?_)
      have hq1 : z_38 = joinS H E (opC A l) ∧ ∃ I3, h_38 = (sh, R, I3) ∧ SC (upA I1 59 (upF (I1 59) l (aAg A l + 1))) I3 := by
        obtain ⟨v0, e0, p0, I3, e1, sc3⟩ := hq
        refine ⟨?_, I3, e1, sc3⟩
        have hx : joinS H E (opC ((upF (aAg A) l (aAg A l + 1), A.2) : AS) (-4)) = joinS H E (opC A l) := joinS_ext (by omega) (by omega) (fun x hx => ?_)
        · rcases p0 with ⟨_, p0⟩ | ⟨z0, _⟩ | ⟨z0, _⟩ | ⟨z0, _⟩ | ⟨z0, _⟩ <;> first | (exact absurd z0 (by omega)) | (rw [← hx, ← p0]; exact Sum.inl.inj e0)
        · unfold opC
          show (decide (x ≠ -4) && ev (upF (aAg A) l (aAg A l + 1) x)) = (decide (x ≠ l) && ev (aAg A x))
          by_cases c : x = l
          · subst c
            rw [upF_s, show ev (aAg A x + 1) = false from ev_f.mpr (by have := ev_t.mp q_12; omega), Bool.and_false, show decide (x ≠ x) = false from by simp, Bool.false_and]
          · rw [upF_n c, show decide (x ≠ -4) = true from decide_eq_true (by omega), show decide (x ≠ l) = true from decide_eq_true c]
      obtain ⟨rfl, I3, rfl, sc3⟩ := hq1
      have hj2 := joinS_le (op := opC A l) hH hE
      have h59 : I3 59 = upF (I 59) l (aAg A l + 1) := by rw [sc3.1 59 (by decide) (by decide) (by decide), upA_s, sc1.1 59 (by decide) (by decide) (by decide)]
      have hv3 : I3 59 l = aAg A l + 1 := by rw [h59, upF_s]
      refine w_istore (pc' := 42) (ls' := [_, _, _, _]) k170_41 rfl rfl rfl ?_
      refine w_aload (pc' := 43) k170_42 rfl rfl ?_
      refine w_getR (pc' := 46) (v := 59) k170_43 rfl (hM.1 57 (11, 30) rfl) (hM.2 57 4 59 rfl) ?_
      refine w_iload (pc' := 47) k170_46 rfl rfl ?_
      refine w_dup2 (pc' := 48) k170_47 rfl ?_
      refine w_iald (pc' := 49) (v := aAg A l + 1) k170_48 rfl (hM.1 59 (0, 108) rfl) (by omega) hv3 ?_
      refine w_c1 (pc' := 50) k170_49 rfl ?_
      refine w_isub (pc' := 51) k170_50 rfl (by omega) ?_
      refine w_iast (pc' := 52) k170_51 rfl (hM.1 59 (0, 108) rfl) (by omega) ?_
      refine w_iload (pc' := 53) k170_52 rfl rfl ?_
      refine w_iload (pc' := 54) k170_53 rfl rfl ?_
      refine w_isub (pc' := 55) k170_54 rfl (by omega) ?_
      refine w_reti k170_55 ⟨by unfold partS; rw [if_pos q_2], _, rfl, fun a q => ?_, fun j q => ?_⟩
      · by_cases c : a = 59
        · subst c
          rw [upA_s, h59]
          funext i
          by_cases c2 : i = l
          · subst c2; rw [upF_s, hms.2.1 i q_2.1 q_2.2]; omega
          · rw [upF_n c2, upF_n c2]
        · rw [upA_n c, sc3.1 a (by omega) (by omega) (by omega), upA_n c, sc1.1 a (by omega) (by omega) (by omega)]
      · rw [upA_n (by decide), sc3.2 j (by omega) (by omega), upA_n (by decide), sc1.2 j (by omega) (by omega)]
    · refine w_if_ne (pc' := 18) k170_15 rfl (fun c_15 => absurd c_15 (by decide)) (fun _ => ?_)
      refine w_c1 (pc' := 19) k170_18 rfl ?_
      exact w_reti k170_19 ⟨by unfold partS; rw [if_pos q_2, joinS_ext (op := opC A (-4)) (op' := opC A l) (by omega) (by omega) (fun x hx => by unfold opC; by_cases c : x = l; (subst c; rw [show ev (aAg A x) = false by simpa using q_12, Bool.and_false, Bool.and_false]); (rw [show decide (x ≠ -4) = true from decide_eq_true (by omega), show decide (x ≠ l) = true from decide_eq_true c])), Int.sub_self], _, rfl, fun _ _ => rfl, fun _ _ => rfl⟩
  · refine w_if_ne (pc' := 8) k170_5 rfl (fun c_5 => absurd c_5 (by decide)) (fun _ => ?_)
    refine w_c1 (pc' := 9) k170_8 rfl ?_
    exact w_reti k170_9 ⟨by unfold partS; rw [if_neg q_2], _, rfl, fun _ _ => rfl, fun _ _ => rfl⟩
theorem m171l (hF : MF sh R I K H E HO S L B A) : ∀ (k m : Nat) (i : Int) (I1 : Nat → Int → Int), m + k = 108 → i = (m : Int) → (∀ a, a ≠ 71 → a ≠ 72 → I1 a = I a) → (∀ l : Int, 0 ≤ l → l < (m : Int) → I1 71 l = 0 ∧ I1 72 l = 0) → WP X (d + 1) 171 2 [.inr (some 57), .inl i] [] (sh, R, I1) 0 0 (fun _ h' => ∃ I', h' = (sh, R, I') ∧ (∀ a, a ≠ 71 → a ≠ 72 → I' a = I a) ∧ (∀ l, 0 ≤ l → l < 108 → I' 71 l = 0 ∧ I' 72 l = 0)) := by
  have hF0 := hF
  obtain ⟨hM, hK, hpo, hha, hms, hab, hB⟩ := hF
  have hr := hK.r
  intro k
  induction k with
  | zero =>
    rintro m i I1 hk rfl h1 h2
    refine w_iload (pc' := 3) k171_2 rfl rfl ?_
    refine w_c2 (pc' := 5) k171_3 rfl ?_
    refine w_ic_ge (pc' := 8) k171_5 rfl (fun c_5 => ?_) (fun c_5 => absurd c_5 (by omega))
    exact w_retv k171_28 ⟨_, rfl, h1, fun l q1 q2 => h2 l q1 (by omega)⟩
  | succ k ih =>
    rintro m i I1 hk rfl h1 h2
    refine w_iload (pc' := 3) k171_2 rfl rfl ?_
    refine w_c2 (pc' := 5) k171_3 rfl ?_
    refine w_ic_ge (pc' := 8) k171_5 rfl (fun c_5 => absurd c_5 (by omega)) (fun c_5 => ?_)
    refine w_aload (pc' := 9) k171_8 rfl rfl ?_
    refine w_getR (pc' := 12) (v := 71) k171_9 rfl (hM.1 57 (11, 30) rfl) (hM.2 57 22 71 rfl) ?_
    refine w_iload (pc' := 13) k171_12 rfl rfl ?_
    refine w_c1 (pc' := 14) k171_13 rfl ?_
    refine w_iast (pc' := 15) k171_14 rfl (hM.1 71 (0, 108) rfl) (by omega) ?_
    refine w_aload (pc' := 16) k171_15 rfl rfl ?_
    refine w_getR (pc' := 19) (v := 72) k171_16 rfl (hM.1 57 (11, 30) rfl) (hM.2 57 23 72 rfl) ?_
    refine w_iload (pc' := 20) k171_19 rfl rfl ?_
    refine w_c1 (pc' := 21) k171_20 rfl ?_
    refine w_iast (pc' := 22) k171_21 rfl (hM.1 72 (0, 108) rfl) (by omega) ?_
    refine w_iinc (pc' := 25) (ls' := [_, _]) k171_22 rfl rfl (by omega) rfl ?_
    refine w_goto k171_25 ?_
    refine ih (m + 1) _ _ (by omega) (by omega) (fun a q1 q2 => by rw [upA_n q2, upA_n q1, h1 a q1 q2]) (fun l q1 q2 => ?_)
    rw [upA_s, upA_n (show (71 : Nat) ≠ 72 by decide), upA_s, upA_n (show (72 : Nat) ≠ 71 by decide)]
    by_cases c : l = m
    · subst c; rw [upF_s, upF_s]; exact ⟨rfl, rfl⟩
    · rw [upF_n c, upF_n c]; exact h2 l q1 (by omega)
theorem m171 (hF : MF sh R I K H E HO S L B A)  : WPM X (d + 1) 171 [.inr (some 57)] (sh, R, I) 0 0 (fun _ h' => ∃ I', h' = (sh, R, I') ∧ (∀ a, a ≠ 71 → a ≠ 72 → I' a = I a) ∧ (∀ l, 0 ≤ l → l < 108 → I' 71 l = 0 ∧ I' 72 l = 0)) := by
  have hF0 := hF
  obtain ⟨hM, hK, hpo, hha, hms, hab, hB⟩ := hF
  have hr := hK.r
  show WP X (d + 1) 171 0 [.inr (some 57), .inr none] [] (sh, R, I) 0 0 _
  refine w_c1 (pc' := 1) k171_0 rfl ?_
  refine w_istore (pc' := 2) (ls' := [_, _]) k171_1 rfl rfl rfl ?_
  exact m171l hF0 108 0 _ _ (by omega) rfl (fun _ _ _ => rfl) (fun l q1 q2 => absurd q1 (by omega))
theorem m172l (hF : MF sh R I K H E HO S L B A) {n b ss by_ : Int} (hn : 0 ≤ n ∧ n < E) (hb : 0 ≤ b ∧ b < HO) (hby : 0 ≤ by_ ∧ by_ ≤ 99) (j18 : I 57 18 = pV H E A n b ss) (j70 : ∀ k : Nat, k + 1 < pV H E A n b ss → I 70 k = if pL H E A n b ss k / H = pN H E A n b ss k then pL H E A n b ss k else -1 - pL H E A n b ss k) (hU : ∀ l, 0 ≤ l → l < 108 → (0 ≤ I 71 l ∧ I 71 l ≤ 1000000) ∧ (0 ≤ I 72 l ∧ I 72 l ≤ 1000000)) {N : Nat} (hN : pV H E A n b ss = N + 1) : ∀ (k t : Nat) (i : Int) (I1 : Nat → Int → Int), t + k = N → i = (t : Int) → ((∀ a, a ≠ 71 → a ≠ 72 → I1 a = I a) ∧ (∀ l, 0 ≤ l → l < 108 → I1 71 l = I 71 l + by_ * cnt (uP H E A n b ss l) t ∧ I1 72 l = I 72 l + by_ * cnt (dP H E A n b ss l) t)) → WP X (d + 1) 172 2 [.inr (some 57), .inl by_, .inl i] [] (sh, R, I1) 0 0 (fun _ h' => ∃ I', h' = (sh, R, I') ∧ (∀ a, a ≠ 71 → a ≠ 72 → I' a = I a) ∧ (∀ l, 0 ≤ l → l < 108 → I' 71 l = I 71 l + by_ * uC H E A n b ss l ∧ I' 72 l = I 72 l + by_ * dC H E A n b ss l)) := by
  have hF0 := hF
  obtain ⟨hM, hK, hpo, hha, hms, hab, hB⟩ := hF
  have hr := hK.r
  have hv5 := pV_r (H := H) (E := E) (A := A) (n := n) (b := b) (s := ss)
  intro k
  induction k with
  | zero =>
    rintro t i I1 hk rfl h1
    have e : t = N := by omega
    subst e
    have g18 : I1 57 18 = (t : Int) + 1 := by rw [h1.1 57 (by decide) (by decide), j18, hN]; rfl
    refine w_iload (pc' := 3) k172_2 rfl rfl ?_
    refine w_aload (pc' := 4) k172_3 rfl rfl ?_
    refine w_getI (pc' := 7) (ki := 18) (v := (t : Int) + 1) k172_4 rfl (hM.1 57 (11, 30) rfl) rfl g18 ?_
    refine w_c1 (pc' := 8) k172_7 rfl ?_
    refine w_isub (pc' := 9) k172_8 rfl (by omega) ?_
    refine w_ic_ge (pc' := 12) k172_9 rfl (fun c_9 => ?_) (fun c_9 => absurd c_9 (by omega))
    exact w_retv k172_62 ⟨_, rfl, h1.1, fun l q1 q2 => by unfold uC dC; rw [hN]; exact h1.2 l q1 q2⟩
  | succ k ih =>
    rintro t i I1 hk rfl h1
    have g18 : I1 57 18 = (N : Int) + 1 := by rw [h1.1 57 (by decide) (by decide), j18, hN]; rfl
    have ht : t + 1 < pV H E A n b ss := by omega
    have h70 := j70 t ht
    have hrg : ∀ j, j < t → 0 ≤ pL H E A n b ss j := fun j hj => pV_go (by omega)
    have hpn := pN_range (A := A) (s := ss) hK (n := n) (b := b) ⟨hn.1, by omega⟩ hb t hrg
    have hp0 := pV_go ht
    have hpl : 0 ≤ pL H E A n b ss t ∧ pL H E A n b ss t < L := by
      rcases nl_range (A := A) (s := ss) hK hpn hb with q | q
      · have h9 : pL H E A n b ss t = nl H E A (pN H E A n b ss t) b ss := rfl
        omega
      · exact q
    have hcu : ∀ l, 0 ≤ by_ * cnt (uP H E A n b ss l) t ∧ by_ * cnt (uP H E A n b ss l) t ≤ 495 := by
      intro l
      have := cnt_le (uP H E A n b ss l) t
      have h8 : by_ * cnt (uP H E A n b ss l) t ≤ by_ * 5 := Int.mul_le_mul_of_nonneg_left (by omega) hby.1
      exact ⟨Int.mul_nonneg hby.1 this.1, by omega⟩
    have hcd : ∀ l, 0 ≤ by_ * cnt (dP H E A n b ss l) t ∧ by_ * cnt (dP H E A n b ss l) t ≤ 495 := by
      intro l
      have := cnt_le (dP H E A n b ss l) t
      have h8 : by_ * cnt (dP H E A n b ss l) t ≤ by_ * 5 := Int.mul_le_mul_of_nonneg_left (by omega) hby.1
      exact ⟨Int.mul_nonneg hby.1 this.1, by omega⟩
    have hsu := h1.2 (pL H E A n b ss t) hpl.1 (by omega)
    have hbu := hU (pL H E A n b ss t) hpl.1 (by omega)
    have hcu1 := hcu (pL H E A n b ss t)
    have hcd1 := hcd (pL H E A n b ss t)
    have h70' : I1 70 t = if pL H E A n b ss t / H = pN H E A n b ss t then pL H E A n b ss t else -1 - pL H E A n b ss t := by rw [h1.1 70 (by decide) (by decide), h70]
    have hus : ∀ l, cnt (uP H E A n b ss l) (t + 1) = cnt (uP H E A n b ss l) t + if pL H E A n b ss t = l ∧ pL H E A n b ss t / H = pN H E A n b ss t then 1 else 0 := by
      intro l
      rw [cnt_s]
      unfold uP
      simp only [Int.toNat_natCast, Bool.and_eq_true, decide_eq_true_iff]
      congr 1
      by_cases c : pL H E A n b ss t = l
      · rw [c]
      · rw [if_neg (fun z => c z.1), if_neg (fun z => c z.1)]
    have hds : ∀ l, cnt (dP H E A n b ss l) (t + 1) = cnt (dP H E A n b ss l) t + if pL H E A n b ss t = l ∧ ¬ pL H E A n b ss t / H = pN H E A n b ss t then 1 else 0 := by
      intro l
      rw [cnt_s]
      unfold dP
      simp only [Int.toNat_natCast, Bool.and_eq_true, Bool.not_eq_true', decide_eq_true_iff, decide_eq_false_iff_not]
      congr 1
      by_cases c : pL H E A n b ss t = l
      · rw [c]
      · rw [if_neg (fun z => c z.1), if_neg (fun z => c z.1)]
    by_cases up : pL H E A n b ss t / H = pN H E A n b ss t
    · rw [if_pos up] at h70'
      refine w_iload (pc' := 3) k172_2 rfl rfl ?_
      refine w_aload (pc' := 4) k172_3 rfl rfl ?_
      refine w_getI (pc' := 7) (ki := 18) (v := (N : Int) + 1) k172_4 rfl (hM.1 57 (11, 30) rfl) rfl g18 ?_
      refine w_c1 (pc' := 8) k172_7 rfl ?_
      refine w_isub (pc' := 9) k172_8 rfl (by omega) ?_
      refine w_ic_ge (pc' := 12) k172_9 rfl (fun c_9 => absurd c_9 (by omega)) (fun c_9 => ?_)
      refine w_aload (pc' := 13) k172_12 rfl rfl ?_
      refine w_getR (pc' := 16) (v := 70) k172_13 rfl (hM.1 57 (11, 30) rfl) (hM.2 57 20 70 rfl) ?_
      refine w_iload (pc' := 17) k172_16 rfl rfl ?_
      refine w_iald (pc' := 18) (v := pL H E A n b ss t) k172_17 rfl (hM.1 70 (0, 6) rfl) (by omega) h70' ?_
      refine w_if_lt (pc' := 21) k172_18 rfl (fun c_18 => absurd c_18 (by omega)) (fun c_18 => ?_)
      refine w_aload (pc' := 22) k172_21 rfl rfl ?_
      refine w_getR (pc' := 25) (v := 71) k172_22 rfl (hM.1 57 (11, 30) rfl) (hM.2 57 22 71 rfl) ?_
      refine w_aload (pc' := 26) k172_25 rfl rfl ?_
      refine w_getR (pc' := 29) (v := 70) k172_26 rfl (hM.1 57 (11, 30) rfl) (hM.2 57 20 70 rfl) ?_
      refine w_iload (pc' := 30) k172_29 rfl rfl ?_
      refine w_iald (pc' := 31) (v := pL H E A n b ss t) k172_30 rfl (hM.1 70 (0, 6) rfl) (by omega) h70' ?_
      refine w_dup2 (pc' := 32) k172_31 rfl ?_
      refine w_iald (pc' := 33) k172_32 rfl (hM.1 71 (0, 108) rfl) (by omega) rfl ?_
      refine w_iload (pc' := 34) k172_33 rfl rfl ?_
      refine w_iadd (pc' := 35) k172_34 rfl (by omega) ?_
      refine w_iast (pc' := 36) k172_35 rfl (hM.1 71 (0, 108) rfl) (by omega) ?_
      refine w_goto k172_36 ?_
      refine w_iinc (pc' := 59) (ls' := [_, _, _]) k172_56 rfl rfl (by omega) rfl ?_
      refine w_goto k172_59 ?_
      refine ih (t + 1) _ _ (by omega) (by omega) ⟨fun a q1 q2 => by rw [upA_n q1, h1.1 a q1 q2], fun l q1 q2 => ?_⟩
      have h9 := h1.2 l q1 q2
      rw [upA_s, upA_n (show (72 : Nat) ≠ 71 by decide), hus, hds, if_neg (c := pL H E A n b ss t = l ∧ ¬ pL H E A n b ss t / H = pN H E A n b ss t) (fun z => z.2 up), Int.add_zero]
      by_cases c : l = pL H E A n b ss t
      · subst c
        rw [upF_s, if_pos ⟨rfl, up⟩, Int.mul_add, Int.mul_one]
        omega
      · rw [upF_n c, if_neg (fun z => c z.1.symm), Int.add_zero]
        exact h9
    · rw [if_neg up] at h70'
      refine w_iload (pc' := 3) k172_2 rfl rfl ?_
      refine w_aload (pc' := 4) k172_3 rfl rfl ?_
      refine w_getI (pc' := 7) (ki := 18) (v := (N : Int) + 1) k172_4 rfl (hM.1 57 (11, 30) rfl) rfl g18 ?_
      refine w_c1 (pc' := 8) k172_7 rfl ?_
      refine w_isub (pc' := 9) k172_8 rfl (by omega) ?_
      refine w_ic_ge (pc' := 12) k172_9 rfl (fun c_9 => absurd c_9 (by omega)) (fun c_9 => ?_)
      refine w_aload (pc' := 13) k172_12 rfl rfl ?_
      refine w_getR (pc' := 16) (v := 70) k172_13 rfl (hM.1 57 (11, 30) rfl) (hM.2 57 20 70 rfl) ?_
      refine w_iload (pc' := 17) k172_16 rfl rfl ?_
      refine w_iald (pc' := 18) (v := -1 - pL H E A n b ss t) k172_17 rfl (hM.1 70 (0, 6) rfl) (by omega) h70' ?_
      refine w_if_lt (pc' := 21) k172_18 rfl (fun c_18 => ?_) (fun c_18 => absurd c_18 (by omega))
      refine w_aload (pc' := 40) k172_39 rfl rfl ?_
      refine w_getR (pc' := 43) (v := 72) k172_40 rfl (hM.1 57 (11, 30) rfl) (hM.2 57 23 72 rfl) ?_
      refine w_c1 (pc' := 44) k172_43 rfl ?_
      refine w_aload (pc' := 45) k172_44 rfl rfl ?_
      refine w_getR (pc' := 48) (v := 70) k172_45 rfl (hM.1 57 (11, 30) rfl) (hM.2 57 20 70 rfl) ?_
      refine w_iload (pc' := 49) k172_48 rfl rfl ?_
      refine w_iald (pc' := 50) (v := -1 - pL H E A n b ss t) k172_49 rfl (hM.1 70 (0, 6) rfl) (by omega) h70' ?_
      refine w_isub (pc' := 51) k172_50 rfl (by omega) ?_
      rw [show (-1 : Int) - (-1 - pL H E A n b ss t) = pL H E A n b ss t by omega]
      refine w_dup2 (pc' := 52) k172_51 rfl ?_
      refine w_iald (pc' := 53) k172_52 rfl (hM.1 72 (0, 108) rfl) (by omega) rfl ?_
      refine w_iload (pc' := 54) k172_53 rfl rfl ?_
      refine w_iadd (pc' := 55) k172_54 rfl (by omega) ?_
      refine w_iast (pc' := 56) k172_55 rfl (hM.1 72 (0, 108) rfl) (by omega) ?_
      refine w_iinc (pc' := 59) (ls' := [_, _, _]) k172_56 rfl rfl (by omega) rfl ?_
      refine w_goto k172_59 ?_
      refine ih (t + 1) _ _ (by omega) (by omega) ⟨fun a q1 q2 => by rw [upA_n q2, h1.1 a q1 q2], fun l q1 q2 => ?_⟩
      have h9 := h1.2 l q1 q2
      rw [upA_s, upA_n (show (71 : Nat) ≠ 72 by decide), hus, hds, if_neg (c := pL H E A n b ss t = l ∧ pL H E A n b ss t / H = pN H E A n b ss t) (fun z => up z.2), Int.add_zero]
      by_cases c : l = pL H E A n b ss t
      · subst c
        rw [upF_s, if_pos ⟨rfl, up⟩, Int.mul_add, Int.mul_one]
        omega
      · rw [upF_n c, if_neg (fun z => c z.1.symm), Int.add_zero]
        exact h9
theorem m172 (hF : MF sh R I K H E HO S L B A) {n b ss by_ : Int} (hn : 0 ≤ n ∧ n < E) (hb : 0 ≤ b ∧ b < HO) (hby : 0 ≤ by_ ∧ by_ ≤ 99) (j18 : I 57 18 = pV H E A n b ss) (j70 : ∀ k : Nat, k + 1 < pV H E A n b ss → I 70 k = if pL H E A n b ss k / H = pN H E A n b ss k then pL H E A n b ss k else -1 - pL H E A n b ss k) (hU : ∀ l, 0 ≤ l → l < 108 → (0 ≤ I 71 l ∧ I 71 l ≤ 1000000) ∧ (0 ≤ I 72 l ∧ I 72 l ≤ 1000000)) : WPM X (d + 1) 172 [.inr (some 57), .inl by_] (sh, R, I) 0 0 (fun _ h' => ∃ I', h' = (sh, R, I') ∧ (∀ a, a ≠ 71 → a ≠ 72 → I' a = I a) ∧ (∀ l, 0 ≤ l → l < 108 → I' 71 l = I 71 l + by_ * uC H E A n b ss l ∧ I' 72 l = I 72 l + by_ * dC H E A n b ss l)) := by
  have hF0 := hF
  obtain ⟨hM, hK, hpo, hha, hms, hab, hB⟩ := hF
  have hr := hK.r
  show WP X (d + 1) 172 0 [.inr (some 57), .inl by_, .inr none] [] (sh, R, I) 0 0 _
  refine w_c1 (pc' := 1) k172_0 rfl ?_
  refine w_istore (pc' := 2) (ls' := [_, _, _]) k172_1 rfl rfl rfl ?_
  have hv5 := pV_r (H := H) (E := E) (A := A) (n := n) (b := b) (s := ss)
  refine m172l hF0 hn hb hby j18 j70 hU (N := pV H E A n b ss - 1) (by omega) (pV H E A n b ss - 1) 0 _ _ (by omega) rfl ⟨fun _ _ _ => rfl, fun l _ _ => ?_⟩
  rw [show cnt (uP H E A n b ss l) 0 = 0 from rfl, show cnt (dP H E A n b ss l) 0 = 0 from rfl, Int.mul_zero, Int.add_zero, Int.add_zero]
  exact ⟨rfl, rfl⟩
end M75
