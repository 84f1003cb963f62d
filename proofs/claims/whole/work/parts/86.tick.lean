/-! ===== REFERENCE: tick ===== -/
section M86
variable {X : Nat × (Int → Int)} {d : Nat} {sh : List (Nat × Nat)} {R : Nat → Nat → Option Nat} {I : Nat → Int → Int} {K H E HO S L B : Int} {A : AS}
variable {A1 A2 : AS} {u : Int} {tx : Int → Int} {len : Int}
theorem MG.k61 {I' : Nat → Int → Int} {z : ZZ} (h : MG sh R I K H E HO S L B z tx len) (e : ∀ a, a ≠ 61 → I' a = I a) : MG sh R I' K H E HO S L B z tx len := ⟨h.1.keep (fun a q => e a (by omega)) (fun j q => by rw [e 57 (by decide)]), by rw [e 57 (by decide)]; exact h.2.1, h.2.2.1.keep (fun a q1 q2 => e a (by omega)), h.2.2.2.keep (by rw [e 57 (by decide)]) (e 58 (by decide))⟩
theorem MF.tick0 (hF : MF sh R I K H E HO S L B A) (h : spV H E S L A = 0) (t : Nat) : MF sh R I K H E HO S L B (tickA H E L A t) := by
  obtain ⟨hM, hK, hpo, hha, hms, hab, hB⟩ := hF
  exact ⟨hM, hK, hpo, hha, ⟨hms.1, hms.2.1, fun n l q1 q2 q3 q4 => by rw [spV_0 hK h t ⟨q1, q2⟩ ⟨q3, q4⟩]; exact hms.2.2.1 n l q1 q2 q3 q4, hms.2.2.2⟩, tick_AB hK hab, hB⟩
theorem k155 (hM : LM sh R) {Q : VV → Hp → Prop} {v1 v2 v3 v4 : VV} (C : ∀ v5 : VV, WP X (d + 4) 155 76 [.inr (some 57), v1, v2, v3, v4, v5] [] (sh, R, upA I 60 (cqF (I 60) (I 61) 0 0 4860)) 0 0 Q) : ∀ (k m : Nat) (i : Int) (I1 : Nat → Int → Int), m + k = 4860 → i = (m : Int) → I1 = upA I 60 (cqF (I 60) (I 61) 0 0 m) → WP X (d + 4) 155 48 [.inr (some 57), v1, v2, v3, v4, .inl i] [] (sh, R, I1) 0 0 Q := by
  intro k
  induction k with
  | zero =>
    rintro m i I1 hk rfl rfl
    have e : m = 4860 := by omega
    subst e
    refine w_iload (pc' := 50) k155_48 rfl rfl ?_
    refine w_c3 (pc' := 53) k155_50 rfl ?_
    refine w_ic_ge (pc' := 56) k155_53 rfl (fun c_53 => ?_) (fun c_53 => absurd c_53 (by omega))
    exact C _
  | succ k ih =>
    rintro m i I1 hk rfl e
    refine w_iload (pc' := 50) k155_48 rfl rfl ?_
    refine w_c3 (pc' := 53) k155_50 rfl ?_
    refine w_ic_ge (pc' := 56) k155_53 rfl (fun c_53 => absurd c_53 (by omega)) (fun c_53 => ?_)
    refine w_aload (pc' := 57) k155_56 rfl rfl ?_
    refine w_getR (pc' := 60) (v := 60) k155_57 rfl (hM.1 57 (11, 30) rfl) (hM.2 57 5 60 rfl) ?_
    refine w_iload (pc' := 62) k155_60 rfl rfl ?_
    refine w_aload (pc' := 63) k155_62 rfl rfl ?_
    refine w_getR (pc' := 66) (v := 61) k155_63 rfl (hM.1 57 (11, 30) rfl) (hM.2 57 6 61 rfl) ?_
    refine w_iload (pc' := 68) k155_66 rfl rfl ?_
    refine w_iald (pc' := 69) (v := I 61 (0 + (m : Int))) k155_68 rfl (hM.1 61 (0, 4860) rfl) (by omega) (by rw [e, upA_n (by decide), Int.zero_add]) ?_
    refine w_iast (pc' := 70) k155_69 rfl (hM.1 60 (0, 4860) rfl) (by omega) ?_
    refine w_iinc (pc' := 73) (ls' := [_, _, _, _, _, _]) k155_70 rfl rfl (by omega) rfl ?_
    refine w_goto k155_73 ?_
    exact ih (m + 1) _ _ (by omega) (by omega) (by rw [e, upA_s, upA_uu, cqF_s (by omega) rfl])
theorem m155l (hF : MF sh R I K H E HO S L B A) {v2 : VV} {t : Nat} (ht : t ≤ 9) : ∀ (k m : Nat) (c i : Int) (v5 : VV) (I1 : Nat → Int → Int), m + k = t → i = (m : Int) → c = sumN (fun s => spV H E S L (tickA H E L A s.toNat)) m → (∀ a, a ≠ 60 → a ≠ 61 → I1 a = I a) → MF sh R I1 K H E HO S L B (tickA H E L A m) → WP X (d + 4) 155 32 [.inr (some 57), .inl (t : Int), v2, .inl c, .inl i, v5] [] (sh, R, I1) 0 0 (fun r h' => r = .inl (tickS H E S L A t) ∧ ∃ I', h' = (sh, R, I') ∧ (∀ a, a ≠ 60 → a ≠ 61 → I' a = I a) ∧ MF sh R I' K H E HO S L B (tickA H E L A t)) := by
  have hF0 := hF
  obtain ⟨hM, hK, hpo, hha, hms, hab, hB⟩ := hF
  have hr := hK.r
  intro k
  induction k with
  | zero =>
    rintro m c i v5 I1 hk rfl hc h1 h2
    have e : m = t := by omega
    subst e
    refine w_iload (pc' := 34) k155_32 rfl rfl ?_
    refine w_iload (pc' := 35) k155_34 rfl rfl ?_
    refine w_ic_ge (pc' := 38) k155_35 rfl (fun c_35 => ?_) (fun c_35 => absurd c_35 (by omega))
    refine w_iload (pc' := 83) k155_82 rfl rfl ?_
    exact w_reti k155_83 ⟨by rw [hc, spV_s], _, rfl, h1, h2⟩
  | succ k ih =>
    rintro m c i v5 I1 hk rfl hc h1 h2
    have hsp := spV_le (H := H) (E := E) (S := S) (L := L) (A := tickA H E L A m) (by omega) (by omega)
    have hcl := sumN_le (f := fun s => spV H E S L (tickA H E L A s.toNat)) (C := 4860) m (fun i _ => spV_le (by omega) (by omega))
    refine w_iload (pc' := 34) k155_32 rfl rfl ?_
    refine w_iload (pc' := 35) k155_34 rfl rfl ?_
    refine w_ic_ge (pc' := 38) k155_35 rfl (fun c_35 => absurd c_35 (by omega)) (fun c_35 => ?_)
    refine w_iload (pc' := 39) k155_38 rfl rfl ?_
    refine w_aload (pc' := 40) k155_39 rfl rfl ?_
    refine w_callI (pc' := 43) (as := [.inr (some 57)]) k155_40 rfl rfl (co_v rfl rfl (hM.1 57 (11, 30) rfl)) (by decide) (m154 h2) (fun z_40 h_40 hq => ?_)
    obtain ⟨I_2, e9, rfl, s1, s2⟩ := hq
    obtain rfl : z_40 = spV H E S L (tickA H E L A m) := Sum.inl.inj e9
    refine w_iadd (pc' := 44) k155_43 rfl (by omega) ?_
    refine w_istore (pc' := 45) (ls' := [_, _, _, _, _, _]) k155_44 rfl rfl rfl ?_
    refine w_c1 (pc' := 46) k155_45 rfl ?_
    refine w_istore (pc' := 48) (ls' := [_, _, _, _, _, _]) k155_46 rfl rfl rfl ?_
    refine k155 hM (fun v5 => ?_) 4860 0 _ _ (by omega) rfl (by rw [cqF_0, upA_id])
    refine w_iinc (pc' := 79) (ls' := [_, _, _, _, _, _]) k155_76 rfl rfl (by omega) rfl ?_
    refine w_goto k155_79 ?_
    refine ih (m + 1) _ _ _ _ (by omega) (by omega) (by rw [sumN, Int.toNat_natCast, ← hc]) (fun a q1 q2 => by rw [upA_n q1, s1 a q2, h1 a q1 q2]) ?_
    refine ⟨hM, hK, by rw [upA_n (by decide), s1 57 (by decide)]; exact h2.2.2.1, by rw [upA_n (by decide), s1 57 (by decide)]; exact h2.2.2.2.1, ⟨by rw [upA_n (by decide), s1 57 (by decide)]; exact h2.2.2.2.2.1.1, fun l q1 q2 => by rw [upA_n (by decide), s1 59 (by decide)]; exact h2.2.2.2.2.1.2.1 l q1 q2, fun n l q1 q2 q3 q4 => ?_, fun f q1 q2 => by rw [upA_n (by decide), s1 62 (by decide)]; exact h2.2.2.2.2.1.2.2.2 f q1 q2⟩, tick_AB hK hab, hB⟩
    rw [upA_s, ← Int.zero_add (108 * n + l), cqF_in ⟨by omega, by omega⟩, Int.zero_add, s2 n l q1 q2 q3 q4]
    rfl
theorem m155 (hG : MG sh R I K H E HO S L B (A, A1, A2, u) tx len) (hB1 : B + 2 ≤ 1000000) {t : Int} : QN X (d + 4) 155 [.inr (some 57), .inl t] sh R I K H E HO S L (B + 1) (if 1 ≤ t ∧ t ≤ 9 then tickS H E S L A t.toNat else -1) (if 1 ≤ t ∧ t ≤ 9 then tickZ H E S L (A, A1, A2, u) t.toNat else (A, A1, A2, u)) tx len := by
  have hG0 := hG
  obtain ⟨hF, h9, hW, hT⟩ := hG
  have hF : MF sh R I K H E HO S L B A := hF
  have hF0 := hF
  obtain ⟨hM, hK, hpo, hha, hms, hab, hB⟩ := hF
  have hr := hK.r
  have h9' : I 57 9 = u := h9
  have hsp := spV_le (H := H) (E := E) (S := S) (L := L) (A := A) (by omega) (by omega)
  show WP X (d + 4) 155 0 [.inr (some 57), .inl t, .inr none, .inr none, .inr none, .inr none] [] (sh, R, I) 0 0 _
  refine w_iload (pc' := 1) k155_0 rfl rfl ?_
  refine w_c1 (pc' := 2) k155_1 rfl ?_
  refine w_c2 (pc' := 4) k155_2 rfl ?_
  refine w_callB (pc' := 7) (as := [.inl _, .inl _, .inl _]) k155_4 rfl rfl (co_s (Or.inl rfl) rfl rfl rfl) (by decide) (m117) (fun q_4 => ?_) (fun q_4 => ?_)
  · refine w_if_ne (pc' := 10) k155_7 rfl (fun _ => ?_) (fun c_7 => absurd c_7 (by decide))
    refine w_aload (pc' := 13) k155_12 rfl rfl ?_
    refine w_callI (pc' := 16) (as := [.inr (some 57)]) k155_13 rfl rfl (co_v rfl rfl (hM.1 57 (11, 30) rfl)) (by decide) (m154 hF0) (fun z_13 h_13 hq => ?_)
    obtain ⟨I_1, e9, rfl, s1, s2⟩ := hq
    obtain rfl : z_13 = spV H E S L A := Sum.inl.inj e9
    refine w_istore (pc' := 17) (ls' := [_, _, _, _, _, _]) k155_16 rfl rfl rfl ?_
    refine w_iload (pc' := 18) k155_17 rfl rfl ?_
    refine w_if_ne (pc' := 21) k155_18 rfl (fun c_18 => ?_) (fun c_18 => ?_)
    · refine w_aload (pc' := 24) k155_23 rfl rfl ?_
      refine w_callV (pc' := 27) (as := [.inr (some 57)]) k155_24 rfl rfl (co_v rfl rfl (hM.1 57 (11, 30) rfl)) (by decide) (m147 hM (show I_1 57 9 = u by rw [s1 57 (by decide)]; exact h9) hW.1) (fun r_24 h_24 hq => ?_)
      obtain ⟨I_3, rfl, kp⟩ := hq
      have g := hG0.k61 s1
      refine w_c1 (pc' := 28) k155_27 rfl ?_
      refine w_istore (pc' := 29) (ls' := [_, _, _, _, _, _]) k155_28 rfl rfl rfl ?_
      refine w_c1 (pc' := 30) k155_29 rfl ?_
      refine w_istore (pc' := 32) (ls' := [_, _, _, _, _, _]) k155_30 rfl rfl rfl ?_
      have hp := tickS_p (H := H) (E := E) (A := A) (show 0 < spV H E S L A by omega) (by omega) (by omega) (t := t.toNat) (by omega)
      have hz2 : tickZ H E S L (A, A1, A2, u) t.toNat = pushZ (A, A1, A2, u) (tickA H E L A t.toNat) := by unfold tickZ; exact if_pos hp
      rw [if_pos q_4, if_pos q_4, hz2]
      have ht : t = (t.toNat : Int) := by omega
      refine WP.mono (Q := fun r h' => r = .inl (tickS H E S L A t.toNat) ∧ ∃ I', h' = (sh, R, I') ∧ (∀ a, a ≠ 60 → a ≠ 61 → I' a = I_3 a) ∧ MF sh R I' K H E HO S L B (tickA H E L A t.toNat)) ?_ ?_
      · rw [ht]
        rw [Int.toNat_natCast]
        exact m155l (kp.mf g.1) (t := t.toNat) (by omega) t.toNat 0 _ _ _ _ (by omega) rfl rfl (fun _ _ _ => rfl) (kp.mf g.1)
      · rintro r h' ⟨rfl, I', rfl, w1, w2⟩
        exact ⟨rfl, _, rfl, fun a q => by rw [w1 a (by omega) (by omega), kp.1 a (by omega) (by omega), s1 a (by omega)], g.push kp (show B ≤ B + 1 by omega) (w2.mono (by omega) (by omega)) (fun a q => w1 a (by omega) (by omega)) (fun j q => by rw [w1 57 (by decide) (by decide)])⟩
    · refine w_c1 (pc' := 22) k155_21 rfl ?_
      have hz := tickS_0 hK c_18 t.toNat
      have hz2 : tickZ H E S L (A, A1, A2, u) t.toNat = (tickA H E L A t.toNat, A1, A2, u) := by unfold tickZ; exact if_neg (show ¬ 0 < tickS H E S L A t.toNat by omega)
      refine w_reti k155_22 ⟨by rw [if_pos q_4, hz], _, rfl, fun a q => s1 a (by omega), ?_⟩
      rw [if_pos q_4, hz2]
      have g := hG0.k61 s1
      exact ⟨(MF.tick0 (show MF sh R I_1 K H E HO S L B A from g.1) c_18 _).mono (by omega) (by omega), g.2.1, g.2.2.1.mono (by omega), g.2.2.2⟩
  · refine w_if_ne (pc' := 10) k155_7 rfl (fun c_7 => absurd c_7 (by decide)) (fun _ => ?_)
    refine w_c1 (pc' := 11) k155_10 rfl ?_
    exact w_reti k155_11 ⟨by rw [if_neg q_4], _, rfl, fun _ _ => rfl, by rw [if_neg q_4]; exact hG0.mono (by omega) (by omega)⟩
end M86
