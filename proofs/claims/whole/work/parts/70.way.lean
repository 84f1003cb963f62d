/-! ===== REFERENCE: way, arrives ===== -/
section M70
variable {X : Nat × (Int → Int)} {d : Nat} {sh : List (Nat × Nat)} {R : Nat → Nat → Option Nat} {I : Nat → Int → Int} {K H E HO S L B : Int} {A : AS}
theorem m163 (hF : MF sh R I K H E HO S L B A) {a b ss : Int} (ha : 0 ≤ a ∧ a < HO) (hb : 0 ≤ b ∧ b < HO) (hss : 0 ≤ ss ∧ ss < H * H) : WPM X (d + 5) 163 [.inr (some 57), .inl a, .inl b, .inl ss] (sh, R, I) 0 0 (fun _ h' => ∃ I', h' = (sh, R, I') ∧ RS I I' H E A (a / H) b ss) := by
  have hF0 := hF
  obtain ⟨hM, hK, hpo, hha, hms, hab, hB⟩ := hF
  have hr := hK.r
  have hen := edge_r hK ha
  have hR : RT I (upA (upA I 57 (upF (I 57) 18 1)) 69 (upF (upA I 57 (upF (I 57) 18 1) 69) 0 (a / H))) H E A (a / H) b ss 0 := by
    refine ⟨fun a q1 q2 q3 => by rw [upA_n q2, upA_n q1], fun j q1 q2 => by rw [upA_n (by decide), upA_s, upF_n q1], by rw [upA_n (by decide), upA_s, upF_s]; rfl, fun k hk => ?_, fun k hk => absurd hk (by omega), fun k hk => absurd hk (by omega)⟩
    have e : k = 0 := by omega
    subst e
    rw [upA_s]; exact upF_s
  have hF2 := hR.mf hF0
  show WP X (d + 5) 163 0 [.inr (some 57), .inl a, .inl b, .inl ss, .inr none, .inr none, .inr none] [] (sh, R, I) 0 0 _
  refine w_iload (pc' := 1) k163_0 rfl rfl ?_
  refine w_aload (pc' := 2) k163_1 rfl rfl ?_
  refine w_getI (pc' := 5) (ki := 3) (v := H) k163_2 rfl (hM.1 57 (11, 30) rfl) rfl hha ?_
  refine w_idiv (pc' := 6) k163_5 rfl (by omega) ?_
  refine w_istore (pc' := 8) (ls' := [_, _, _, _, _, _, _]) k163_6 rfl rfl rfl ?_
  refine w_aload (pc' := 9) k163_8 rfl rfl ?_
  refine w_c1 (pc' := 10) k163_9 rfl ?_
  refine w_putI (pc' := 13) (ki := 18) k163_10 rfl (hM.1 57 (11, 30) rfl) rfl ?_
  refine w_aload (pc' := 14) k163_13 rfl rfl ?_
  refine w_getR (pc' := 17) (v := 69) k163_14 rfl (hM.1 57 (11, 30) rfl) (hM.2 57 19 69 rfl) ?_
  refine w_c1 (pc' := 18) k163_17 rfl ?_
  refine w_iload (pc' := 20) k163_18 rfl rfl ?_
  refine w_iast (pc' := 21) k163_20 rfl (hM.1 69 (0, 6) rfl) (by omega) ?_
  refine w_aload (pc' := 22) k163_21 rfl rfl ?_
  refine w_iload (pc' := 24) k163_22 rfl rfl ?_
  refine w_iload (pc' := 25) k163_24 rfl rfl ?_
  refine w_iload (pc' := 26) k163_25 rfl rfl ?_
  refine w_callE (pc' := 29) (as := [.inr (some 57), .inl _, .inl _, .inl _]) k163_26 rfl rfl (co_v rfl rfl (hM.1 57 (11, 30) rfl)) (by decide) (m161 hF2 ⟨hen.1, by omega⟩ hb hss) ?_
  refine w_istore (pc' := 31) (ls' := [_, _, _, _, _, _, _]) k163_29 rfl rfl rfl ?_
  exact m163l hF0 hen hb hss 4 0 _ _ _ _ rfl rfl rfl hR
/-- a question of the reference: the answer, what stays of its cells, and none of another's -/
abbrev QM (X : Nat × (Int → Int)) (d y : Nat) (as : List VV) (sh : List (Nat × Nat)) (R : Nat → Nat → Option Nat) (I : Nat → Int → Int) (v : Int) : Prop := WPM X d y as (sh, R, I) 0 0 (fun r h' => r = .inl v ∧ ∃ I', h' = (sh, R, I') ∧ (∀ a, (a < 57 ∨ 77 < a) ∨ (57 < a ∧ a < 67) → I' a = I a) ∧ ∀ j, j < 14 → I' 57 j = I 57 j)
theorem m165 (hF : MF sh R I K H E HO S L B A) {a b t k : Int} : QM X (d + 6) 165 [.inr (some 57), .inl a, .inl b, .inl t, .inl k] sh R I (wayS H E HO A a b t k) := by
  have hF0 := hF
  obtain ⟨hM, hK, hpo, hha, hms, hab, hB⟩ := hF
  have hr := hK.r
  show WP X (d + 6) 165 0 [.inr (some 57), .inl a, .inl b, .inl t, .inl k] [] (sh, R, I) 0 0 _
  refine w_aload (pc' := 1) k165_0 rfl rfl ?_
  refine w_iload (pc' := 2) k165_1 rfl rfl ?_
  refine w_iload (pc' := 3) k165_2 rfl rfl ?_
  refine w_callB (pc' := 6) (as := [.inr (some 57), .inl _, .inl _]) k165_3 rfl rfl (co_v rfl rfl (hM.1 57 (11, 30) rfl)) (by decide) (m164 hF0) (fun q_3 => ?_) (fun q_3 => ?_)
  · refine w_if_eq (pc' := 9) k165_6 rfl (fun c_6 => absurd c_6 (by decide)) (fun _ => ?_)
    refine w_aload (pc' := 10) k165_9 rfl rfl ?_
    refine w_iload (pc' := 11) k165_10 rfl rfl ?_
    refine w_callB (pc' := 14) (as := [.inr (some 57), .inl _]) k165_11 rfl rfl (co_v rfl rfl (hM.1 57 (11, 30) rfl)) (by decide) (m136 hF0) (fun q_11 => ?_) (fun q_11 => ?_)
    · refine w_if_eq (pc' := 17) k165_14 rfl (fun c_14 => absurd c_14 (by decide)) (fun _ => ?_)
      refine w_iload (pc' := 19) k165_17 rfl rfl ?_
      refine w_c1 (pc' := 20) k165_19 rfl ?_
      refine w_ic_ge (pc' := 23) k165_20 rfl (fun c_20 => ?_) (fun c_20 => ?_)
      · refine w_aload (pc' := 26) k165_25 rfl rfl ?_
        refine w_iload (pc' := 27) k165_26 rfl rfl ?_
        refine w_iload (pc' := 28) k165_27 rfl rfl ?_
        refine w_iload (pc' := 29) k165_28 rfl rfl ?_
        refine w_callV (pc' := 32) (as := [.inr (some 57), .inl _, .inl _, .inl _]) k165_29 rfl rfl (co_v rfl rfl (hM.1 57 (11, 30) rfl)) (by decide) (m163 hF0 q_3.1 q_3.2.1 q_11) (fun r_29 h_29 hq => ?_)
        obtain ⟨I_1, rfl, rs⟩ := hq
        have hv5 := pV_r (H := H) (E := E) (A := A) (n := a / H) (b := b) (s := t)
        refine w_iload (pc' := 34) k165_32 rfl rfl ?_
        refine w_if_ge (pc' := 37) k165_34 rfl (fun c_34 => ?_) (fun c_34 => ?_)
        · refine w_iload (pc' := 46) k165_44 rfl rfl ?_
          refine w_aload (pc' := 47) k165_46 rfl rfl ?_
          refine w_getI (pc' := 50) (ki := 18) (v := (pV H E A (a / H) b t : Int)) k165_47 rfl (hM.1 57 (11, 30) rfl) rfl rs.2.2.1 ?_
          refine w_ic_ge (pc' := 53) k165_50 rfl (fun c_50 => ?_) (fun c_50 => ?_)
          · refine w_c2 (pc' := 65) k165_63 rfl ?_
            exact w_reti k165_65 ⟨by unfold wayS wayV; rw [if_pos ⟨q_3, q_11, c_20⟩, if_neg (by omega), if_neg (by omega)], _, rfl, fun a q => rs.1 a (by omega) (by omega) (by omega), fun j q => rs.2.1 j (by omega) (by omega)⟩
          · refine w_aload (pc' := 54) k165_53 rfl rfl ?_
            refine w_getR (pc' := 57) (v := 69) k165_54 rfl (hM.1 57 (11, 30) rfl) (hM.2 57 19 69 rfl) ?_
            refine w_iload (pc' := 59) k165_57 rfl rfl ?_
            refine w_iald (pc' := 60) (v := pN H E A (a / H) b t k.toNat) k165_59 rfl (hM.1 69 (0, 6) rfl) (by first | omega | (rcases hK with ⟨rfl, rfl, rfl, rfl, rfl, rfl⟩ | ⟨rfl, rfl, rfl, rfl, rfl, rfl⟩ | ⟨rfl, rfl, rfl, rfl, rfl, rfl⟩ <;> omega)) (by have := rs.2.2.2.2.1 k.toNat (by omega); rw [show ((k.toNat : Nat) : Int) = k by omega] at this; exact this) ?_
            refine w_goto k165_60 ?_
            exact w_reti k165_65 ⟨by unfold wayS wayV; rw [if_pos ⟨q_3, q_11, c_20⟩, if_neg (by omega), if_pos c_50], _, rfl, fun a q => rs.1 a (by omega) (by omega) (by omega), fun j q => rs.2.1 j (by omega) (by omega)⟩
        · refine w_aload (pc' := 38) k165_37 rfl rfl ?_
          refine w_getI (pc' := 41) (ki := 18) (v := (pV H E A (a / H) b t : Int)) k165_38 rfl (hM.1 57 (11, 30) rfl) rfl rs.2.2.1 ?_
          refine w_goto k165_41 ?_
          exact w_reti k165_65 ⟨by unfold wayS wayV; rw [if_pos ⟨q_3, q_11, c_20⟩, if_pos (by omega)], _, rfl, fun a q => rs.1 a (by omega) (by omega) (by omega), fun j q => rs.2.1 j (by omega) (by omega)⟩
      · refine w_c1 (pc' := 24) k165_23 rfl ?_
        exact w_reti k165_24 ⟨by unfold wayS; rw [if_neg (fun z => by omega)], _, rfl, fun _ _ => rfl, fun _ _ => rfl⟩
    · refine w_if_eq (pc' := 17) k165_14 rfl (fun _ => ?_) (fun c_14 => absurd c_14 (by decide))
      refine w_c1 (pc' := 24) k165_23 rfl ?_
      exact w_reti k165_24 ⟨by unfold wayS; rw [if_neg (fun z => q_11 z.2.1)], _, rfl, fun _ _ => rfl, fun _ _ => rfl⟩
  · refine w_if_eq (pc' := 9) k165_6 rfl (fun _ => ?_) (fun c_6 => absurd c_6 (by decide))
    refine w_c1 (pc' := 24) k165_23 rfl ?_
    exact w_reti k165_24 ⟨by unfold wayS; rw [if_neg (fun z => q_3 z.1)], _, rfl, fun _ _ => rfl, fun _ _ => rfl⟩
theorem m166 (hF : MF sh R I K H E HO S L B A) {a b t : Int} : QM X (d + 6) 166 [.inr (some 57), .inl a, .inl b, .inl t] sh R I (arrS H E HO A a b t) := by
  have hF0 := hF
  obtain ⟨hM, hK, hpo, hha, hms, hab, hB⟩ := hF
  have hr := hK.r
  show WP X (d + 6) 166 0 [.inr (some 57), .inl a, .inl b, .inl t] [] (sh, R, I) 0 0 _
  refine w_aload (pc' := 1) k166_0 rfl rfl ?_
  refine w_iload (pc' := 2) k166_1 rfl rfl ?_
  refine w_iload (pc' := 3) k166_2 rfl rfl ?_
  refine w_callB (pc' := 6) (as := [.inr (some 57), .inl _, .inl _]) k166_3 rfl rfl (co_v rfl rfl (hM.1 57 (11, 30) rfl)) (by decide) (m164 hF0) (fun q_3 => ?_) (fun q_3 => ?_)
  · refine w_if_eq (pc' := 9) k166_6 rfl (fun c_6 => absurd c_6 (by decide)) (fun _ => ?_)
    refine w_aload (pc' := 10) k166_9 rfl rfl ?_
    refine w_iload (pc' := 11) k166_10 rfl rfl ?_
    refine w_callB (pc' := 14) (as := [.inr (some 57), .inl _]) k166_11 rfl rfl (co_v rfl rfl (hM.1 57 (11, 30) rfl)) (by decide) (m136 hF0) (fun q_11 => ?_) (fun q_11 => ?_)
    · refine w_if_ne (pc' := 17) k166_14 rfl (fun _ => ?_) (fun c_14 => absurd c_14 (by decide))
      refine w_aload (pc' := 20) k166_19 rfl rfl ?_
      refine w_iload (pc' := 21) k166_20 rfl rfl ?_
      refine w_iload (pc' := 22) k166_21 rfl rfl ?_
      refine w_iload (pc' := 23) k166_22 rfl rfl ?_
      refine w_callV (pc' := 26) (as := [.inr (some 57), .inl _, .inl _, .inl _]) k166_23 rfl rfl (co_v rfl rfl (hM.1 57 (11, 30) rfl)) (by decide) (m163 hF0 q_3.1 q_3.2.1 q_11) (fun r_23 h_23 hq => ?_)
      obtain ⟨I_1, rfl, rs⟩ := hq
      have hv5 := pV_r (H := H) (E := E) (A := A) (n := a / H) (b := b) (s := t)
      refine w_aload (pc' := 27) k166_26 rfl rfl ?_
      refine w_getI (pc' := 30) (ki := 21) (v := (if pA H E A (a / H) b t then (1 : Int) else 0)) k166_27 rfl (hM.1 57 (11, 30) rfl) rfl rs.2.2.2.1 ?_
      refine w_if_eq (pc' := 33) k166_30 rfl (fun c_30 => ?_) (fun c_30 => ?_)
      · refine w_c1 (pc' := 38) k166_37 rfl ?_
        exact w_reti k166_38 ⟨by unfold arrS; rw [if_pos ⟨q_3, q_11⟩, if_neg (fun z => by rw [if_pos z] at c_30; exact absurd c_30 (by decide))], _, rfl, fun a q => rs.1 a (by omega) (by omega) (by omega), fun j q => rs.2.1 j (by omega) (by omega)⟩
      · refine w_c1 (pc' := 34) k166_33 rfl ?_
        refine w_goto k166_34 ?_
        exact w_reti k166_38 ⟨by unfold arrS; rw [if_pos ⟨q_3, q_11⟩, if_pos (Decidable.byContradiction (fun z => by rw [if_neg z] at c_30; exact absurd rfl c_30))], _, rfl, fun a q => rs.1 a (by omega) (by omega) (by omega), fun j q => rs.2.1 j (by omega) (by omega)⟩
    · refine w_if_ne (pc' := 17) k166_14 rfl (fun c_14 => absurd c_14 (by decide)) (fun _ => ?_)
      refine w_c1 (pc' := 18) k166_17 rfl ?_
      exact w_reti k166_18 ⟨by unfold arrS; rw [if_neg (fun z => q_11 z.2)], _, rfl, fun _ _ => rfl, fun _ _ => rfl⟩
  · refine w_if_eq (pc' := 9) k166_6 rfl (fun _ => ?_) (fun c_6 => absurd c_6 (by decide))
    refine w_c1 (pc' := 18) k166_17 rfl ?_
    exact w_reti k166_18 ⟨by unfold arrS; rw [if_neg (fun z => q_3 z.1)], _, rfl, fun _ _ => rfl, fun _ _ => rfl⟩
end M70
