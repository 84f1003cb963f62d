/-! ===== CLASS: the survey of all pairs ===== -/
section C29
variable {X : Nat × (Int → Int)} {d : Nat} {sh : List (Nat × Nat)} {R : Nat → Nat → Option Nat} {I : Nat → Int → Int} {s g_s M_s : Nat} {K H E HO S L B : Int} {A : AS}
/-- what is summed up to row a, place i -/
def pS (g : Int → Int → Int) (HO : Int) (a i : Nat) : Int := sumN (fun e => sumN (g e) HO.toNat) a + sumN (g a) i
theorem pS_s {g : Int → Int → Int} {HO : Int} {a i : Nat} : pS g HO a (i + 1) = pS g HO a i + g a i := by unfold pS; rw [sumN]; omega
theorem pS_r {g : Int → Int → Int} {HO : Int} {a : Nat} : pS g HO a HO.toNat = pS g HO (a + 1) 0 := by unfold pS; simp [sumN]
theorem pS_le {g : Int → Int → Int} {HO C : Int} {a i : Nat} (h : ∀ e b, 0 ≤ g e b ∧ g e b ≤ C) (hC : C ≤ 12) (ha : a ≤ 18) (hi : i ≤ 54) (hHO : HO ≤ 54) (hC0 : 0 ≤ C) : 0 ≤ pS g HO a i ∧ pS g HO a i ≤ 20000 := by
  have h1 := sumN_le (f := fun e => sumN (g e) HO.toNat) (C := 648) a (fun e _ => by
    have := sumN_le (f := g e) (C := C) HO.toNat (fun b _ => h e b)
    have h9 : (HO.toNat : Int) * C ≤ 54 * 12 := Int.mul_le_mul (by omega) hC hC0 (by omega)
    omega)
  have h2 := sumN_le (f := g a) (C := C) i (fun b _ => h a b)
  have h9 : (i : Int) * C ≤ 54 * 12 := Int.mul_le_mul (by omega) hC hC0 (by omega)
  unfold pS
  omega
/-- the survey's cells on the way -/
def SV (I I1 : Nat → Int → Int) (H E HO L : Int) (A : AS) (a i : Nat) : Prop := (∀ x, x < 12 ∨ (14 < x ∧ x < 18) ∨ 20 < x → I1 x = I x) ∧ I1 18 4 = pS (gA H E A) HO a i ∧ ∀ l, 0 ≤ l → l < L → I1 19 l = pS (gU H E A l) HO a i ∧ I1 20 l = pS (gD H E A l) HO a i
theorem m1i (hF : CF sh R I K H E HO S L B s g_s M_s A) {N M a : Nat} (hN : HO = (N : Int)) (hM9 : E = (M : Int)) (ha : a < M) {Q : VV → Hp → Prop} (hex : ∀ (v3 : VV) (I1 : Nat → Int → Int), SV I I1 H E HO L A (a + 1) 0 → WP X (d + 5) 1 119 [.inr (some 18), .inr (some s), .inl (a : Int), v3] [] (sh, R, I1) 0 0 Q) : ∀ (k n : Nat) (i : Int) (I1 : Nat → Int → Int), n + k = N → i = (n : Int) → SV I I1 H E HO L A a n → WP X (d + 5) 1 36 [.inr (some 18), .inr (some s), .inl (a : Int), .inl i] [] (sh, R, I1) 0 0 Q := by
  have hK := hF.2.1
  have hr := hK.r
  intro k
  induction k with
  | zero =>
    rintro n i I1 hk rfl hv
    have hF1 : CF sh R I1 K H E HO S L B s g_s M_s A := hF.keep (fun x hx => hv.1 x (by omega))
    obtain ⟨hL, -, hsp, h_s, m_s, n_s, -⟩ := id hF1
    have e9 : n = N := by omega
    subst e9
    refine w_iload (pc' := 37) k1_36 rfl rfl ?_
    refine w_aload (pc' := 38) k1_37 rfl rfl ?_
    refine w_getR (pc' := 41) (v := 3) k1_38 rfl (hL.1 18 (2, 5) rfl) (hL.2 18 0 3 rfl) ?_
    refine w_getI (pc' := 44) (ki := 3) (v := HO) k1_41 rfl (hL.1 3 (5, 14) rfl) rfl hsp.2.2.2.1 ?_
    refine w_ic_ge (pc' := 47) k1_44 rfl (fun c_44 => ?_) (fun c_44 => absurd c_44 (by omega))
    refine hex _ _ ⟨hv.1, ?_, fun l h1 h2 => ?_⟩
    · rw [hv.2.1, ← pS_r]; congr 1; omega
    · rw [(hv.2.2 l h1 h2).1, (hv.2.2 l h1 h2).2, ← pS_r, ← pS_r]; refine ⟨?_, ?_⟩ <;> (congr 1; omega)
  | succ k ih =>
    rintro n i I1 hk rfl hv
    have hF1 : CF sh R I1 K H E HO S L B s g_s M_s A := hF.keep (fun x hx => hv.1 x (by omega))
    obtain ⟨hL, -, hsp, h_s, m_s, n_s, -⟩ := id hF1
    have ha9 : (0 : Int) ≤ (a : Int) ∧ (a : Int) < E := by omega
    have hn9 : (0 : Int) ≤ (n : Int) ∧ (n : Int) < HO := by omega
    have hbA := pS_le (g := gA H E A) (HO := HO) (C := 3) (a := a) (i := n) (fun e b => gA_le hr.1) (by omega) (by omega) (by omega) (by omega) (by omega)
    have hbU := fun l => pS_le (g := gU H E A l) (HO := HO) (C := 12) (a := a) (i := n) (fun e b => gU_le hr.1) (by omega) (by omega) (by omega) (by omega) (by omega)
    have hbD := fun l => pS_le (g := gD H E A l) (HO := HO) (C := 12) (a := a) (i := n) (fun e b => gD_le hr.1) (by omega) (by omega) (by omega) (by omega) (by omega)
    refine w_iload (pc' := 37) k1_36 rfl rfl ?_
    refine w_aload (pc' := 38) k1_37 rfl rfl ?_
    refine w_getR (pc' := 41) (v := 3) k1_38 rfl (hL.1 18 (2, 5) rfl) (hL.2 18 0 3 rfl) ?_
    refine w_getI (pc' := 44) (ki := 3) (v := HO) k1_41 rfl (hL.1 3 (5, 14) rfl) rfl hsp.2.2.2.1 ?_
    refine w_ic_ge (pc' := 47) k1_44 rfl (fun c_44 => absurd c_44 (by omega)) (fun c_44 => ?_)
    refine w_aload (pc' := 48) k1_47 rfl rfl ?_
    refine w_getR (pc' := 51) (v := 12) k1_48 rfl (hL.1 18 (2, 5) rfl) (hL.2 18 1 12 rfl) ?_
    refine w_aload (pc' := 52) k1_51 rfl rfl ?_
    refine w_iload (pc' := 53) k1_52 rfl rfl ?_
    refine w_iload (pc' := 54) k1_53 rfl rfl ?_
    refine w_c1 (pc' := 55) k1_54 rfl ?_
    refine w_callV (pc' := 58) (as := [.inr (some 12), .inr (some s), .inl _, .inl _, .inl _]) k1_55 rfl rfl (co_v rfl rfl (hL.1 12 (3, 5) rfl)) (by decide) (m6 hF1 ha9 hn9 (by refine ⟨Int.le_refl _, ?_⟩; rcases hK with ⟨rfl, rfl, rfl, rfl, rfl, rfl⟩ | ⟨rfl, rfl, rfl, rfl, rfl, rfl⟩ | ⟨rfl, rfl, rfl, rfl, rfl, rfl⟩ <;> omega)) (fun r_55 h_55 hq => ?_)
    obtain ⟨I2, rfl, hJ⟩ := hq
    have hF2 : CF sh R I2 K H E HO S L B s g_s M_s A := hF1.keep (fun x hx => hJ.1 x (by omega) (by omega) (by omega))
    obtain ⟨hL, -, hsp, h_s, m_s, n_s, -⟩ := id hF2
    have e18 := hJ.1 18 (by decide) (by decide) (by decide)
    have e19 := hJ.1 19 (by decide) (by decide) (by decide)
    have e20 := hJ.1 20 (by decide) (by decide) (by decide)
    refine w_aload (pc' := 59) k1_58 rfl rfl ?_
    refine w_getR (pc' := 62) (v := 12) k1_59 rfl (hL.1 18 (2, 5) rfl) (hL.2 18 1 12 rfl) ?_
    refine w_getI (pc' := 65) (ki := 4) (v := (if pA H E A a n 0 then 1 else 0)) k1_62 rfl (hL.1 12 (3, 5) rfl) rfl hJ.2.2.1 ?_
    refine w_if_eq (pc' := 68) k1_65 rfl (fun c_65 => ?_) (fun c_65 => ?_)
    · refine w_iinc (pc' := 116) (ls' := [_, _, _, _]) k1_113 rfl rfl (by omega) rfl ?_
      refine w_goto k1_116 ?_
      have hpa : pA H E A a n 0 = false := by
        cases hz : pA H E A a n 0 with
        | false => rfl
        | true => rw [hz] at c_65; exact absurd c_65 (by decide)
      refine ih (n + 1) _ _ (by omega) (by omega) ⟨fun x hx => by rw [hJ.1 x (by omega) (by omega) (by omega)]; exact hv.1 x hx, ?_, fun l h1 h2 => ?_⟩
      · rw [e18, hv.2.1, pS_s, show gA H E A a n = 0 by unfold gA; rw [hpa]; rfl]; omega
      · rw [e19, e20, (hv.2.2 l h1 h2).1, (hv.2.2 l h1 h2).2, pS_s, pS_s, show gU H E A l a n = 0 by unfold gU; rw [hpa]; rfl, show gD H E A l a n = 0 by unfold gD; rw [hpa]; rfl]; omega
    · refine w_aload (pc' := 69) k1_68 rfl rfl ?_
      refine w_dup (pc' := 70) k1_69 rfl ?_
      refine w_getI (pc' := 73) (ki := 4) (v := pS (gA H E A) HO a n) k1_70 rfl (hL.1 18 (2, 5) rfl) rfl (by rw [e18]; exact hv.2.1) ?_
      refine w_aload (pc' := 74) k1_73 rfl rfl ?_
      refine w_getR (pc' := 77) (v := 3) k1_74 rfl (hL.1 18 (2, 5) rfl) (hL.2 18 0 3 rfl) ?_
      refine w_getR (pc' := 80) (v := 10) k1_77 rfl (hL.1 3 (5, 14) rfl) (hL.2 3 12 10 rfl) ?_
      refine w_iload (pc' := 81) k1_80 rfl rfl ?_
      refine w_iald (pc' := 82) (v := (n : Int) / H) k1_81 rfl (hL.1 10 (0, 54) rfl) (by omega) (hsp.2.2.2.2.2.2.2.2 _ hn9.1 hn9.2).1 ?_
      refine w_iload (pc' := 83) k1_82 rfl rfl ?_
      refine w_ic_ne (pc' := 86) k1_83 rfl (fun c_83 => ?_) (fun c_83 => ?_)
      · refine w_aload (pc' := 99) k1_98 rfl rfl ?_
        refine w_getR (pc' := 102) (v := 3) k1_99 rfl (hL.1 18 (2, 5) rfl) (hL.2 18 0 3 rfl) ?_
        refine w_getI (pc' := 105) (ki := 1) (v := H) k1_102 rfl (hL.1 3 (5, 14) rfl) rfl hsp.2.1 ?_
        refine w_iadd (pc' := 106) k1_105 rfl (by omega) ?_
        refine w_putI (pc' := 109) (ki := 4) k1_106 rfl (hL.1 18 (2, 5) rfl) rfl ?_
        have hpa : pA H E A a n 0 = true := by
          cases hz : pA H E A a n 0 with
          | true => rfl
          | false => rw [hz] at c_65; exact absurd rfl c_65
        have hF3 : CF sh R (upA I2 18 (upF (I2 18) 4 (pS (gA H E A) HO a n + H))) K H E HO S L B s g_s M_s A := hF2.keep (fun x hx => upA_n (by omega))
        refine w_aload (pc' := 110) k1_109 rfl rfl ?_
        refine w_callV (pc' := 113) (as := [.inr (some 18)]) k1_110 rfl rfl (co_v rfl rfl (hL.1 18 (2, 5) rfl)) (by decide) (m2 hF3 ha9 hn9 (by rw [upA_n (by decide)]; exact hJ.2.1) (by rw [upA_n (by decide)]; exact hJ.2.2.2.1) (by rw [upA_n (by decide)]; exact hJ.2.2.2.2) (fun l h1 h2 => by rw [upA_n (by decide), e19, (hv.2.2 l h1 h2).1]; have := hbU l; omega) (fun l h1 h2 => by rw [upA_n (by decide), e20, (hv.2.2 l h1 h2).2]; have := hbD l; omega)) (fun r_110 h_110 hq => ?_)
        obtain ⟨I4, rfl, h41, h42⟩ := hq
        refine w_iinc (pc' := 116) (ls' := [_, _, _, _]) k1_113 rfl rfl (by omega) rfl ?_
        refine w_goto k1_116 ?_
        refine ih (n + 1) _ _ (by omega) (by omega) ⟨fun x hx => by rw [h41 x (by omega) (by omega), upA_n (by omega), hJ.1 x (by omega) (by omega) (by omega)]; exact hv.1 x hx, ?_, fun l h1 h2 => ?_⟩
        · rw [h41 18 (by decide) (by decide), upA_s, upF_s, pS_s]; unfold gA; rw [if_pos hpa]; first | rw [if_pos c_83] | rw [if_neg c_83]
        · rw [(h42 l h1 h2).1, (h42 l h1 h2).2, upA_n (by decide), upA_n (by decide), e19, e20, (hv.2.2 l h1 h2).1, (hv.2.2 l h1 h2).2, pS_s, pS_s]; unfold gU gD; rw [if_pos hpa, if_pos hpa]; exact ⟨rfl, rfl⟩
      · refine w_aload (pc' := 87) k1_86 rfl rfl ?_
        refine w_getR (pc' := 90) (v := 3) k1_87 rfl (hL.1 18 (2, 5) rfl) (hL.2 18 0 3 rfl) ?_
        refine w_getI (pc' := 93) (ki := 1) (v := H) k1_90 rfl (hL.1 3 (5, 14) rfl) rfl hsp.2.1 ?_
        refine w_c1 (pc' := 94) k1_93 rfl ?_
        refine w_isub (pc' := 95) k1_94 rfl (by omega) ?_
        refine w_goto k1_95 ?_
        refine w_iadd (pc' := 106) k1_105 rfl (by omega) ?_
        refine w_putI (pc' := 109) (ki := 4) k1_106 rfl (hL.1 18 (2, 5) rfl) rfl ?_
        have hpa : pA H E A a n 0 = true := by
          cases hz : pA H E A a n 0 with
          | true => rfl
          | false => rw [hz] at c_65; exact absurd rfl c_65
        have hF3 : CF sh R (upA I2 18 (upF (I2 18) 4 (pS (gA H E A) HO a n + (H - 1)))) K H E HO S L B s g_s M_s A := hF2.keep (fun x hx => upA_n (by omega))
        refine w_aload (pc' := 110) k1_109 rfl rfl ?_
        refine w_callV (pc' := 113) (as := [.inr (some 18)]) k1_110 rfl rfl (co_v rfl rfl (hL.1 18 (2, 5) rfl)) (by decide) (m2 hF3 ha9 hn9 (by rw [upA_n (by decide)]; exact hJ.2.1) (by rw [upA_n (by decide)]; exact hJ.2.2.2.1) (by rw [upA_n (by decide)]; exact hJ.2.2.2.2) (fun l h1 h2 => by rw [upA_n (by decide), e19, (hv.2.2 l h1 h2).1]; have := hbU l; omega) (fun l h1 h2 => by rw [upA_n (by decide), e20, (hv.2.2 l h1 h2).2]; have := hbD l; omega)) (fun r_110 h_110 hq => ?_)
        obtain ⟨I4, rfl, h41, h42⟩ := hq
        refine w_iinc (pc' := 116) (ls' := [_, _, _, _]) k1_113 rfl rfl (by omega) rfl ?_
        refine w_goto k1_116 ?_
        refine ih (n + 1) _ _ (by omega) (by omega) ⟨fun x hx => by rw [h41 x (by omega) (by omega), upA_n (by omega), hJ.1 x (by omega) (by omega) (by omega)]; exact hv.1 x hx, ?_, fun l h1 h2 => ?_⟩
        · rw [h41 18 (by decide) (by decide), upA_s, upF_s, pS_s]; unfold gA; rw [if_pos hpa]; first | rw [if_pos c_83] | rw [if_neg c_83]
        · rw [(h42 l h1 h2).1, (h42 l h1 h2).2, upA_n (by decide), upA_n (by decide), e19, e20, (hv.2.2 l h1 h2).1, (hv.2.2 l h1 h2).2, pS_s, pS_s]; unfold gU gD; rw [if_pos hpa, if_pos hpa]; exact ⟨rfl, rfl⟩
theorem m1l (hF : CF sh R I K H E HO S L B s g_s M_s A) {N M : Nat} (hN : HO = (N : Int)) (hM9 : E = (M : Int)) : ∀ (k n : Nat) (i : Int) (v3 : VV) (I1 : Nat → Int → Int), n + k = M → i = (n : Int) → SV I I1 H E HO L A n 0 → WP X (d + 5) 1 23 [.inr (some 18), .inr (some s), .inl i, v3] [] (sh, R, I1) 0 0 (fun _ h' => ∃ I', h' = (sh, R, I') ∧ SV I I' H E HO L A M 0) := by
  have hK := hF.2.1
  have hr := hK.r
  intro k
  induction k with
  | zero =>
    rintro n i v3 I1 hk rfl hv
    have hF1 : CF sh R I1 K H E HO S L B s g_s M_s A := hF.keep (fun x hx => hv.1 x (by omega))
    obtain ⟨hL, -, hsp, h_s, m_s, n_s, -⟩ := id hF1
    have e9 : n = M := by omega
    subst e9
    refine w_iload (pc' := 24) k1_23 rfl rfl ?_
    refine w_aload (pc' := 25) k1_24 rfl rfl ?_
    refine w_getR (pc' := 28) (v := 3) k1_25 rfl (hL.1 18 (2, 5) rfl) (hL.2 18 0 3 rfl) ?_
    refine w_getI (pc' := 31) (ki := 2) (v := E) k1_28 rfl (hL.1 3 (5, 14) rfl) rfl hsp.2.2.1 ?_
    refine w_ic_ge (pc' := 34) k1_31 rfl (fun c_31 => ?_) (fun c_31 => absurd c_31 (by omega))
    exact w_retv k1_125 ⟨_, rfl, hv⟩
  | succ k ih =>
    rintro n i v3 I1 hk rfl hv
    have hF1 : CF sh R I1 K H E HO S L B s g_s M_s A := hF.keep (fun x hx => hv.1 x (by omega))
    obtain ⟨hL, -, hsp, h_s, m_s, n_s, -⟩ := id hF1
    refine w_iload (pc' := 24) k1_23 rfl rfl ?_
    refine w_aload (pc' := 25) k1_24 rfl rfl ?_
    refine w_getR (pc' := 28) (v := 3) k1_25 rfl (hL.1 18 (2, 5) rfl) (hL.2 18 0 3 rfl) ?_
    refine w_getI (pc' := 31) (ki := 2) (v := E) k1_28 rfl (hL.1 3 (5, 14) rfl) rfl hsp.2.2.1 ?_
    refine w_ic_ge (pc' := 34) k1_31 rfl (fun c_31 => absurd c_31 (by omega)) (fun c_31 => ?_)
    refine w_c1 (pc' := 35) k1_34 rfl ?_
    refine w_istore (pc' := 36) (ls' := [_, _, _, _]) k1_35 rfl rfl rfl ?_
    refine m1i hF hN hM9 (a := n) (by omega) (fun v3 I2 hv2 => ?_) N 0 _ _ (by omega) rfl hv
    refine w_iinc (pc' := 122) (ls' := [_, _, _, _]) k1_119 rfl rfl (by omega) rfl ?_
    refine w_goto k1_122 ?_
    exact ih (n + 1) _ _ _ (by omega) (by omega) hv2
/-- behind a survey -/
def SVE (I I' : Nat → Int → Int) (H E HO L : Int) (A : AS) : Prop := (∀ x, x < 12 ∨ (14 < x ∧ x < 18) ∨ 20 < x → I' x = I x) ∧ I' 18 4 = svS (gA H E A) HO E ∧ ∀ l, 0 ≤ l → l < L → I' 19 l = svS (gU H E A l) HO E ∧ I' 20 l = svS (gD H E A l) HO E
theorem pS_e {g : Int → Int → Int} {HO E : Int} : pS g HO E.toNat 0 = svS g HO E := by unfold pS svS; simp [sumN]
theorem m1 (hF : CF sh R I K H E HO S L B s g_s M_s A) : WPM X (d + 5) 1 [.inr (some 18), .inr (some s)] (sh, R, I) 0 0 (fun _ h' => ∃ I', h' = (sh, R, I') ∧ SVE I I' H E HO L A) := by
  have hL := hF.1
  have hr := hF.2.1.r
  show WP X (d + 5) 1 0 [.inr (some 18), .inr (some s), .inr none, .inr none] [] (sh, R, I) 0 0 _
  refine w_aload (pc' := 1) k1_0 rfl rfl ?_
  refine w_getR (pc' := 4) (v := 19) k1_1 rfl (hL.1 18 (2, 5) rfl) (hL.2 18 2 19 rfl) ?_
  refine w_c1 (pc' := 5) k1_4 rfl ?_
  refine w_callV (pc' := 8) (as := [.inr (some 19), .inl _]) k1_5 rfl rfl (co_s (Or.inl rfl) rfl rfl rfl) (by decide) (m189 (hL.1 19 (0, 108) rfl) (by decide)) (fun r_5 h_5 hq => ?_)
  obtain ⟨I1, rfl, f1, f2⟩ := hq
  refine w_aload (pc' := 9) k1_8 rfl rfl ?_
  refine w_getR (pc' := 12) (v := 20) k1_9 rfl (hL.1 18 (2, 5) rfl) (hL.2 18 3 20 rfl) ?_
  refine w_c1 (pc' := 13) k1_12 rfl ?_
  refine w_callV (pc' := 16) (as := [.inr (some 20), .inl _]) k1_13 rfl rfl (co_s (Or.inl rfl) rfl rfl rfl) (by decide) (m189 (hL.1 20 (0, 108) rfl) (by decide)) (fun r_13 h_13 hq => ?_)
  obtain ⟨I2, rfl, f3, f4⟩ := hq
  refine w_aload (pc' := 17) k1_16 rfl rfl ?_
  refine w_c1 (pc' := 18) k1_17 rfl ?_
  refine w_putI (pc' := 21) (ki := 4) k1_18 rfl (hL.1 18 (2, 5) rfl) rfl ?_
  refine w_c1 (pc' := 22) k1_21 rfl ?_
  refine w_istore (pc' := 23) (ls' := [_, _, _, _]) k1_22 rfl rfl rfl ?_
  refine WP.mono (m1l hF (N := HO.toNat) (M := E.toNat) (by omega) (by omega) E.toNat 0 _ _ _ (by omega) rfl ⟨fun x hx => ?_, ?_, fun l h1 h2 => ?_⟩) (fun r h' hq => ?_)
  · rw [upA_n (by omega), f3 x (by omega), f1 x (by omega)]
  · rw [upA_s, upF_s]; simp [pS, sumN]
  · rw [upA_n (by decide), upA_n (by decide), f3 19 (by decide)]; refine ⟨?_, ?_⟩
    · rw [f2 l h1 (by omega)]; simp [pS, sumN]
    · rw [f4 l h1 (by omega)]; simp [pS, sumN]
  · obtain ⟨I', h1, h2, h3, h4⟩ := hq
    refine ⟨I', h1, h2, by rw [h3, pS_e], fun l q1 q2 => ?_⟩
    rw [(h4 l q1 q2).1, (h4 l q1 q2).2, pS_e, pS_e]
    exact ⟨rfl, rfl⟩
theorem m3l (hF : CF sh R I K H E HO S L B s g_s M_s A) {q : Nat} (hq : sh[q]? = some (0, 108)) (ht : ∀ l, 0 ≤ l → l < L → 0 ≤ I q l ∧ I q l ≤ 100000) {N : Nat} (hN : L = (N : Int)) : ∀ (k n : Nat) (c i : Int), n + k = N → c = mxF (I q) (fun l => ev (aAg A l)) n → i = (n : Int) → WP X (d + 2) 3 6 [.inr (some 18), .inr (some s), .inr (some q), .inl c, .inl i] [] (sh, R, I) 0 0 (fun r h' => r = .inl (mxF (I q) (fun l => ev (aAg A l)) N) ∧ h' = (sh, R, I)) := by
  have hF0 := hF
  obtain ⟨hL, hK, hsp, h_s, m_s, n_s, hg, hM, hLS, hcs, hab, hB⟩ := hF
  have hr := hK.r
  intro k
  induction k with
  | zero =>
    rintro n c i hk rfl rfl
    have e9 : n = N := by omega
    subst e9
    refine w_iload (pc' := 8) k3_6 rfl rfl ?_
    refine w_aload (pc' := 9) k3_8 rfl rfl ?_
    refine w_getR (pc' := 12) (v := 3) k3_9 rfl (hL.1 18 (2, 5) rfl) (hL.2 18 0 3 rfl) ?_
    refine w_getI (pc' := 15) (ki := 5) (v := L) k3_12 rfl (hL.1 3 (5, 14) rfl) rfl hsp.2.2.2.2.2.1 ?_
    refine w_ic_ge (pc' := 18) k3_15 rfl (fun c_15 => ?_) (fun c_15 => absurd c_15 (by omega))
    refine w_iload (pc' := 43) k3_42 rfl rfl ?_
    exact w_reti k3_43 ⟨rfl, rfl⟩
  | succ k ih =>
    rintro n c i hk rfl rfl
    refine w_iload (pc' := 8) k3_6 rfl rfl ?_
    refine w_aload (pc' := 9) k3_8 rfl rfl ?_
    refine w_getR (pc' := 12) (v := 3) k3_9 rfl (hL.1 18 (2, 5) rfl) (hL.2 18 0 3 rfl) ?_
    refine w_getI (pc' := 15) (ki := 5) (v := L) k3_12 rfl (hL.1 3 (5, 14) rfl) rfl hsp.2.2.2.2.2.1 ?_
    refine w_ic_ge (pc' := 18) k3_15 rfl (fun c_15 => absurd c_15 (by omega)) (fun c_15 => ?_)
    refine w_aload (pc' := 19) k3_18 rfl rfl ?_
    refine w_iload (pc' := 21) k3_19 rfl rfl ?_
    refine w_callB (pc' := 24) (as := [.inr (some s), .inl _]) k3_21 rfl rfl (co_v rfl rfl (hL.s0 h_s)) (by decide) (m49 hF0 (by omega)) (fun q_21 => ?_) (fun q_21 => ?_)
    · refine w_if_eq (pc' := 27) k3_24 rfl (fun c_24 => absurd c_24 (by decide)) (fun _ => ?_)
      refine w_iload (pc' := 28) k3_27 rfl rfl ?_
      refine w_aload (pc' := 29) k3_28 rfl rfl ?_
      refine w_iload (pc' := 31) k3_29 rfl rfl ?_
      refine w_iald (pc' := 32) k3_31 rfl hq (by omega) rfl ?_
      refine w_mx (pc' := 35) k3_32 rfl rfl ?_
      refine w_istore (pc' := 36) (ls' := [_, _, _, _, _]) k3_35 rfl rfl rfl ?_
      refine w_iinc (pc' := 39) (ls' := [_, _, _, _, _]) k3_36 rfl rfl (by omega) rfl ?_
      refine w_goto k3_39 ?_
      exact ih (n + 1) _ _ (by omega) (by rw [mxF, if_pos q_21]) (by omega)
    · refine w_if_eq (pc' := 27) k3_24 rfl (fun _ => ?_) (fun c_24 => absurd c_24 (by decide))
      refine w_iinc (pc' := 39) (ls' := [_, _, _, _, _]) k3_36 rfl rfl (by omega) rfl ?_
      refine w_goto k3_39 ?_
      exact ih (n + 1) _ _ (by omega) (by rw [mxF, if_neg q_21]) (by omega)
theorem m3 (hF : CF sh R I K H E HO S L B s g_s M_s A) {q : Nat} (hq : sh[q]? = some (0, 108)) (ht : ∀ l, 0 ≤ l → l < L → 0 ≤ I q l ∧ I q l ≤ 100000) : RV X (d + 2) 3 [.inr (some 18), .inr (some s), .inr (some q)] (sh, R, I) (mxF (I q) (fun l => ev (aAg A l)) L.toNat) := by
  have hr := hF.2.1.r
  show WP X (d + 2) 3 0 [.inr (some 18), .inr (some s), .inr (some q), .inr none, .inr none] [] (sh, R, I) 0 0 _
  refine w_c2 (pc' := 2) k3_0 rfl ?_
  refine w_istore (pc' := 3) (ls' := [_, _, _, _, _]) k3_2 rfl rfl rfl ?_
  refine w_c1 (pc' := 4) k3_3 rfl ?_
  refine w_istore (pc' := 6) (ls' := [_, _, _, _, _]) k3_4 rfl rfl rfl ?_
  exact m3l hF hq ht (N := L.toNat) (by omega) L.toNat 0 _ _ (by omega) rfl rfl
theorem m4l (hF : CF sh R I K H E HO S L B s g_s M_s A) {q : Nat} (hq : sh[q]? = some (0, 108)) (ht : ∀ l, 0 ≤ l → l < L → 0 ≤ I q l ∧ I q l ≤ 100000) {N : Nat} (hN : L = (N : Int)) : ∀ (k n : Nat) (c i : Int), n + k = N → c = lsF (I q) (fun l => ev (aAg A l)) n → i = (n : Int) → WP X (d + 2) 4 6 [.inr (some 18), .inr (some s), .inr (some q), .inl c, .inl i] [] (sh, R, I) 0 0 (fun r h' => r = .inl (lsF (I q) (fun l => ev (aAg A l)) N) ∧ h' = (sh, R, I)) := by
  have hF0 := hF
  obtain ⟨hL, hK, hsp, h_s, m_s, n_s, hg, hM, hLS, hcs, hab, hB⟩ := hF
  have hr := hK.r
  intro k
  induction k with
  | zero =>
    rintro n c i hk rfl rfl
    have e9 : n = N := by omega
    subst e9
    refine w_iload (pc' := 8) k4_6 rfl rfl ?_
    refine w_aload (pc' := 9) k4_8 rfl rfl ?_
    refine w_getR (pc' := 12) (v := 3) k4_9 rfl (hL.1 18 (2, 5) rfl) (hL.2 18 0 3 rfl) ?_
    refine w_getI (pc' := 15) (ki := 5) (v := L) k4_12 rfl (hL.1 3 (5, 14) rfl) rfl hsp.2.2.2.2.2.1 ?_
    refine w_ic_ge (pc' := 18) k4_15 rfl (fun c_15 => ?_) (fun c_15 => absurd c_15 (by omega))
    refine w_iload (pc' := 53) k4_52 rfl rfl ?_
    exact w_reti k4_53 ⟨rfl, rfl⟩
  | succ k ih =>
    rintro n c i hk rfl rfl
    refine w_iload (pc' := 8) k4_6 rfl rfl ?_
    refine w_aload (pc' := 9) k4_8 rfl rfl ?_
    refine w_getR (pc' := 12) (v := 3) k4_9 rfl (hL.1 18 (2, 5) rfl) (hL.2 18 0 3 rfl) ?_
    refine w_getI (pc' := 15) (ki := 5) (v := L) k4_12 rfl (hL.1 3 (5, 14) rfl) rfl hsp.2.2.2.2.2.1 ?_
    refine w_ic_ge (pc' := 18) k4_15 rfl (fun c_15 => absurd c_15 (by omega)) (fun c_15 => ?_)
    refine w_aload (pc' := 19) k4_18 rfl rfl ?_
    refine w_iload (pc' := 21) k4_19 rfl rfl ?_
    refine w_callB (pc' := 24) (as := [.inr (some s), .inl _]) k4_21 rfl rfl (co_v rfl rfl (hL.s0 h_s)) (by decide) (m49 hF0 (by omega)) (fun q_21 => ?_) (fun q_21 => ?_)
    · refine w_if_eq (pc' := 27) k4_24 rfl (fun c_24 => absurd c_24 (by decide)) (fun _ => ?_)
      refine w_iload (pc' := 28) k4_27 rfl rfl ?_
      refine w_c2 (pc' := 30) k4_28 rfl ?_
      refine w_ic_eq (pc' := 33) k4_30 rfl (fun c_30 => ?_) (fun c_30 => ?_)
      · refine w_aload (pc' := 42) k4_41 rfl rfl ?_
        refine w_iload (pc' := 44) k4_42 rfl rfl ?_
        refine w_iald (pc' := 45) k4_44 rfl hq (by omega) rfl ?_
        refine w_istore (pc' := 46) (ls' := [_, _, _, _, _]) k4_45 rfl rfl rfl ?_
        refine w_iinc (pc' := 49) (ls' := [_, _, _, _, _]) k4_46 rfl rfl (by omega) rfl ?_
        refine w_goto k4_49 ?_
        exact ih (n + 1) _ _ (by omega) (by rw [lsF, if_pos q_21]; rw [if_pos (Or.inl c_30)]) (by omega)
      · refine w_aload (pc' := 34) k4_33 rfl rfl ?_
        refine w_iload (pc' := 36) k4_34 rfl rfl ?_
        refine w_iald (pc' := 37) k4_36 rfl hq (by omega) rfl ?_
        refine w_iload (pc' := 38) k4_37 rfl rfl ?_
        refine w_ic_ge (pc' := 41) k4_38 rfl (fun c_38 => ?_) (fun c_38 => ?_)
        · refine w_iinc (pc' := 49) (ls' := [_, _, _, _, _]) k4_46 rfl rfl (by omega) rfl ?_
          refine w_goto k4_49 ?_
          exact ih (n + 1) _ _ (by omega) (by rw [lsF, if_pos q_21]; rw [if_neg (by omega)]) (by omega)
        · refine w_aload (pc' := 42) k4_41 rfl rfl ?_
          refine w_iload (pc' := 44) k4_42 rfl rfl ?_
          refine w_iald (pc' := 45) k4_44 rfl hq (by omega) rfl ?_
          refine w_istore (pc' := 46) (ls' := [_, _, _, _, _]) k4_45 rfl rfl rfl ?_
          refine w_iinc (pc' := 49) (ls' := [_, _, _, _, _]) k4_46 rfl rfl (by omega) rfl ?_
          refine w_goto k4_49 ?_
          exact ih (n + 1) _ _ (by omega) (by rw [lsF, if_pos q_21]; rw [if_pos (Or.inr c_38)]) (by omega)
    · refine w_if_eq (pc' := 27) k4_24 rfl (fun _ => ?_) (fun c_24 => absurd c_24 (by decide))
      refine w_iinc (pc' := 49) (ls' := [_, _, _, _, _]) k4_46 rfl rfl (by omega) rfl ?_
      refine w_goto k4_49 ?_
      exact ih (n + 1) _ _ (by omega) (by rw [lsF, if_neg q_21]) (by omega)
theorem m4 (hF : CF sh R I K H E HO S L B s g_s M_s A) {q : Nat} (hq : sh[q]? = some (0, 108)) (ht : ∀ l, 0 ≤ l → l < L → 0 ≤ I q l ∧ I q l ≤ 100000) : RV X (d + 2) 4 [.inr (some 18), .inr (some s), .inr (some q)] (sh, R, I) (lsF (I q) (fun l => ev (aAg A l)) L.toNat) := by
  have hr := hF.2.1.r
  show WP X (d + 2) 4 0 [.inr (some 18), .inr (some s), .inr (some q), .inr none, .inr none] [] (sh, R, I) 0 0 _
  refine w_c2 (pc' := 2) k4_0 rfl ?_
  refine w_istore (pc' := 3) (ls' := [_, _, _, _, _]) k4_2 rfl rfl rfl ?_
  refine w_c1 (pc' := 4) k4_3 rfl ?_
  refine w_istore (pc' := 6) (ls' := [_, _, _, _, _]) k4_4 rfl rfl rfl ?_
  exact m4l hF hq ht (N := L.toNat) (by omega) L.toNat 0 _ _ (by omega) rfl rfl
end C29
