/-! ===== CLASS: flows, the text ===== -/
section C50
variable {X : Nat × (Int → Int)} {d : Nat} {sh : List (Nat × Nat)} {R : Nat → Nat → Option Nat} {I : Nat → Int → Int} {K H E HO S L B : Int} {ρ γ : Nat → Nat} {M : Nat} {A A1 A2 : AS} {u : Int} {tx : Int → Int} {len : Int}
def flowV (HO : Int) (A : AS) (a b c : Int) : Int := if ((0 ≤ a ∧ a < HO) ∧ (0 ≤ b ∧ b < HO) ∧ a ≠ b) ∧ 1 ≤ c ∧ c ≤ 99 then (if aNf A < 16 then aNf A else -3) else -1
def flowZ (HO : Int) (z : ZZ) (a b c : Int) : ZZ := if ((0 ≤ a ∧ a < HO) ∧ (0 ≤ b ∧ b < HO) ∧ a ≠ b) ∧ 1 ≤ c ∧ c ≤ 99 then (if aNf z.1 < 16 then pushZ z (addA z.1 a b c) else z) else z
def dropV (A : AS) (f : Int) : Int := if 0 ≤ f ∧ f < aNf A then aNf A - 1 else -1
def dropZ (z : ZZ) (f : Int) : ZZ := if 0 ≤ f ∧ f < aNf z.1 then pushZ z (dropA z.1 f) else z
def shifV (H : Int) (A : AS) (f t : Int) : Int := if (0 ≤ f ∧ f < aNf A) ∧ 0 ≤ t ∧ t < H * H then (if aSh A f = t then -2 else aSh A f) else -1
def shifZ (H : Int) (z : ZZ) (f t : Int) : ZZ := if (0 ≤ f ∧ f < aNf z.1) ∧ 0 ≤ t ∧ t < H * H then (if aSh z.1 f = t then z else pushZ z (shiftA z.1 f t)) else z
theorem m90 (hG : CG sh R I K H E HO S L B ρ γ M A A1 A2 u tx len) (hB1 : B + 1 ≤ 1000000) {a b c : Int} : QC X (d + 3) 90 [.inr (some 0), .inl a, .inl b, .inl c] sh R I K H E HO S L (B + 1) γ M (flowV HO A a b c) (flowZ HO (A, A1, A2, u) a b c) (tx) (len) := by
  have hG0 := hG
  have hF0 := hG.cf
  obtain ⟨hL, hK, hsp, hro, hri, hga, hgi, hM, hLS, hB, ⟨hcs, hab⟩, hc1, hc2, ⟨hu, hu0⟩, htx⟩ := hG
  obtain ⟨h_r7, t7⟩ := hro 7 (by decide) (by decide)
  obtain ⟨h_r8, t8⟩ := hro 8 (by decide) (by decide)
  obtain ⟨h_r9, t9⟩ := hro 9 (by decide) (by decide)
  obtain ⟨h_r10, t10⟩ := hro 10 (by decide) (by decide)
  obtain ⟨m_r7, n_r7, g_r7, -⟩ := hga _ h_r7
  obtain ⟨m_r10, n_r10, g_r10, hp7, hp8⟩ := hga _ h_r10
  have hr := hK.r
  have hnf := hab.2.2.1
  have hHH : 0 < H * H := by first | omega | (rcases hK with ⟨rfl, rfl, rfl, rfl, rfl, rfl⟩ | ⟨rfl, rfl, rfl, rfl, rfl, rfl⟩ | ⟨rfl, rfl, rfl, rfl, rfl, rfl⟩ <;> omega)
  show WP X (d + 3) 90 0 [.inr (some 0), .inl a, .inl b, .inl c] [] (sh, R, I) 0 0 _
  refine w_aload (pc' := 1) k90_0 rfl rfl ?_
  refine w_iload (pc' := 2) k90_1 rfl rfl ?_
  refine w_iload (pc' := 3) k90_2 rfl rfl ?_
  refine w_callB (pc' := 6) (as := [.inr (some 0), .inl _, .inl _]) k90_3 rfl rfl (co_v rfl rfl (hL.1 0 (10, 12) rfl)) (by decide) (m102 hF0) (fun q_3 => ?_) (fun q_3 => ?_)
  · refine w_if_eq (pc' := 9) k90_6 rfl (fun c_6 => absurd c_6 (by decide)) (fun _ => ?_)
    refine w_iload (pc' := 10) k90_9 rfl rfl ?_
    refine w_c1 (pc' := 11) k90_10 rfl ?_
    refine w_ic_lt (pc' := 14) k90_11 rfl (fun c_11 => ?_) (fun c_11 => ?_)
    · refine w_c1 (pc' := 21) k90_20 rfl ?_
      exact w_reti k90_21 ⟨by unfold flowV; rw [if_neg (by omega)], by rw [show flowZ HO (A, A1, A2, u) a b c = (A, A1, A2, u) from if_neg (by omega)]; exact ⟨_, _, _, rfl, fun _ _ _ => rfl, RF.rf, hG0.mono ⟨by omega, hB1⟩⟩⟩
    · refine w_iload (pc' := 15) k90_14 rfl rfl ?_
      refine w_c2 (pc' := 17) k90_15 rfl ?_
      refine w_ic_le (pc' := 20) k90_17 rfl (fun c_17 => ?_) (fun c_17 => ?_)
      · refine w_aload (pc' := 23) k90_22 rfl rfl ?_
        refine w_getR (pc' := 26) (v := (ρ 7)) k90_23 rfl (hL.1 0 (10, 12) rfl) t7 ?_
        refine w_getI (pc' := 29) (ki := 5) (v := aNf A) k90_26 rfl (hL.s0 h_r7) rfl hcs.1 ?_
        refine w_c2 (pc' := 31) k90_29 rfl ?_
        refine w_ic_lt (pc' := 34) k90_31 rfl (fun c_31 => ?_) (fun c_31 => ?_)
        · refine w_aload (pc' := 38) k90_37 rfl rfl ?_
          refine w_callV (pc' := 41) (as := [.inr (some 0)]) k90_38 rfl rfl (co_v rfl rfl (hL.1 0 (10, 12) rfl)) (by decide) (m107 hG0) (fun r_38 h_38 hq => ?_)
          obtain ⟨I_1, rfl, o1, o2⟩ := hq
          have hG1 := hG0.kept o1 o2
          refine w_aload (pc' := 42) k90_41 rfl rfl ?_
          refine w_getR (pc' := 45) (v := (ρ 7)) k90_42 rfl (hL.1 0 (10, 12) rfl) t7 ?_
          refine w_iload (pc' := 46) k90_45 rfl rfl ?_
          refine w_iload (pc' := 47) k90_46 rfl rfl ?_
          refine w_iload (pc' := 48) k90_47 rfl rfl ?_
          refine w_callI (pc' := 51) (as := [.inr (some (ρ 7)), .inl _, .inl _, .inl _]) k90_48 rfl rfl (co_v rfl rfl (hL.s0 h_r7)) (by decide) (m56 hL h_r7 hG1.cs.1 (by omega)) (fun z_48 h_48 hq => ?_)
          rcases hq with ⟨hx, -, -⟩ | ⟨hx, -, I_2, rfl, x1, x2, x3, x4, x5, x6⟩
          · exact absurd hx (by omega)
          have o3 : OnlyS I_1 I_2 (ρ 7) (γ (ρ 7)) := fun a q1 q2 => x1 a (by omega) (by omega)
          obtain ⟨hG2, k0⟩ := hG1.chg o3.c (add_CS hG1.cf x1 x2 x3 x4 x5 x6) (add_AB hab q_3.1 q_3.2.1 q_3.2.2 (by omega) (by omega) hHH) ⟨Int.le_refl _, hB⟩ o2
          refine w_pop (pc' := 52) k90_51 rfl ?_
          refine w_aload (pc' := 53) k90_52 rfl rfl ?_
          refine w_callV (pc' := 56) (as := [.inr (some 0)]) k90_53 rfl rfl (co_v rfl rfl (hL.1 0 (10, 12) rfl)) (by decide) (m108 hG2 k0 (hab)) (fun r_53 h_53 hq => ?_)
          obtain ⟨R_3, I_3, rfl, f3, r3, hG3⟩ := hq
          refine w_aload (pc' := 57) k90_56 rfl rfl ?_
          refine w_getR (pc' := 60) (v := (ρ 7)) k90_57 rfl (hL.1 0 (10, 12) rfl) (hG3.ro (k := 7) (by decide) (by decide)) ?_
          refine w_getI (pc' := 63) (ki := 5) (v := aNf A + 1) k90_60 rfl (hL.s0 h_r7) rfl hG3.cs.1 ?_
          refine w_c1 (pc' := 64) k90_63 rfl ?_
          refine w_isub (pc' := 65) k90_64 rfl (by omega) ?_
          exact w_reti k90_65 ⟨by unfold flowV; rw [if_pos ⟨q_3, by omega, by omega⟩, if_pos (by omega), Int.add_sub_cancel], by rw [show flowZ HO (A, A1, A2, u) a b c = pushZ (A, A1, A2, u) (addA A a b c) from (if_pos ⟨q_3, by omega, by omega⟩).trans (if_pos (show aNf A < 16 by omega))]; exact ⟨_, _, _, rfl, fun a q1 q2 => (f3 a (by omega)).trans ((OnlyS.m hG1 (by decide) (by decide) o3 a q1 q2).trans (OnlyS.m hG0 (by decide) (by decide) o1 a q1 q2)), r3, hG3.mono ⟨by omega, hB1⟩⟩⟩
        · refine w_c2 (pc' := 36) k90_34 rfl ?_
          exact w_reti k90_36 ⟨by unfold flowV; rw [if_pos ⟨q_3, by omega, by omega⟩, if_neg (by omega)], by rw [show flowZ HO (A, A1, A2, u) a b c = (A, A1, A2, u) from (if_pos ⟨q_3, by omega, by omega⟩).trans (if_neg (show ¬ aNf A < 16 by omega))]; exact ⟨_, _, _, rfl, fun _ _ _ => rfl, RF.rf, hG0.mono ⟨by omega, hB1⟩⟩⟩
      · refine w_c1 (pc' := 21) k90_20 rfl ?_
        exact w_reti k90_21 ⟨by unfold flowV; rw [if_neg (by omega)], by rw [show flowZ HO (A, A1, A2, u) a b c = (A, A1, A2, u) from if_neg (by omega)]; exact ⟨_, _, _, rfl, fun _ _ _ => rfl, RF.rf, hG0.mono ⟨by omega, hB1⟩⟩⟩
  · refine w_if_eq (pc' := 9) k90_6 rfl (fun _ => ?_) (fun c_6 => absurd c_6 (by decide))
    refine w_c1 (pc' := 21) k90_20 rfl ?_
    exact w_reti k90_21 ⟨by unfold flowV; rw [if_neg (fun z => q_3 z.1)], by rw [show flowZ HO (A, A1, A2, u) a b c = (A, A1, A2, u) from if_neg (fun z => q_3 z.1)]; exact ⟨_, _, _, rfl, fun _ _ _ => rfl, RF.rf, hG0.mono ⟨by omega, hB1⟩⟩⟩
theorem m91 (hG : CG sh R I K H E HO S L B ρ γ M A A1 A2 u tx len) (hB1 : B + 1 ≤ 1000000) {f : Int} : QC X (d + 3) 91 [.inr (some 0), .inl f] sh R I K H E HO S L (B + 1) γ M (dropV A f) (dropZ (A, A1, A2, u) f) (tx) (len) := by
  have hG0 := hG
  have hF0 := hG.cf
  obtain ⟨hL, hK, hsp, hro, hri, hga, hgi, hM, hLS, hB, ⟨hcs, hab⟩, hc1, hc2, ⟨hu, hu0⟩, htx⟩ := hG
  obtain ⟨h_r7, t7⟩ := hro 7 (by decide) (by decide)
  obtain ⟨h_r8, t8⟩ := hro 8 (by decide) (by decide)
  obtain ⟨h_r9, t9⟩ := hro 9 (by decide) (by decide)
  obtain ⟨h_r10, t10⟩ := hro 10 (by decide) (by decide)
  obtain ⟨m_r7, n_r7, g_r7, -⟩ := hga _ h_r7
  obtain ⟨m_r10, n_r10, g_r10, hp7, hp8⟩ := hga _ h_r10
  have hr := hK.r
  show WP X (d + 3) 91 0 [.inr (some 0), .inl f] [] (sh, R, I) 0 0 _
  refine w_aload (pc' := 1) k91_0 rfl rfl ?_
  refine w_iload (pc' := 2) k91_1 rfl rfl ?_
  refine w_callB (pc' := 5) (as := [.inr (some 0), .inl _]) k91_2 rfl rfl (co_v rfl rfl (hL.1 0 (10, 12) rfl)) (by decide) (m104 hF0 t7) (fun q_2 => ?_) (fun q_2 => ?_)
  · refine w_if_ne (pc' := 8) k91_5 rfl (fun _ => ?_) (fun c_5 => absurd c_5 (by decide))
    refine w_aload (pc' := 11) k91_10 rfl rfl ?_
    refine w_callV (pc' := 14) (as := [.inr (some 0)]) k91_11 rfl rfl (co_v rfl rfl (hL.1 0 (10, 12) rfl)) (by decide) (m107 hG0) (fun r_11 h_11 hq => ?_)
    obtain ⟨I_1, rfl, o1, o2⟩ := hq
    have hG1 := hG0.kept o1 o2
    refine w_aload (pc' := 15) k91_14 rfl rfl ?_
    refine w_getR (pc' := 18) (v := (ρ 7)) k91_15 rfl (hL.1 0 (10, 12) rfl) t7 ?_
    refine w_iload (pc' := 19) k91_18 rfl rfl ?_
    refine w_callV (pc' := 22) (as := [.inr (some (ρ 7)), .inl _]) k91_19 rfl rfl (co_v rfl rfl (hL.s0 h_r7)) (by decide) (m57 hG1.cf q_2) (fun r_19 h_19 hq => ?_)
    obtain ⟨I_2, rfl, o3, o4⟩ := hq
    obtain ⟨hG2, k0⟩ := hG1.chg o3.c o4 (drop_AB hab q_2) ⟨Int.le_refl _, hB⟩ o2
    refine w_aload (pc' := 23) k91_22 rfl rfl ?_
    refine w_callV (pc' := 26) (as := [.inr (some 0)]) k91_23 rfl rfl (co_v rfl rfl (hL.1 0 (10, 12) rfl)) (by decide) (m108 hG2 k0 (hab)) (fun r_23 h_23 hq => ?_)
    obtain ⟨R_3, I_3, rfl, f3, r3, hG3⟩ := hq
    refine w_aload (pc' := 27) k91_26 rfl rfl ?_
    refine w_getR (pc' := 30) (v := (ρ 7)) k91_27 rfl (hL.1 0 (10, 12) rfl) (hG3.ro (k := 7) (by decide) (by decide)) ?_
    refine w_getI (pc' := 33) (ki := 5) (v := aNf A - 1) k91_30 rfl (hL.s0 h_r7) rfl hG3.cs.1 ?_
    exact w_reti k91_33 ⟨by unfold dropV; rw [if_pos q_2], by rw [show dropZ (A, A1, A2, u) f = pushZ (A, A1, A2, u) (dropA A f) from if_pos q_2]; exact ⟨_, _, _, rfl, fun a q1 q2 => (f3 a (by omega)).trans ((OnlyS.m hG1 (by decide) (by decide) o3 a q1 q2).trans (OnlyS.m hG0 (by decide) (by decide) o1 a q1 q2)), r3, hG3.mono ⟨by omega, hB1⟩⟩⟩
  · refine w_if_ne (pc' := 8) k91_5 rfl (fun c_5 => absurd c_5 (by decide)) (fun _ => ?_)
    refine w_c1 (pc' := 9) k91_8 rfl ?_
    exact w_reti k91_9 ⟨by unfold dropV; rw [if_neg q_2], by rw [show dropZ (A, A1, A2, u) f = (A, A1, A2, u) from if_neg q_2]; exact ⟨_, _, _, rfl, fun _ _ _ => rfl, RF.rf, hG0.mono ⟨by omega, hB1⟩⟩⟩
theorem shift_CS {s g : Nat} {f t : Int} (hg : 53 ≤ g ∧ s ≤ 46) (h : CS I s g S L A) : CS (upA I (s + 5) (upF (I (s + 5)) f t)) s g S L (shiftA A f t) := by
  unfold CS at h ⊢
  rw [upA_n (show s ≠ s + 5 by omega), upA_n (show s + 1 ≠ s + 5 by omega), upA_n (show s + 2 ≠ s + 5 by omega), upA_n (show s + 3 ≠ s + 5 by omega), upA_n (show s + 4 ≠ s + 5 by omega), upA_n (show g ≠ s + 5 by omega), upA_s]
  refine ⟨h.1, h.2.1, h.2.2.1, h.2.2.2.1, h.2.2.2.2.1, fun g2 q1 q2 => ?_⟩
  have h6 := h.2.2.2.2.2 g2 q1 q2
  refine ⟨h6.1, h6.2.1, h6.2.2.1, ?_⟩
  show upF (I (s + 5)) f t g2 = upF (aSh A) f t g2
  by_cases e : g2 = f
  · rw [e, upF_s, upF_s]
  · rw [upF_n e, upF_n e]; exact h6.2.2.2
theorem m92 (hG : CG sh R I K H E HO S L B ρ γ M A A1 A2 u tx len) (hB1 : B + 1 ≤ 1000000) {f t : Int} : QC X (d + 3) 92 [.inr (some 0), .inl f, .inl t] sh R I K H E HO S L (B + 1) γ M (shifV H A f t) (shifZ H (A, A1, A2, u) f t) (tx) (len) := by
  have hG0 := hG
  have hF0 := hG.cf
  obtain ⟨hL, hK, hsp, hro, hri, hga, hgi, hM, hLS, hB, ⟨hcs, hab⟩, hc1, hc2, ⟨hu, hu0⟩, htx⟩ := hG
  obtain ⟨h_r7, t7⟩ := hro 7 (by decide) (by decide)
  obtain ⟨h_r8, t8⟩ := hro 8 (by decide) (by decide)
  obtain ⟨h_r9, t9⟩ := hro 9 (by decide) (by decide)
  obtain ⟨h_r10, t10⟩ := hro 10 (by decide) (by decide)
  obtain ⟨m_r7, n_r7, g_r7, -⟩ := hga _ h_r7
  obtain ⟨m_r10, n_r10, g_r10, hp7, hp8⟩ := hga _ h_r10
  have hr := hK.r
  have hnf := hab.2.2.1
  have r7 := h_r7.r
  show WP X (d + 3) 92 0 [.inr (some 0), .inl f, .inl t, .inr none] [] (sh, R, I) 0 0 _
  refine w_aload (pc' := 1) k92_0 rfl rfl ?_
  refine w_iload (pc' := 2) k92_1 rfl rfl ?_
  refine w_callB (pc' := 5) (as := [.inr (some 0), .inl _]) k92_2 rfl rfl (co_v rfl rfl (hL.1 0 (10, 12) rfl)) (by decide) (m104 hF0 t7) (fun q_2 => ?_) (fun q_2 => ?_)
  · refine w_if_eq (pc' := 8) k92_5 rfl (fun c_5 => absurd c_5 (by decide)) (fun _ => ?_)
    refine w_aload (pc' := 9) k92_8 rfl rfl ?_
    refine w_iload (pc' := 10) k92_9 rfl rfl ?_
    refine w_callB (pc' := 13) (as := [.inr (some 0), .inl _]) k92_10 rfl rfl (co_v rfl rfl (hL.1 0 (10, 12) rfl)) (by decide) (m103 hF0) (fun q_10 => ?_) (fun q_10 => ?_)
    · refine w_if_ne (pc' := 16) k92_13 rfl (fun _ => ?_) (fun c_13 => absurd c_13 (by decide))
      refine w_aload (pc' := 19) k92_18 rfl rfl ?_
      refine w_getR (pc' := 22) (v := (ρ 7)) k92_19 rfl (hL.1 0 (10, 12) rfl) t7 ?_
      refine w_getR (pc' := 25) (v := ((ρ 7) + 5)) k92_22 rfl (hL.s0 h_r7) (hL.r4 h_r7) ?_
      refine w_iload (pc' := 26) k92_25 rfl rfl ?_
      refine w_iald (pc' := 27) (v := aSh A f) k92_26 rfl (hL.s5 h_r7) (by omega) ((hcs.2.2.2.2.2 f q_2.1 q_2.2).2.2.2) ?_
      refine w_istore (pc' := 28) (ls' := [_, _, _, _]) k92_27 rfl rfl rfl ?_
      refine w_iload (pc' := 29) k92_28 rfl rfl ?_
      refine w_iload (pc' := 30) k92_29 rfl rfl ?_
      refine w_ic_ne (pc' := 33) k92_30 rfl (fun c_30 => ?_) (fun c_30 => ?_)
      · refine w_aload (pc' := 37) k92_36 rfl rfl ?_
        refine w_callV (pc' := 40) (as := [.inr (some 0)]) k92_37 rfl rfl (co_v rfl rfl (hL.1 0 (10, 12) rfl)) (by decide) (m107 hG0) (fun r_37 h_37 hq => ?_)
        obtain ⟨I_1, rfl, o1, o2⟩ := hq
        have hG1 := hG0.kept o1 o2
        refine w_aload (pc' := 41) k92_40 rfl rfl ?_
        refine w_getR (pc' := 44) (v := (ρ 7)) k92_41 rfl (hL.1 0 (10, 12) rfl) t7 ?_
        refine w_getR (pc' := 47) (v := ((ρ 7) + 5)) k92_44 rfl (hL.s0 h_r7) (hL.r4 h_r7) ?_
        refine w_iload (pc' := 48) k92_47 rfl rfl ?_
        refine w_iload (pc' := 49) k92_48 rfl rfl ?_
        refine w_iast (pc' := 50) k92_49 rfl (hL.s5 h_r7) (by omega) ?_
        have o3 : OnlyS I_1 (upA I_1 (ρ 7 + 5) (upF (I_1 (ρ 7 + 5)) f t)) (ρ 7) (γ (ρ 7)) := fun a q1 q2 => upA_n (by omega)
        obtain ⟨hG2, k0⟩ := hG1.chg o3.c (shift_CS ⟨g_r7.1, r7.2⟩ hG1.cs) (shift_AB hab q_10) ⟨Int.le_refl _, hB⟩ o2
        refine w_aload (pc' := 51) k92_50 rfl rfl ?_
        refine w_callV (pc' := 54) (as := [.inr (some 0)]) k92_51 rfl rfl (co_v rfl rfl (hL.1 0 (10, 12) rfl)) (by decide) (m108 hG2 k0 (hab)) (fun r_51 h_51 hq => ?_)
        obtain ⟨R_3, I_3, rfl, f3, r3, hG3⟩ := hq
        refine w_iload (pc' := 55) k92_54 rfl rfl ?_
        exact w_reti k92_55 ⟨by unfold shifV; rw [if_pos ⟨q_2, q_10⟩, if_neg c_30], by rw [show shifZ H (A, A1, A2, u) f t = pushZ (A, A1, A2, u) (shiftA A f t) from (if_pos ⟨q_2, q_10⟩).trans (if_neg c_30)]; exact ⟨_, _, _, rfl, fun a q1 q2 => (f3 a (by omega)).trans ((OnlyS.m hG1 (by decide) (by decide) o3 a q1 q2).trans (OnlyS.m hG0 (by decide) (by decide) o1 a q1 q2)), r3, hG3.mono ⟨by omega, hB1⟩⟩⟩
      · refine w_c2 (pc' := 35) k92_33 rfl ?_
        exact w_reti k92_35 ⟨by unfold shifV; rw [if_pos ⟨q_2, q_10⟩, if_pos c_30], by rw [show shifZ H (A, A1, A2, u) f t = (A, A1, A2, u) from (if_pos ⟨q_2, q_10⟩).trans (if_pos c_30)]; exact ⟨_, _, _, rfl, fun _ _ _ => rfl, RF.rf, hG0.mono ⟨by omega, hB1⟩⟩⟩
    · refine w_if_ne (pc' := 16) k92_13 rfl (fun c_13 => absurd c_13 (by decide)) (fun _ => ?_)
      refine w_c1 (pc' := 17) k92_16 rfl ?_
      exact w_reti k92_17 ⟨by unfold shifV; rw [if_neg (fun z => q_10 z.2)], by rw [show shifZ H (A, A1, A2, u) f t = (A, A1, A2, u) from if_neg (fun z => q_10 z.2)]; exact ⟨_, _, _, rfl, fun _ _ _ => rfl, RF.rf, hG0.mono ⟨by omega, hB1⟩⟩⟩
  · refine w_if_eq (pc' := 8) k92_5 rfl (fun _ => ?_) (fun c_5 => absurd c_5 (by decide))
    refine w_c1 (pc' := 17) k92_16 rfl ?_
    exact w_reti k92_17 ⟨by unfold shifV; rw [if_neg (fun z => q_2 z.1)], by rw [show shifZ H (A, A1, A2, u) f t = (A, A1, A2, u) from if_neg (fun z => q_2 z.1)]; exact ⟨_, _, _, rfl, fun _ _ _ => rfl, RF.rf, hG0.mono ⟨by omega, hB1⟩⟩⟩
theorem CG.txt (hG : CG sh R I K H E HO S L B ρ γ M A A1 A2 u tx len) {I' : Nat → Int → Int} {tx' : Int → Int} {len' : Int} (hf : ∀ a, a ≠ 1 → a ≠ 2 → I' a = I a) (ht : TX I' tx' len') : CG sh R I' K H E HO S L B ρ γ M A A1 A2 u tx' len' := by
  have hG0 := hG
  have hF0 := hG.cf
  obtain ⟨hL, hK, hsp, hro, hri, hga, hgi, hM, hLS, hB, ⟨hcs, hab⟩, hc1, hc2, ⟨hu, hu0⟩, htx⟩ := hG
  obtain ⟨h_r7, t7⟩ := hro 7 (by decide) (by decide)
  obtain ⟨h_r8, t8⟩ := hro 8 (by decide) (by decide)
  obtain ⟨h_r9, t9⟩ := hro 9 (by decide) (by decide)
  obtain ⟨h_r10, t10⟩ := hro 10 (by decide) (by decide)
  obtain ⟨m_r7, n_r7, g_r7, -⟩ := hga _ h_r7
  obtain ⟨m_r10, n_r10, g_r10, hp7, hp8⟩ := hga _ h_r10
  have r7 := h_r7.r
  have r10 := h_r10.r
  exact hG0.upd (fun a q1 q2 _ _ _ _ _ => hf a q1 q2) (hcs.keep (fun a q => hf a (by omega) (by omega))) hab ⟨Int.le_refl _, hB⟩ (by rw [hf (ρ 10) (by omega) (by omega)]; exact ⟨hp7, hp8⟩) ht
def wrV (len c : Int) : Int := if 32 ≤ c ∧ c ≤ 126 then (if len < 200 then len + 1 else -3) else -1
def wrT (tx : Int → Int) (len c : Int) : Int → Int := if (32 ≤ c ∧ c ≤ 126) ∧ len < 200 then upF tx len c else tx
def wrL (len c : Int) : Int := if (32 ≤ c ∧ c ≤ 126) ∧ len < 200 then len + 1 else len
theorem m69 (hG : CG sh R I K H E HO S L B ρ γ M A A1 A2 u tx len) (hB1 : B + 1 ≤ 1000000) {c : Int} : QC X (d + 2) 69 [.inr (some 0), .inl c] sh R I K H E HO S L (B + 1) γ M (wrV len c) ((A, A1, A2, u)) (wrT tx len c) (wrL len c) := by
  have hG0 := hG
  have hF0 := hG.cf
  obtain ⟨hL, hK, hsp, hro, hri, hga, hgi, hM, hLS, hB, ⟨hcs, hab⟩, hc1, hc2, ⟨hu, hu0⟩, htx⟩ := hG
  obtain ⟨h_r7, t7⟩ := hro 7 (by decide) (by decide)
  obtain ⟨h_r8, t8⟩ := hro 8 (by decide) (by decide)
  obtain ⟨h_r9, t9⟩ := hro 9 (by decide) (by decide)
  obtain ⟨h_r10, t10⟩ := hro 10 (by decide) (by decide)
  obtain ⟨m_r7, n_r7, g_r7, -⟩ := hga _ h_r7
  obtain ⟨m_r10, n_r10, g_r10, hp7, hp8⟩ := hga _ h_r10
  have hlen := htx.2.1
  show WP X (d + 2) 69 0 [.inr (some 0), .inl c] [] (sh, R, I) 0 0 _
  refine w_iload (pc' := 1) k69_0 rfl rfl ?_
  refine w_c2 (pc' := 3) k69_1 rfl ?_
  refine w_ic_lt (pc' := 6) k69_3 rfl (fun c_3 => ?_) (fun c_3 => ?_)
  · refine w_c1 (pc' := 13) k69_12 rfl ?_
    exact w_reti k69_13 ⟨by unfold wrV; rw [if_neg (by omega)], by rw [show wrT tx len c = tx from if_neg (by omega), show wrL len c = len from if_neg (by omega)]; exact ⟨_, _, _, rfl, fun _ _ _ => rfl, RF.rf, hG0.mono ⟨by omega, hB1⟩⟩⟩
  · refine w_iload (pc' := 7) k69_6 rfl rfl ?_
    refine w_c2 (pc' := 9) k69_7 rfl ?_
    refine w_ic_le (pc' := 12) k69_9 rfl (fun c_9 => ?_) (fun c_9 => ?_)
    · refine w_aload (pc' := 15) k69_14 rfl rfl ?_
      refine w_getR (pc' := 18) (v := 1) k69_15 rfl (hL.1 0 (10, 12) rfl) (hL.2 0 0 1 rfl) ?_
      refine w_iload (pc' := 19) k69_18 rfl rfl ?_
      refine w_i2c (pc' := 20) k69_19 rfl (by omega) ?_
      refine w_callI (pc' := 23) (as := [.inr (some 1), .inl _]) k69_20 rfl rfl (co_v rfl rfl (hL.1 1 (4, 4) rfl)) (by decide) (m12 hL htx (by omega)) (fun z_20 h_20 hq => ?_)
      obtain ⟨hx, hz, rfl⟩ | ⟨hx, hz, I_1, rfl, x1, x2⟩ := hq
      · have hz := Sum.inl.inj hz
        subst hz
        refine w_if_eq (pc' := 26) k69_23 rfl (fun _ => ?_) (fun c_23 => absurd c_23 (by decide))
        refine w_c2 (pc' := 38) k69_36 rfl ?_
        exact w_reti k69_38 ⟨by unfold wrV; rw [if_pos (by omega), if_neg (by omega)], by rw [show wrT tx len c = tx from if_neg (by omega), show wrL len c = len from if_neg (by omega)]; exact ⟨_, _, _, rfl, fun _ _ _ => rfl, RF.rf, hG0.mono ⟨by omega, hB1⟩⟩⟩
      · have hz := Sum.inl.inj hz
        subst hz
        refine w_if_eq (pc' := 26) k69_23 rfl (fun c_23 => absurd c_23 (by decide)) (fun _ => ?_)
        refine w_aload (pc' := 27) k69_26 rfl rfl ?_
        refine w_getR (pc' := 30) (v := 1) k69_27 rfl (hL.1 0 (10, 12) rfl) (hL.2 0 0 1 rfl) ?_
        refine w_getI (pc' := 33) (ki := 1) (v := len + 1) k69_30 rfl (hL.1 1 (4, 4) rfl) rfl x2.1 ?_
        refine w_goto k69_33 ?_
        exact w_reti k69_38 ⟨by unfold wrV; rw [if_pos (by omega), if_pos hx], _, _, _, rfl, fun a q1 q2 => x1 a (by omega) (by omega), RF.rf, by rw [show wrT tx len c = upF tx len c from if_pos (by omega), show wrL len c = len + 1 from if_pos (by omega)]; exact (hG0.txt x1 x2).mono ⟨by omega, hB1⟩⟩
    · refine w_c1 (pc' := 13) k69_12 rfl ?_
      exact w_reti k69_13 ⟨by unfold wrV; rw [if_neg (by omega)], by rw [show wrT tx len c = tx from if_neg (by omega), show wrL len c = len from if_neg (by omega)]; exact ⟨_, _, _, rfl, fun _ _ _ => rfl, RF.rf, hG0.mono ⟨by omega, hB1⟩⟩⟩
theorem m70 (hG : CG sh R I K H E HO S L B ρ γ M A A1 A2 u tx len) (hB1 : B + 1 ≤ 1000000) : QC X (d + 1) 70 [.inr (some 0)] sh R I K H E HO S L (B + 1) γ M (len) ((A, A1, A2, u)) (tx) (0) := by
  have hG0 := hG
  have hF0 := hG.cf
  obtain ⟨hL, hK, hsp, hro, hri, hga, hgi, hM, hLS, hB, ⟨hcs, hab⟩, hc1, hc2, ⟨hu, hu0⟩, htx⟩ := hG
  obtain ⟨h_r7, t7⟩ := hro 7 (by decide) (by decide)
  obtain ⟨h_r8, t8⟩ := hro 8 (by decide) (by decide)
  obtain ⟨h_r9, t9⟩ := hro 9 (by decide) (by decide)
  obtain ⟨h_r10, t10⟩ := hro 10 (by decide) (by decide)
  obtain ⟨m_r7, n_r7, g_r7, -⟩ := hga _ h_r7
  obtain ⟨m_r10, n_r10, g_r10, hp7, hp8⟩ := hga _ h_r10
  show WP X (d + 1) 70 0 [.inr (some 0), .inr none] [] (sh, R, I) 0 0 _
  refine w_aload (pc' := 1) k70_0 rfl rfl ?_
  refine w_getR (pc' := 4) (v := 1) k70_1 rfl (hL.1 0 (10, 12) rfl) (hL.2 0 0 1 rfl) ?_
  refine w_getI (pc' := 7) (ki := 1) (v := len) k70_4 rfl (hL.1 1 (4, 4) rfl) rfl htx.1 ?_
  refine w_istore (pc' := 8) (ls' := [_, _]) k70_7 rfl rfl rfl ?_
  refine w_aload (pc' := 9) k70_8 rfl rfl ?_
  refine w_getR (pc' := 12) (v := 1) k70_9 rfl (hL.1 0 (10, 12) rfl) (hL.2 0 0 1 rfl) ?_
  refine w_c1 (pc' := 13) k70_12 rfl ?_
  refine w_putI (pc' := 16) (ki := 1) k70_13 rfl (hL.1 1 (4, 4) rfl) rfl ?_
  refine w_iload (pc' := 17) k70_16 rfl rfl ?_
  exact w_reti k70_17 ⟨rfl, _, _, _, rfl, fun a q1 q2 => upA_n (by omega), RF.rf, (hG0.txt (fun a q1 q2 => upA_n q1) ⟨(show upA I 1 (upF (I 1) 1 0) 1 1 = 0 by rw [upA_s, upF_s]), by omega, fun j q1 q2 => by omega⟩).mono ⟨by omega, hB1⟩⟩
theorem CG.dr (hG : CG sh R I K H E HO S L B ρ γ M A A1 A2 u tx len) {I' : Nat → Int → Int} (h : DR I I' (ρ 10)) : CG sh R I' K H E HO S L B ρ γ M A A1 A2 u tx len := by
  have hG0 := hG
  have hF0 := hG.cf
  obtain ⟨hL, hK, hsp, hro, hri, hga, hgi, hM, hLS, hB, ⟨hcs, hab⟩, hc1, hc2, ⟨hu, hu0⟩, htx⟩ := hG
  obtain ⟨h_r7, t7⟩ := hro 7 (by decide) (by decide)
  obtain ⟨h_r8, t8⟩ := hro 8 (by decide) (by decide)
  obtain ⟨h_r9, t9⟩ := hro 9 (by decide) (by decide)
  obtain ⟨h_r10, t10⟩ := hro 10 (by decide) (by decide)
  obtain ⟨m_r7, n_r7, g_r7, -⟩ := hga _ h_r7
  obtain ⟨m_r10, n_r10, g_r10, hp7, hp8⟩ := hga _ h_r10
  have r7 := h_r7.r
  have r10 := h_r10.r
  have n710 : ρ 7 ≠ ρ 10 := fun e => absurd (hri 7 10 (by decide) (by decide) (by decide) (by decide) e) (by decide)
  have ap := h_r7.apart h_r10 n710
  exact hG0.upd (fun a q1 _ _ _ _ q6 _ => h.1 a q1 q6) (hcs.keep (fun a q => h.1 a (by omega) (by omega))) hab ⟨Int.le_refl _, hB⟩ ⟨h.2.2.1.trans hp7, h.2.2.2.trans hp8⟩ (h.tx9 h_r10 htx)
theorem m71 (hG : CG sh R I K H E HO S L B ρ γ M A A1 A2 u tx len) (hB1 : B + 1 ≤ 1000000) : WPM X (d + 6) 71 [.inr (some 0)] (sh, R, I) 0 0 (fun r h' => ∃ v stE, r = .inl v ∧ readR tx len 300 ps0 0 v stE ∧ ∃ I', h' = (sh, R, I') ∧ (∀ a, 57 ≤ a → a ≤ 77 → I' a = I a) ∧ CG sh R I' K H E HO S L (B + 1) ρ γ M A A1 A2 u tx len) := by
  have hG0 := hG
  have hF0 := hG.cf
  obtain ⟨hL, hK, hsp, hro, hri, hga, hgi, hM, hLS, hB, ⟨hcs, hab⟩, hc1, hc2, ⟨hu, hu0⟩, htx⟩ := hG
  obtain ⟨h_r7, t7⟩ := hro 7 (by decide) (by decide)
  obtain ⟨h_r8, t8⟩ := hro 8 (by decide) (by decide)
  obtain ⟨h_r9, t9⟩ := hro 9 (by decide) (by decide)
  obtain ⟨h_r10, t10⟩ := hro 10 (by decide) (by decide)
  obtain ⟨m_r7, n_r7, g_r7, -⟩ := hga _ h_r7
  obtain ⟨m_r10, n_r10, g_r10, hp7, hp8⟩ := hga _ h_r10
  have r10 := h_r10.r
  show WP X (d + 6) 71 0 [.inr (some 0)] [] (sh, R, I) 0 0 _
  refine w_aload (pc' := 1) k71_0 rfl rfl ?_
  refine w_getR (pc' := 4) (v := 1) k71_1 rfl (hL.1 0 (10, 12) rfl) (hL.2 0 0 1 rfl) ?_
  refine w_aload (pc' := 5) k71_4 rfl rfl ?_
  refine w_getR (pc' := 8) (v := (ρ 10)) k71_5 rfl (hL.1 0 (10, 12) rfl) t10 ?_
  refine w_callI (pc' := 11) (as := [.inr (some 1), .inr (some (ρ 10))]) k71_8 rfl rfl (co_v rfl rfl (hL.1 1 (4, 4) rfl)) (by decide) (m13 hL h_r10 htx) (fun z_8 h_8 hq => ?_)
  obtain ⟨v, stE, I_1, hz, rfl, w3, w4, w5⟩ := hq
  have hz := Sum.inl.inj hz
  subst hz
  exact w_reti k71_11 ⟨_, _, rfl, w4, _, rfl, fun a q1 q2 => w3.1 a (by omega) (by omega), (hG0.dr w3).mono ⟨by omega, hB1⟩⟩
end C50
