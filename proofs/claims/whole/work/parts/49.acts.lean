/-! ===== CLASS: cut, tick, flows ===== -/
section C49
variable {X : Nat × (Int → Int)} {d : Nat} {sh : List (Nat × Nat)} {R : Nat → Nat → Option Nat} {I : Nat → Int → Int} {K H E HO S L B : Int} {ρ γ : Nat → Nat} {M : Nat} {A A1 A2 : AS} {u : Int} {tx : Int → Int} {len : Int}
def cutV (L : Int) (A : AS) (l w : Int) : Int := if (0 ≤ l ∧ l < L) ∧ 0 ≤ w ∧ w ≤ 1 then (if (ev (aAg A l) = true ↔ w = 0) then -2 else aAg A l + 1) else -1
def cutZ (H E L : Int) (z : ZZ) (l w : Int) : ZZ := if (0 ≤ l ∧ l < L) ∧ 0 ≤ w ∧ w ≤ 1 then (if (ev (aAg z.1 l) = true ↔ w = 0) then z else pushZ z (turnA H E z.1 l)) else z
theorem m76 (hG : CG sh R I K H E HO S L B ρ γ M A A1 A2 u tx len) (hB1 : B + 1 ≤ 1000000) {l w : Int} : QC X (d + 3) 76 [.inr (some 0), .inl l, .inl w] sh R I K H E HO S L (B + 1) γ M (cutV L A l w) (cutZ H E L (A, A1, A2, u) l w) (tx) (len) := by
  have hG0 := hG
  have hF0 := hG.cf
  obtain ⟨hL, hK, hsp, hro, hri, hga, hgi, hM, hLS, hB, ⟨hcs, hab⟩, hc1, hc2, ⟨hu, hu0⟩, htx⟩ := hG
  obtain ⟨h_r7, t7⟩ := hro 7 (by decide) (by decide)
  obtain ⟨h_r8, t8⟩ := hro 8 (by decide) (by decide)
  obtain ⟨h_r9, t9⟩ := hro 9 (by decide) (by decide)
  obtain ⟨h_r10, t10⟩ := hro 10 (by decide) (by decide)
  obtain ⟨m_r7, n_r7, g_r7, -⟩ := hga _ h_r7
  obtain ⟨m_r10, n_r10, g_r10, hp7, hp8⟩ := hga _ h_r10
  have hr := hK.r
  show WP X (d + 3) 76 0 [.inr (some 0), .inl l, .inl w] [] (sh, R, I) 0 0 _
  refine w_aload (pc' := 1) k76_0 rfl rfl ?_
  refine w_iload (pc' := 2) k76_1 rfl rfl ?_
  refine w_callB (pc' := 5) (as := [.inr (some 0), .inl _]) k76_2 rfl rfl (co_v rfl rfl (hL.1 0 (10, 12) rfl)) (by decide) (m100 hF0) (fun q_2 => ?_) (fun q_2 => ?_)
  · refine w_if_eq (pc' := 8) k76_5 rfl (fun c_5 => absurd c_5 (by decide)) (fun _ => ?_)
    refine w_iload (pc' := 9) k76_8 rfl rfl ?_
    refine w_if_lt (pc' := 12) k76_9 rfl (fun c_9 => ?_) (fun c_9 => ?_)
    · refine w_c1 (pc' := 18) k76_17 rfl ?_
      exact w_reti k76_18 ⟨by unfold cutV; rw [if_neg (by omega)], by rw [show cutZ H E L (A, A1, A2, u) l w = (A, A1, A2, u) from if_neg (by omega)]; exact ⟨_, _, _, rfl, fun _ _ _ => rfl, RF.rf, hG0.mono ⟨by omega, hB1⟩⟩⟩
    · refine w_iload (pc' := 13) k76_12 rfl rfl ?_
      refine w_c1 (pc' := 14) k76_13 rfl ?_
      refine w_ic_le (pc' := 17) k76_14 rfl (fun c_14 => ?_) (fun c_14 => ?_)
      · refine w_aload (pc' := 20) k76_19 rfl rfl ?_
        refine w_getR (pc' := 23) (v := (ρ 7)) k76_20 rfl (hL.1 0 (10, 12) rfl) t7 ?_
        refine w_iload (pc' := 24) k76_23 rfl rfl ?_
        refine w_callB (pc' := 27) (as := [.inr (some (ρ 7)), .inl _]) k76_24 rfl rfl (co_v rfl rfl (hL.s0 h_r7)) (by decide) (m49 hF0 q_2) (fun q_24 => ?_) (fun q_24 => ?_)
        · refine w_iload (pc' := 28) k76_27 rfl rfl ?_
          refine w_if_ne (pc' := 31) k76_28 rfl (fun c_28 => ?_) (fun c_28 => ?_)
          · refine w_c1 (pc' := 36) k76_35 rfl ?_
            refine w_ic_ne (pc' := 39) k76_36 rfl (fun _ => ?_) (fun c_36 => absurd c_36 (by decide))
            refine w_aload (pc' := 43) k76_42 rfl rfl ?_
            refine w_callV (pc' := 46) (as := [.inr (some 0)]) k76_43 rfl rfl (co_v rfl rfl (hL.1 0 (10, 12) rfl)) (by decide) (m107 hG0) (fun r_43 h_43 hq => ?_)
            obtain ⟨I_1, rfl, o1, o2⟩ := hq
            have hG1 := hG0.kept o1 o2
            refine w_aload (pc' := 47) k76_46 rfl rfl ?_
            refine w_iload (pc' := 48) k76_47 rfl rfl ?_
            refine w_callV (pc' := 51) (as := [.inr (some 0), .inl _]) k76_48 rfl rfl (co_v rfl rfl (hL.1 0 (10, 12) rfl)) (by decide) (m109 hG1.cf t7 q_2) (fun r_48 h_48 hq => ?_)
            obtain ⟨I_2, rfl, o3, o4⟩ := hq
            obtain ⟨hG2, k0⟩ := hG1.chg o3.c o4 (turn_AB hK hab q_2) ⟨by omega, hB1⟩ o2
            refine w_aload (pc' := 52) k76_51 rfl rfl ?_
            refine w_callV (pc' := 55) (as := [.inr (some 0)]) k76_52 rfl rfl (co_v rfl rfl (hL.1 0 (10, 12) rfl)) (by decide) (m108 hG2 k0 (hab.mono (by omega))) (fun r_52 h_52 hq => ?_)
            obtain ⟨R_3, I_3, rfl, f3, r3, hG3⟩ := hq
            refine w_aload (pc' := 56) k76_55 rfl rfl ?_
            refine w_getR (pc' := 59) (v := (ρ 7)) k76_56 rfl (hL.1 0 (10, 12) rfl) (hG3.ro (k := 7) (by decide) (by decide)) ?_
            refine w_getR (pc' := 62) (v := (ρ 7 + 1)) k76_59 rfl (hL.s0 h_r7) (hG3.1.r0 h_r7) ?_
            refine w_iload (pc' := 63) k76_62 rfl rfl ?_
            refine w_iald (pc' := 64) (v := aAg A l + 1) k76_63 rfl (hL.s1 h_r7) (by first | omega | (rcases hK with ⟨rfl, rfl, rfl, rfl, rfl, rfl⟩ | ⟨rfl, rfl, rfl, rfl, rfl, rfl⟩ | ⟨rfl, rfl, rfl, rfl, rfl, rfl⟩ <;> omega)) ((hG3.cs.2.2.2.1 l q_2.1 q_2.2).trans upF_s) ?_
            exact w_reti k76_64 ⟨by unfold cutV; rw [if_pos ⟨q_2, c_9, c_14⟩, if_neg (fun z => c_28 (z.mp q_24))], by rw [show cutZ H E L (A, A1, A2, u) l w = pushZ (A, A1, A2, u) (turnA H E A l) from (if_pos ⟨q_2, c_9, c_14⟩).trans (if_neg (fun z => c_28 (z.mp q_24)))]; exact ⟨_, _, _, rfl, fun a q1 q2 => (f3 a (by omega)).trans ((OnlyS.m hG1 (by decide) (by decide) o3 a q1 q2).trans (OnlyS.m hG0 (by decide) (by decide) o1 a q1 q2)), r3, hG3⟩⟩
          · refine w_c1 (pc' := 32) k76_31 rfl ?_
            refine w_goto k76_32 ?_
            refine w_ic_ne (pc' := 39) k76_36 rfl (fun c_36 => absurd c_36 (by decide)) (fun _ => ?_)
            refine w_c2 (pc' := 41) k76_39 rfl ?_
            exact w_reti k76_41 ⟨by unfold cutV; rw [if_pos ⟨q_2, c_9, c_14⟩, if_pos (⟨fun _ => c_28, fun _ => q_24⟩)], by rw [show cutZ H E L (A, A1, A2, u) l w = (A, A1, A2, u) from (if_pos ⟨q_2, c_9, c_14⟩).trans (if_pos (⟨fun _ => c_28, fun _ => q_24⟩))]; exact ⟨_, _, _, rfl, fun _ _ _ => rfl, RF.rf, hG0.mono ⟨by omega, hB1⟩⟩⟩
        · refine w_iload (pc' := 28) k76_27 rfl rfl ?_
          refine w_if_ne (pc' := 31) k76_28 rfl (fun c_28 => ?_) (fun c_28 => ?_)
          · refine w_c1 (pc' := 36) k76_35 rfl ?_
            refine w_ic_ne (pc' := 39) k76_36 rfl (fun c_36 => absurd c_36 (by decide)) (fun _ => ?_)
            refine w_c2 (pc' := 41) k76_39 rfl ?_
            exact w_reti k76_41 ⟨by unfold cutV; rw [if_pos ⟨q_2, c_9, c_14⟩, if_pos (⟨fun z => absurd z q_24, fun z => absurd z c_28⟩)], by rw [show cutZ H E L (A, A1, A2, u) l w = (A, A1, A2, u) from (if_pos ⟨q_2, c_9, c_14⟩).trans (if_pos (⟨fun z => absurd z q_24, fun z => absurd z c_28⟩))]; exact ⟨_, _, _, rfl, fun _ _ _ => rfl, RF.rf, hG0.mono ⟨by omega, hB1⟩⟩⟩
          · refine w_c1 (pc' := 32) k76_31 rfl ?_
            refine w_goto k76_32 ?_
            refine w_ic_ne (pc' := 39) k76_36 rfl (fun _ => ?_) (fun c_36 => absurd c_36 (by decide))
            refine w_aload (pc' := 43) k76_42 rfl rfl ?_
            refine w_callV (pc' := 46) (as := [.inr (some 0)]) k76_43 rfl rfl (co_v rfl rfl (hL.1 0 (10, 12) rfl)) (by decide) (m107 hG0) (fun r_43 h_43 hq => ?_)
            obtain ⟨I_1, rfl, o1, o2⟩ := hq
            have hG1 := hG0.kept o1 o2
            refine w_aload (pc' := 47) k76_46 rfl rfl ?_
            refine w_iload (pc' := 48) k76_47 rfl rfl ?_
            refine w_callV (pc' := 51) (as := [.inr (some 0), .inl _]) k76_48 rfl rfl (co_v rfl rfl (hL.1 0 (10, 12) rfl)) (by decide) (m109 hG1.cf t7 q_2) (fun r_48 h_48 hq => ?_)
            obtain ⟨I_2, rfl, o3, o4⟩ := hq
            obtain ⟨hG2, k0⟩ := hG1.chg o3.c o4 (turn_AB hK hab q_2) ⟨by omega, hB1⟩ o2
            refine w_aload (pc' := 52) k76_51 rfl rfl ?_
            refine w_callV (pc' := 55) (as := [.inr (some 0)]) k76_52 rfl rfl (co_v rfl rfl (hL.1 0 (10, 12) rfl)) (by decide) (m108 hG2 k0 (hab.mono (by omega))) (fun r_52 h_52 hq => ?_)
            obtain ⟨R_3, I_3, rfl, f3, r3, hG3⟩ := hq
            refine w_aload (pc' := 56) k76_55 rfl rfl ?_
            refine w_getR (pc' := 59) (v := (ρ 7)) k76_56 rfl (hL.1 0 (10, 12) rfl) (hG3.ro (k := 7) (by decide) (by decide)) ?_
            refine w_getR (pc' := 62) (v := (ρ 7 + 1)) k76_59 rfl (hL.s0 h_r7) (hG3.1.r0 h_r7) ?_
            refine w_iload (pc' := 63) k76_62 rfl rfl ?_
            refine w_iald (pc' := 64) (v := aAg A l + 1) k76_63 rfl (hL.s1 h_r7) (by first | omega | (rcases hK with ⟨rfl, rfl, rfl, rfl, rfl, rfl⟩ | ⟨rfl, rfl, rfl, rfl, rfl, rfl⟩ | ⟨rfl, rfl, rfl, rfl, rfl, rfl⟩ <;> omega)) ((hG3.cs.2.2.2.1 l q_2.1 q_2.2).trans upF_s) ?_
            exact w_reti k76_64 ⟨by unfold cutV; rw [if_pos ⟨q_2, c_9, c_14⟩, if_neg (fun z => q_24 (z.mpr c_28))], by rw [show cutZ H E L (A, A1, A2, u) l w = pushZ (A, A1, A2, u) (turnA H E A l) from (if_pos ⟨q_2, c_9, c_14⟩).trans (if_neg (fun z => q_24 (z.mpr c_28)))]; exact ⟨_, _, _, rfl, fun a q1 q2 => (f3 a (by omega)).trans ((OnlyS.m hG1 (by decide) (by decide) o3 a q1 q2).trans (OnlyS.m hG0 (by decide) (by decide) o1 a q1 q2)), r3, hG3⟩⟩
      · refine w_c1 (pc' := 18) k76_17 rfl ?_
        exact w_reti k76_18 ⟨by unfold cutV; rw [if_neg (by omega)], by rw [show cutZ H E L (A, A1, A2, u) l w = (A, A1, A2, u) from if_neg (by omega)]; exact ⟨_, _, _, rfl, fun _ _ _ => rfl, RF.rf, hG0.mono ⟨by omega, hB1⟩⟩⟩
  · refine w_if_eq (pc' := 8) k76_5 rfl (fun _ => ?_) (fun c_5 => absurd c_5 (by decide))
    refine w_c1 (pc' := 18) k76_17 rfl ?_
    exact w_reti k76_18 ⟨by unfold cutV; rw [if_neg (fun z => q_2 z.1)], by rw [show cutZ H E L (A, A1, A2, u) l w = (A, A1, A2, u) from if_neg (fun z => q_2 z.1)]; exact ⟨_, _, _, rfl, fun _ _ _ => rfl, RF.rf, hG0.mono ⟨by omega, hB1⟩⟩⟩
def tickZ (H E S L : Int) (z : ZZ) (t : Nat) : ZZ := if 0 < tickS H E S L z.1 t then pushZ z (tickA H E L z.1 t) else (tickA H E L z.1 t, z.2)
theorem tick_AB (hK : KP K H E HO S L) (h : AB H HO S L B A) {t : Nat} : AB H HO S L B (tickA H E L A t) :=
  ⟨h.1, fun n l q1 q2 q3 q4 => tkN_r (m0 := fun n => aMk A n l) hK (fun n p1 p2 => h.2.1 n l p1 p2 q3 q4) t n q1 q2, h.2.2.1, h.2.2.2⟩
theorem m79 (hG : CG sh R I K H E HO S L B ρ γ M A A1 A2 u tx len) (hB1 : B + 1 ≤ 1000000) {t : Int} : QC X (d + 4) 79 [.inr (some 0), .inl t] sh R I K H E HO S L (B + 1) γ M (if 1 ≤ t ∧ t ≤ 9 then tickS H E S L A t.toNat else -1) (if 1 ≤ t ∧ t ≤ 9 then tickZ H E S L (A, A1, A2, u) t.toNat else (A, A1, A2, u)) (tx) (len) := by
  have hG0 := hG
  have hF0 := hG.cf
  obtain ⟨hL, hK, hsp, hro, hri, hga, hgi, hM, hLS, hB, ⟨hcs, hab⟩, hc1, hc2, ⟨hu, hu0⟩, htx⟩ := hG
  obtain ⟨h_r7, t7⟩ := hro 7 (by decide) (by decide)
  obtain ⟨h_r8, t8⟩ := hro 8 (by decide) (by decide)
  obtain ⟨h_r9, t9⟩ := hro 9 (by decide) (by decide)
  obtain ⟨h_r10, t10⟩ := hro 10 (by decide) (by decide)
  obtain ⟨m_r7, n_r7, g_r7, -⟩ := hga _ h_r7
  obtain ⟨m_r10, n_r10, g_r10, hp7, hp8⟩ := hga _ h_r10
  have hr := hK.r
  show WP X (d + 4) 79 0 [.inr (some 0), .inl t, .inr none] [] (sh, R, I) 0 0 _
  refine w_iload (pc' := 1) k79_0 rfl rfl ?_
  refine w_c1 (pc' := 2) k79_1 rfl ?_
  refine w_ic_lt (pc' := 5) k79_2 rfl (fun c_2 => ?_) (fun c_2 => ?_)
  · refine w_c1 (pc' := 12) k79_11 rfl ?_
    exact w_reti k79_12 ⟨by rw [if_neg (by omega)], by rw [if_neg (by omega)]; exact ⟨_, _, _, rfl, fun _ _ _ => rfl, RF.rf, hG0.mono ⟨by omega, hB1⟩⟩⟩
  · refine w_iload (pc' := 6) k79_5 rfl rfl ?_
    refine w_c2 (pc' := 8) k79_6 rfl ?_
    refine w_ic_le (pc' := 11) k79_8 rfl (fun c_8 => ?_) (fun c_8 => ?_)
    · obtain ⟨T, rfl⟩ : ∃ T : Nat, t = (T : Int) := ⟨t.toNat, by omega⟩
      refine w_aload (pc' := 14) k79_13 rfl rfl ?_
      refine w_callV (pc' := 17) (as := [.inr (some 0)]) k79_14 rfl rfl (co_v rfl rfl (hL.1 0 (10, 12) rfl)) (by decide) (m107 hG0) (fun r_14 h_14 hq => ?_)
      obtain ⟨I_1, rfl, o1, o2⟩ := hq
      have hG1 := hG0.kept o1 o2
      refine w_aload (pc' := 18) k79_17 rfl rfl ?_
      refine w_getR (pc' := 21) (v := 15) k79_18 rfl (hL.1 0 (10, 12) rfl) (hL.2 0 3 15 rfl) ?_
      refine w_aload (pc' := 22) k79_21 rfl rfl ?_
      refine w_getR (pc' := 25) (v := (ρ 7)) k79_22 rfl (hL.1 0 (10, 12) rfl) t7 ?_
      refine w_iload (pc' := 26) k79_25 rfl rfl ?_
      refine w_callI (pc' := 29) (as := [.inr (some 15), .inr (some (ρ 7)), .inl _]) k79_26 rfl rfl (co_v rfl rfl (hL.1 15 (8, 2) rfl)) (by decide) (m59 (T := T) hG1.cf (by omega)) (fun z_26 h_26 hq => ?_)
      obtain ⟨hz, I_2, rfl, o3, o4⟩ := hq
      have hz := Sum.inl.inj hz
      subst hz
      have hF2 := hG1.cf.marks o3 o4 ⟨rfl, rfl⟩ (tick_AB hK hab)
      have o3b : ∀ a, (a < 12 ∨ 24 < a) → (a < ρ 7 ∨ ρ 7 + 5 < a) → a ≠ γ (ρ 7) → I_2 a = I_1 a := fun a q1 _ q3 => o3 a q3 (by omega)
      obtain ⟨hG2, k0⟩ := hG1.chg o3b hF2.2.2.2.2.2.2.2.2.2.1 (tick_AB hK hab) ⟨Int.le_refl _, hB⟩ o2
      have o3c : ∀ a, 57 ≤ a → a ≤ 77 → I_2 a = I_1 a := fun a q1 q2 => o3 a (by omega) (by omega)
      refine w_istore (pc' := 30) (ls' := [_, _, _]) k79_29 rfl rfl rfl ?_
      refine w_iload (pc' := 31) k79_30 rfl rfl ?_
      refine w_if_le (pc' := 34) k79_31 rfl (fun c_31 => ?_) (fun c_31 => ?_)
      · refine w_iload (pc' := 39) k79_38 rfl rfl ?_
        exact w_reti k79_39 ⟨by rw [if_pos (show 1 ≤ (T : Int) ∧ (T : Int) ≤ 9 by omega), Int.toNat_natCast], by rw [if_pos (show 1 ≤ (T : Int) ∧ (T : Int) ≤ 9 by omega), Int.toNat_natCast, show tickZ H E S L (A, A1, A2, u) T = (tickA H E L A T, A1, A2, u) from if_neg (show ¬ 0 < tickS H E S L A T by omega)]; exact ⟨_, _, _, rfl, fun a q1 q2 => (o3c a q1 q2).trans (OnlyS.m hG0 (by decide) (by decide) o1 a q1 q2), RF.rf, (hG2).mono ⟨by omega, hB1⟩⟩⟩
      · refine w_aload (pc' := 35) k79_34 rfl rfl ?_
        refine w_callV (pc' := 38) (as := [.inr (some 0)]) k79_35 rfl rfl (co_v rfl rfl (hL.1 0 (10, 12) rfl)) (by decide) (m108 hG2 k0 (hab)) (fun r_35 h_35 hq => ?_)
        obtain ⟨R_3, I_3, rfl, f3, r3, hG3⟩ := hq
        refine w_iload (pc' := 39) k79_38 rfl rfl ?_
        exact w_reti k79_39 ⟨by rw [if_pos (show 1 ≤ (T : Int) ∧ (T : Int) ≤ 9 by omega), Int.toNat_natCast], by rw [if_pos (show 1 ≤ (T : Int) ∧ (T : Int) ≤ 9 by omega), Int.toNat_natCast, show tickZ H E S L (A, A1, A2, u) T = pushZ (A, A1, A2, u) (tickA H E L A T) from if_pos (show 0 < tickS H E S L A T by omega)]; exact ⟨_, _, _, rfl, fun a q1 q2 => (f3 a (by omega)).trans ((o3c a q1 q2).trans (OnlyS.m hG0 (by decide) (by decide) o1 a q1 q2)), r3, (hG3).mono ⟨by omega, hB1⟩⟩⟩
    · refine w_c1 (pc' := 12) k79_11 rfl ?_
      exact w_reti k79_12 ⟨by rw [if_neg (by omega)], by rw [if_neg (by omega)]; exact ⟨_, _, _, rfl, fun _ _ _ => rfl, RF.rf, hG0.mono ⟨by omega, hB1⟩⟩⟩
end C49
