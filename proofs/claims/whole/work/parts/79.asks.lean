/-! ===== REFERENCE: told, load, least, would ===== -/
section M79
variable {X : Nat × (Int → Int)} {d : Nat} {sh : List (Nat × Nat)} {R : Nat → Nat → Option Nat} {I : Nat → Int → Int} {K H E HO S L B : Int} {A : AS}
theorem SE.qm {I1 : Nat → Int → Int} (h : SE I I1) : (∀ a, (a < 57 ∨ 77 < a) ∨ (57 < a ∧ a < 67) → I1 a = I a) ∧ ∀ j, j < 14 → I1 57 j = I 57 j := ⟨fun a q => h.1 a (by omega) (by omega), fun j q => h.2 j (by omega) (by omega)⟩
theorem m180l (hF : MF sh R I K H E HO S L B A) {c : Int → Int} {q : Int → Int → Int} (hc : ∀ f, 0 ≤ f → f < 16 → 0 ≤ c f ∧ c f ≤ 6) (hs : ∀ f, 0 ≤ f → f < aNf A → I 75 f = shG c q f) {N : Nat} (hN : aNf A = (N : Int)) : ∀ (k m : Nat) (x i : Int), m + k = N → i = (m : Int) → x = (if m = 0 then -4 else lsG c q m) → WP X (d + 1) 180 5 [.inr (some 57), .inl x, .inl i] [] (sh, R, I) 0 0 (fun r h' => r = .inl (if aNf A = 0 then -4 else lsG c q (aNf A).toNat) ∧ h' = (sh, R, I)) := by
  have hF0 := hF
  obtain ⟨hM, hK, hpo, hha, hms, hab, hB⟩ := hF
  have hr := hK.r
  have hnf := hab.2.2.1
  intro k
  induction k with
  | zero =>
    rintro m x i hk rfl hx
    have e : m = N := by omega
    subst e
    refine w_iload (pc' := 6) k180_5 rfl rfl ?_
    refine w_aload (pc' := 7) k180_6 rfl rfl ?_
    refine w_getI (pc' := 10) (ki := 7) (v := aNf A) k180_7 rfl (hM.1 57 (11, 30) rfl) rfl hms.1 ?_
    refine w_ic_ge (pc' := 13) k180_10 rfl (fun c_10 => ?_) (fun c_10 => absurd c_10 (by omega))
    refine w_iload (pc' := 45) k180_44 rfl rfl ?_
    refine w_reti k180_45 ⟨?_, rfl⟩
    rw [hx, show (aNf A).toNat = m by omega]
    by_cases c0 : m = 0
    · rw [if_pos c0, if_pos (by omega)]
    · rw [if_neg c0, if_neg (by omega)]
  | succ k ih =>
    rintro m x i hk rfl hx
    have hl := lsG_le (q := q) hc m
    have hg := shG_le (f := (m : Int)) (q := q) hc
    have hv := hs m (by omega) (by omega)
    have hx2 : (m = 0 ∧ x = -4) ∨ (m ≠ 0 ∧ x = lsG c q m) := by
      by_cases c0 : m = 0
      · rw [if_pos c0] at hx; exact Or.inl ⟨c0, hx⟩
      · rw [if_neg c0] at hx; exact Or.inr ⟨c0, hx⟩
    refine w_iload (pc' := 6) k180_5 rfl rfl ?_
    refine w_aload (pc' := 7) k180_6 rfl rfl ?_
    refine w_getI (pc' := 10) (ki := 7) (v := aNf A) k180_7 rfl (hM.1 57 (11, 30) rfl) rfl hms.1 ?_
    refine w_ic_ge (pc' := 13) k180_10 rfl (fun c_10 => absurd c_10 (by omega)) (fun c_10 => ?_)
    refine w_iload (pc' := 14) k180_13 rfl rfl ?_
    refine w_if_lt (pc' := 17) k180_14 rfl (fun c_14 => ?_) (fun c_14 => ?_)
    · refine w_aload (pc' := 28) k180_27 rfl rfl ?_
      refine w_getR (pc' := 31) (v := 75) k180_28 rfl (hM.1 57 (11, 30) rfl) (hM.2 57 26 75 rfl) ?_
      refine w_iload (pc' := 32) k180_31 rfl rfl ?_
      refine w_iald (pc' := 33) (v := shG c q m) k180_32 rfl (hM.1 75 (0, 16) rfl) (by omega) hv ?_
      refine w_goto k180_33 ?_
      refine w_istore (pc' := 38) (ls' := [_, _, _]) k180_37 rfl rfl rfl ?_
      refine w_iinc (pc' := 41) (ls' := [_, _, _]) k180_38 rfl rfl (by omega) rfl ?_
      refine w_goto k180_41 ?_
      refine ih (m + 1) _ _ (by omega) (by omega) ?_
      rw [if_neg (by omega), lsG]
      rcases hx2 with ⟨c0, hx2⟩ | ⟨c0, hx2⟩
      · subst c0; rw [lsG]; omega
      · omega
    · refine w_aload (pc' := 18) k180_17 rfl rfl ?_
      refine w_getR (pc' := 21) (v := 75) k180_18 rfl (hM.1 57 (11, 30) rfl) (hM.2 57 26 75 rfl) ?_
      refine w_iload (pc' := 22) k180_21 rfl rfl ?_
      refine w_iald (pc' := 23) (v := shG c q m) k180_22 rfl (hM.1 75 (0, 16) rfl) (by omega) hv ?_
      refine w_iload (pc' := 24) k180_23 rfl rfl ?_
      refine w_ic_ge (pc' := 27) k180_24 rfl (fun c_24 => ?_) (fun c_24 => ?_)
      · refine w_iload (pc' := 37) k180_36 rfl rfl ?_
        refine w_istore (pc' := 38) (ls' := [_, _, _]) k180_37 rfl rfl rfl ?_
        refine w_iinc (pc' := 41) (ls' := [_, _, _]) k180_38 rfl rfl (by omega) rfl ?_
        refine w_goto k180_41 ?_
        refine ih (m + 1) _ _ (by omega) (by omega) ?_
        rw [if_neg (by omega), lsG]
        rcases hx2 with ⟨c0, hx2⟩ | ⟨c0, hx2⟩
        · subst c0; rw [lsG]; omega
        · omega
      · refine w_aload (pc' := 28) k180_27 rfl rfl ?_
        refine w_getR (pc' := 31) (v := 75) k180_28 rfl (hM.1 57 (11, 30) rfl) (hM.2 57 26 75 rfl) ?_
        refine w_iload (pc' := 32) k180_31 rfl rfl ?_
        refine w_iald (pc' := 33) (v := shG c q m) k180_32 rfl (hM.1 75 (0, 16) rfl) (by omega) hv ?_
        refine w_goto k180_33 ?_
        refine w_istore (pc' := 38) (ls' := [_, _, _]) k180_37 rfl rfl rfl ?_
        refine w_iinc (pc' := 41) (ls' := [_, _, _]) k180_38 rfl rfl (by omega) rfl ?_
        refine w_goto k180_41 ?_
        refine ih (m + 1) _ _ (by omega) (by omega) ?_
        rw [if_neg (by omega), lsG]
        rcases hx2 with ⟨c0, hx2⟩ | ⟨c0, hx2⟩
        · subst c0; rw [lsG]; omega
        · omega
theorem m180 (hF : MF sh R I K H E HO S L B A) {c : Int → Int} {q : Int → Int → Int} (hc : ∀ f, 0 ≤ f → f < 16 → 0 ≤ c f ∧ c f ≤ 6) (hs : ∀ f, 0 ≤ f → f < aNf A → I 75 f = shG c q f) : RV X (d + 1) 180 [.inr (some 57)] (sh, R, I) ((if aNf A = 0 then -4 else lsG c q (aNf A).toNat)) := by
  have hF0 := hF
  obtain ⟨hM, hK, hpo, hha, hms, hab, hB⟩ := hF
  have hr := hK.r
  show WP X (d + 1) 180 0 [.inr (some 57), .inr none, .inr none] [] (sh, R, I) 0 0 _
  refine w_c2 (pc' := 2) k180_0 rfl ?_
  refine w_istore (pc' := 3) (ls' := [_, _, _]) k180_2 rfl rfl rfl ?_
  refine w_c1 (pc' := 4) k180_3 rfl ?_
  refine w_istore (pc' := 5) (ls' := [_, _, _]) k180_4 rfl rfl rfl ?_
  exact m180l hF0 hc hs (N := (aNf A).toNat) (by have := hab.2.2.1; omega) (aNf A).toNat 0 _ _ (by omega) rfl rfl
theorem m181 (hF : MF sh R I K H E HO S L B A) {f w : Int} : QM X (d + 8) 181 [.inr (some 57), .inl f, .inl w] sh R I (toldS H E A f w) := by
  have hF0 := hF
  obtain ⟨hM, hK, hpo, hha, hms, hab, hB⟩ := hF
  have hr := hK.r
  show WP X (d + 8) 181 0 [.inr (some 57), .inl f, .inl w] [] (sh, R, I) 0 0 _
  refine w_aload (pc' := 1) k181_0 rfl rfl ?_
  refine w_iload (pc' := 2) k181_1 rfl rfl ?_
  refine w_callB (pc' := 5) (as := [.inr (some 57), .inl _]) k181_2 rfl rfl (co_v rfl rfl (hM.1 57 (11, 30) rfl)) (by decide) (m174 hF0) (fun q_2 => ?_) (fun q_2 => ?_)
  · refine w_if_eq (pc' := 8) k181_5 rfl (fun c_5 => absurd c_5 (by decide)) (fun _ => ?_)
    refine w_iload (pc' := 9) k181_8 rfl rfl ?_
    refine w_c1 (pc' := 10) k181_9 rfl ?_
    refine w_c1 (pc' := 11) k181_10 rfl ?_
    refine w_callB (pc' := 14) (as := [.inl _, .inl _, .inl _]) k181_11 rfl rfl (co_s (Or.inl rfl) rfl rfl rfl) (by decide) (m117) (fun q_11 => ?_) (fun q_11 => ?_)
    · refine w_if_ne (pc' := 17) k181_14 rfl (fun _ => ?_) (fun c_14 => absurd c_14 (by decide))
      refine w_iload (pc' := 20) k181_19 rfl rfl ?_
      have hnf := hab.2.2.1
      refine w_c1 (pc' := 21) k181_20 rfl ?_
      refine w_ic_ge (pc' := 24) k181_21 rfl (fun c_21 => ?_) (fun c_21 => ?_)
      · refine w_aload (pc' := 36) k181_35 rfl rfl ?_
        refine w_callV (pc' := 39) (as := [.inr (some 57)]) k181_36 rfl rfl (co_v rfl rfl (hM.1 57 (11, 30) rfl)) (by decide) (m179 hF0) (fun r_36 h_36 hq => ?_)
        obtain ⟨I_1, rfl, s1, s2⟩ := hq
        have hp : 0 < shV H E A (aNf A) (aSh A) f ↔ 0 < cS H E A (aNf A) (aSh A) f := by
          by_cases z : pA H E A (aFr A f / H) (aTo A f) (aSh A f) = true
          · have hv5 := pV_r (H := H) (E := E) (A := A) (n := aFr A f / H) (b := aTo A f) (s := aSh A f)
            obtain ⟨n, hn⟩ : ∃ n, pV H E A (aFr A f / H) (aTo A f) (aSh A f) = n + 1 := ⟨_, (Nat.succ_pred_eq_of_pos hv5.1).symm⟩
            have h1 := shV_y hab q_2 hK z hn
            have h2 := cV_y q_2 z
            have hus : ∀ u, 0 ≤ usG (cV H E A) (qV H E A) u ∧ usG (cV H E A) (qV H E A) u ≤ 96 := fun u => usG_le (fun _ _ _ => cS_r)
            have h3 := moR_le (us := usG (cV H E A) (qV H E A)) (st := stL H E A (aFr A f / H) (aTo A f) (aSh A f)) (o := usG (cV H E A) (qV H E A) (216 + aFr A f)) (i := usG (cV H E A) (qV H E A) (270 + aTo A f)) (C := 96) (fun u => (hus u).2) (hus _).2 (hus _).2 n
            refine ⟨fun _ => ?_, fun _ => ?_⟩
            · show 0 < cV H E A f
              rw [h2]; omega
            · rw [h1.2]; exact Int.lt_of_lt_of_le (by decide : (0 : Int) < 1) ((Int.le_ediv_iff_mul_le h1.1).mpr (by omega))
          · rw [shV_n z, show cS H E A (aNf A) (aSh A) f = 0 from cV_n (Or.inr z)]
        refine w_iload (pc' := 40) k181_39 rfl rfl ?_
        refine w_c1 (pc' := 41) k181_40 rfl ?_
        refine w_ic_ne (pc' := 44) k181_41 rfl (fun c_41 => ?_) (fun c_41 => ?_)
        · refine w_aload (pc' := 54) k181_53 rfl rfl ?_
          refine w_getR (pc' := 57) (v := 75) k181_54 rfl (hM.1 57 (11, 30) rfl) (hM.2 57 26 75 rfl) ?_
          refine w_iload (pc' := 58) k181_57 rfl rfl ?_
          refine w_iald (pc' := 59) (v := shV H E A (aNf A) (aSh A) f) k181_58 rfl (hM.1 75 (0, 16) rfl) (by omega) (s2 f q_2.1 q_2.2) ?_
          refine w_if_le (pc' := 62) k181_59 rfl (fun c_59 => ?_) (fun c_59 => ?_)
          · refine w_c1 (pc' := 67) k181_66 rfl ?_
            exact w_reti k181_67 ⟨by unfold toldS; rw [if_pos q_2, if_neg (by omega), if_neg (by omega), if_neg (by omega), if_neg (by omega), if_pos (by omega), if_neg (fun z => by have := hp.mpr z; omega)], _, rfl, s1.qm⟩
          · refine w_c1 (pc' := 63) k181_62 rfl ?_
            refine w_goto k181_63 ?_
            exact w_reti k181_67 ⟨by unfold toldS; rw [if_pos q_2, if_neg (by omega), if_neg (by omega), if_neg (by omega), if_neg (by omega), if_pos (by omega), if_pos (hp.mp c_59)], _, rfl, s1.qm⟩
        · refine w_aload (pc' := 45) k181_44 rfl rfl ?_
          refine w_getR (pc' := 48) (v := 75) k181_45 rfl (hM.1 57 (11, 30) rfl) (hM.2 57 26 75 rfl) ?_
          refine w_iload (pc' := 49) k181_48 rfl rfl ?_
          refine w_iald (pc' := 50) (v := shV H E A (aNf A) (aSh A) f) k181_49 rfl (hM.1 75 (0, 16) rfl) (by omega) (s2 f q_2.1 q_2.2) ?_
          refine w_goto k181_50 ?_
          exact w_reti k181_67 ⟨by unfold toldS; rw [if_pos q_2, if_neg (by omega), if_neg (by omega), if_neg (by omega), if_neg (by omega), if_neg (by omega), if_pos c_41], _, rfl, s1.qm⟩
      · refine w_aload (pc' := 25) k181_24 rfl rfl ?_
        refine w_getR (pc' := 28) (v := 62) k181_25 rfl (hM.1 57 (11, 30) rfl) (hM.2 57 8 62 rfl) ?_
        refine w_c1 (pc' := 29) k181_28 rfl ?_
        refine w_iload (pc' := 30) k181_29 rfl rfl ?_
        refine w_imul (pc' := 31) k181_30 rfl (by omega) ?_
        refine w_iload (pc' := 32) k181_31 rfl rfl ?_
        refine w_iadd (pc' := 33) k181_32 rfl (by omega) ?_
        refine w_iald (pc' := 34) (v := toldS H E A f w) k181_33 rfl (hM.1 62 (0, 64) rfl) (by omega) (by
          have h9 := hms.2.2.2 f q_2.1 q_2.2
          unfold toldS
          rw [if_pos q_2]
          rcases (show w = 0 ∨ w = 1 ∨ w = 2 ∨ w = 3 by omega) with rfl | rfl | rfl | rfl
          · rw [if_pos rfl, Int.add_zero]; exact h9.1
          · rw [if_neg (by decide), if_pos rfl]; exact h9.2.1
          · rw [if_neg (by decide), if_neg (by decide), if_pos rfl]; exact h9.2.2.1
          · rw [if_neg (by decide), if_neg (by decide), if_neg (by decide), if_pos rfl]; exact h9.2.2.2) ?_
        exact w_reti k181_34 ⟨rfl, _, rfl, fun _ _ => rfl, fun _ _ => rfl⟩
    · refine w_if_ne (pc' := 17) k181_14 rfl (fun c_14 => absurd c_14 (by decide)) (fun _ => ?_)
      refine w_c1 (pc' := 18) k181_17 rfl ?_
      exact w_reti k181_18 ⟨by unfold toldS; rw [if_pos q_2, if_neg (by omega), if_neg (by omega), if_neg (by omega), if_neg (by omega), if_neg (by omega), if_neg (by omega)], _, rfl, fun _ _ => rfl, fun _ _ => rfl⟩
  · refine w_if_eq (pc' := 8) k181_5 rfl (fun _ => ?_) (fun c_5 => absurd c_5 (by decide))
    refine w_c1 (pc' := 18) k181_17 rfl ?_
    exact w_reti k181_18 ⟨by unfold toldS; rw [if_neg q_2], _, rfl, fun _ _ => rfl, fun _ _ => rfl⟩
theorem m183 (hF : MF sh R I K H E HO S L B A)  : QM X (d + 8) 183 [.inr (some 57)] sh R I (leasS H E A) := by
  have hF0 := hF
  obtain ⟨hM, hK, hpo, hha, hms, hab, hB⟩ := hF
  have hr := hK.r
  show WP X (d + 8) 183 0 [.inr (some 57)] [] (sh, R, I) 0 0 _
  refine w_aload (pc' := 1) k183_0 rfl rfl ?_
  refine w_callV (pc' := 4) (as := [.inr (some 57)]) k183_1 rfl rfl (co_v rfl rfl (hM.1 57 (11, 30) rfl)) (by decide) (m179 hF0) (fun r_1 h_1 hq => ?_)
  obtain ⟨I_1, rfl, s1, s2⟩ := hq
  refine w_aload (pc' := 5) k183_4 rfl rfl ?_
  refine w_callE (pc' := 8) (as := [.inr (some 57)]) k183_5 rfl rfl (co_v rfl rfl (hM.1 57 (11, 30) rfl)) (by decide) (m180 (s1.mf hF0) (fun _ _ _ => cS_r) s2) ?_
  exact w_reti k183_8 ⟨rfl, _, rfl, s1.qm⟩
/-- the loads over the first m flows -/
def LI (I1 : Nat → Int → Int) (H E : Int) (A : AS) (w : Int) (m : Nat) : Prop := ∀ l, 0 ≤ l → l < 108 → I1 71 l = sumN (fun f => (if w = 0 then 1 else aSz A f) * kG (cV H E A) (qV H E A) l f) m ∧ I1 72 l = sumN (fun f => (if w = 0 then 1 else aSz A f) * kG (cV H E A) (qV H E A) (108 + l) f) m
theorem ldS_le (hab : AB H HO S L B A) {w u : Int} {m : Nat} (hm : (m : Int) ≤ aNf A) : 0 ≤ sumN (fun f => (if w = 0 then 1 else aSz A f) * kG (cV H E A) (qV H E A) u f) m ∧ sumN (fun f => (if w = 0 then 1 else aSz A f) * kG (cV H E A) (qV H E A) u f) m ≤ 9504 := by
  have hnf := hab.2.2.1
  have := sumN_le (f := fun f => (if w = 0 then 1 else aSz A f) * kG (cV H E A) (qV H E A) u f) (C := 594) m (fun i hi => ?_)
  · omega
  · have h1 : 0 ≤ kG (cV H E A) (qV H E A) u i ∧ kG (cV H E A) (qV H E A) u i ≤ 6 := kG_le cS_r
    have h2 := (hab.2.2.2 i (by omega) (by omega)).2.2.2.1
    have h3 : 0 ≤ (if w = 0 then (1 : Int) else aSz A i) ∧ (if w = 0 then (1 : Int) else aSz A i) ≤ 99 := by split <;> omega
    refine ⟨Int.mul_nonneg h3.1 h1.1, ?_⟩
    have h4 := Int.mul_le_mul_of_nonneg_right (c := kG (cV H E A) (qV H E A) u i) h3.2 h1.1
    omega
theorem m182l (hF : MF sh R I K H E HO S L B A) {l dd w : Int} (hl : 0 ≤ l ∧ l < L) (hd : 0 ≤ dd ∧ dd ≤ 1) (hw : 0 ≤ w ∧ w ≤ 1) {N : Nat} (hN : aNf A = (N : Int)) : ∀ (k m : Nat) (i : Int) (I1 : Nat → Int → Int), m + k = N → i = (m : Int) → SE I I1 → LI I1 H E A w m → WP X (d + 7) 182 35 [.inr (some 57), .inl l, .inl dd, .inl w, .inl i] [] (sh, R, I1) 0 0 (fun r h' => r = .inl (loadS H E L A l dd w) ∧ ∃ I', h' = (sh, R, I') ∧ (∀ a, (a < 57 ∨ 77 < a) ∨ (57 < a ∧ a < 67) → I' a = I a) ∧ ∀ j, j < 14 → I' 57 j = I 57 j) := by
  have hF0 := hF
  obtain ⟨hM, hK, hpo, hha, hms, hab, hB⟩ := hF
  have hr := hK.r
  have hnf := hab.2.2.1
  intro k
  induction k with
  | zero =>
    rintro m i I1 hk rfl h1 h2
    have hF1 := h1.mf hF0
    have e : m = N := by omega
    subst e
    have h3 := h2 l hl.1 (by omega)
    have h4 : ∀ u, sumN (fun f => (if w = 0 then 1 else aSz A f) * kG (cV H E A) (qV H E A) u f) m = if w = 0 then usG (cV H E A) (qV H E A) u else sumN (szG A (cV H E A) (qV H E A) u) (aNf A).toNat := by
      intro u
      have e1 : (aNf A).toNat = m := by omega
      by_cases c : w = 0
      · rw [if_pos c, usG_nf hnf, e1]
        exact sumN_ext _ (fun i _ => by rw [if_pos c, Int.one_mul])
      · rw [if_neg c, e1]
        exact sumN_ext _ (fun i _ => by rw [if_neg c]; rfl)
    rw [h4, h4] at h3
    refine w_iload (pc' := 37) k182_35 rfl rfl ?_
    refine w_aload (pc' := 38) k182_37 rfl rfl ?_
    refine w_getI (pc' := 41) (ki := 7) (v := aNf A) k182_38 rfl (hM.1 57 (11, 30) rfl) rfl hF1.2.2.2.2.1.1 ?_
    refine w_ic_ge (pc' := 44) k182_41 rfl (fun c_41 => ?_) (fun c_41 => absurd c_41 (by omega))
    refine w_iload (pc' := 87) k182_86 rfl rfl ?_
    refine w_c1 (pc' := 88) k182_87 rfl ?_
    refine w_ic_ne (pc' := 91) k182_88 rfl (fun c_88 => ?_) (fun c_88 => ?_)
    · refine w_aload (pc' := 101) k182_100 rfl rfl ?_
      refine w_getR (pc' := 104) (v := 72) k182_101 rfl (hM.1 57 (11, 30) rfl) (hM.2 57 23 72 rfl) ?_
      refine w_iload (pc' := 105) k182_104 rfl rfl ?_
      refine w_iald (pc' := 106) (v := (if w = 0 then usG (cV H E A) (qV H E A) (108 + l) else sumN (szG A (cV H E A) (qV H E A) (108 + l)) (aNf A).toNat)) k182_105 rfl (hM.1 72 (0, 108) rfl) (by omega) h3.2 ?_
      exact w_reti k182_106 ⟨by unfold loadS; rw [if_pos (show (0 ≤ l ∧ l < L) ∧ (0 ≤ dd ∧ dd ≤ 1) ∧ 0 ≤ w ∧ w ≤ 1 from ⟨hl, hd, hw⟩), if_neg (c := dd = 1) c_88], _, rfl, h1.qm⟩
    · refine w_aload (pc' := 92) k182_91 rfl rfl ?_
      refine w_getR (pc' := 95) (v := 71) k182_92 rfl (hM.1 57 (11, 30) rfl) (hM.2 57 22 71 rfl) ?_
      refine w_iload (pc' := 96) k182_95 rfl rfl ?_
      refine w_iald (pc' := 97) (v := (if w = 0 then usG (cV H E A) (qV H E A) (l) else sumN (szG A (cV H E A) (qV H E A) (l)) (aNf A).toNat)) k182_96 rfl (hM.1 71 (0, 108) rfl) (by omega) h3.1 ?_
      refine w_goto k182_97 ?_
      exact w_reti k182_106 ⟨by unfold loadS; rw [if_pos (show (0 ≤ l ∧ l < L) ∧ (0 ≤ dd ∧ dd ≤ 1) ∧ 0 ≤ w ∧ w ≤ 1 from ⟨hl, hd, hw⟩), if_pos (c := dd = 1) c_88], _, rfl, h1.qm⟩
  | succ k ih =>
    rintro m i I1 hk rfl h1 h2
    have hF1 := h1.mf hF0
    have hf : (0 : Int) ≤ (m : Int) ∧ (m : Int) < aNf A := by omega
    have hf2 := hab.2.2.2 m hf.1 hf.2
    have hen := edge_r hK hf2.1
    refine w_iload (pc' := 37) k182_35 rfl rfl ?_
    refine w_aload (pc' := 38) k182_37 rfl rfl ?_
    refine w_getI (pc' := 41) (ki := 7) (v := aNf A) k182_38 rfl (hM.1 57 (11, 30) rfl) rfl hF1.2.2.2.2.1.1 ?_
    refine w_ic_ge (pc' := 44) k182_41 rfl (fun c_41 => absurd c_41 (by omega)) (fun c_41 => ?_)
    refine w_aload (pc' := 45) k182_44 rfl rfl ?_
    refine w_iload (pc' := 47) k182_45 rfl rfl ?_
    refine w_callV (pc' := 50) (as := [.inr (some 57), .inl _]) k182_47 rfl rfl (co_v rfl rfl (hM.1 57 (11, 30) rfl)) (by decide) (m178 hF1 hf) (fun r_47 h_47 hq => ?_)
    obtain ⟨I_1, rfl, rs⟩ := hq
    have hF2 := (h1.sc rs.1 rs.2.1).mf hF0
    refine w_aload (pc' := 51) k182_50 rfl rfl ?_
    refine w_getI (pc' := 54) (ki := 21) (v := (if pA H E A (aFr A m / H) (aTo A m) (aSh A m) then (1 : Int) else 0)) k182_51 rfl (hM.1 57 (11, 30) rfl) rfl rs.2.2.2.1 ?_
    refine w_if_eq (pc' := 57) k182_54 rfl (fun c_54 => ?_) (fun c_54 => ?_)
    · refine w_iinc (pc' := 83) (ls' := [_, _, _, _, _]) k182_80 rfl rfl (by omega) rfl ?_
      refine w_goto k182_83 ?_
      have hz1 : ¬ pA H E A (aFr A m / H) (aTo A m) (aSh A m) = true := by intro z; rw [if_pos z] at c_54; exact absurd c_54 (by decide)
      refine ih (m + 1) _ _ (by omega) (by omega) (h1.sc rs.1 rs.2.1) (fun l q1 q2 => ?_)
      rw [sumN, sumN, kG_n (Or.inr hz1), kG_n (Or.inr hz1), Int.mul_zero, Int.add_zero, Int.add_zero, rs.1 71 (by decide) (by decide) (by decide), rs.1 72 (by decide) (by decide) (by decide)]; exact h2 l q1 q2
    · have hz1 : pA H E A (aFr A m / H) (aTo A m) (aSh A m) = true := Decidable.byContradiction (fun z => by rw [if_neg z] at c_54; exact absurd rfl c_54)
      have hU : ∀ l, 0 ≤ l → l < 108 → (0 ≤ I_1 71 l ∧ I_1 71 l ≤ 1000000) ∧ (0 ≤ I_1 72 l ∧ I_1 72 l ≤ 1000000) := by
        intro l q1 q2
        have b1 := ldS_le (E := E) (w := w) (u := l) (m := m) hab (by omega)
        have b2 := ldS_le (E := E) (w := w) (u := 108 + l) (m := m) hab (by omega)
        rw [rs.1 71 (by decide) (by decide) (by decide), rs.1 72 (by decide) (by decide) (by decide), (h2 l q1 q2).1, (h2 l q1 q2).2]
        omega
      refine w_aload (pc' := 58) k182_57 rfl rfl ?_
      refine w_iload (pc' := 59) k182_58 rfl rfl ?_
      refine w_if_ne (pc' := 62) k182_59 rfl (fun c_59 => ?_) (fun c_59 => ?_)
      · refine w_aload (pc' := 67) k182_66 rfl rfl ?_
        refine w_getR (pc' := 70) (v := 62) k182_67 rfl (hM.1 57 (11, 30) rfl) (hM.2 57 8 62 rfl) ?_
        refine w_c1 (pc' := 71) k182_70 rfl ?_
        refine w_iload (pc' := 73) k182_71 rfl rfl ?_
        refine w_imul (pc' := 74) k182_73 rfl (by omega) ?_
        refine w_c1 (pc' := 75) k182_74 rfl ?_
        refine w_iadd (pc' := 76) k182_75 rfl (by omega) ?_
        refine w_iald (pc' := 77) (v := aSz A m) k182_76 rfl (hM.1 62 (0, 64) rfl) (by omega) (hF2.2.2.2.2.1.2.2.2 m hf.1 hf.2).2.2.1 ?_
        refine w_callV (pc' := 80) (as := [.inr (some 57), .inl _]) k182_77 rfl rfl (co_v rfl rfl (hM.1 57 (11, 30) rfl)) (by decide) (m172 hF2 hen hf2.2.1 (by omega) rs.2.2.1 rs.2.2.2.2.2 hU) (fun r_77 h_77 hq => ?_)
        obtain ⟨I_2, rfl, ad⟩ := hq
        refine w_iinc (pc' := 83) (ls' := [_, _, _, _, _]) k182_80 rfl rfl (by omega) rfl ?_
        refine w_goto k182_83 ?_
        refine ih (m + 1) _ _ (by omega) (by omega) ((h1.sc rs.1 rs.2.1).ud (fun a q => ad.1 a (by omega) (by omega))) (fun l q1 q2 => ?_)
        rw [sumN, sumN, ((kG_u (u := 0) hK hab hf hz1).1 l q1 q2).1, ((kG_u (u := 0) hK hab hf hz1).1 l q1 q2).2, (ad.2 l q1 q2).1, (ad.2 l q1 q2).2, rs.1 71 (by decide) (by decide) (by decide), rs.1 72 (by decide) (by decide) (by decide), (h2 l q1 q2).1, (h2 l q1 q2).2, show (if w = 0 then (1 : Int) else aSz A (m : Int)) = aSz A (m : Int) from if_neg c_59]
        exact ⟨rfl, rfl⟩
      · refine w_c1 (pc' := 63) k182_62 rfl ?_
        refine w_goto k182_63 ?_
        refine w_callV (pc' := 80) (as := [.inr (some 57), .inl _]) k182_77 rfl rfl (co_v rfl rfl (hM.1 57 (11, 30) rfl)) (by decide) (m172 hF2 hen hf2.2.1 (by omega) rs.2.2.1 rs.2.2.2.2.2 hU) (fun r_77 h_77 hq => ?_)
        obtain ⟨I_2, rfl, ad⟩ := hq
        refine w_iinc (pc' := 83) (ls' := [_, _, _, _, _]) k182_80 rfl rfl (by omega) rfl ?_
        refine w_goto k182_83 ?_
        refine ih (m + 1) _ _ (by omega) (by omega) ((h1.sc rs.1 rs.2.1).ud (fun a q => ad.1 a (by omega) (by omega))) (fun l q1 q2 => ?_)
        rw [sumN, sumN, ((kG_u (u := 0) hK hab hf hz1).1 l q1 q2).1, ((kG_u (u := 0) hK hab hf hz1).1 l q1 q2).2, (ad.2 l q1 q2).1, (ad.2 l q1 q2).2, rs.1 71 (by decide) (by decide) (by decide), rs.1 72 (by decide) (by decide) (by decide), (h2 l q1 q2).1, (h2 l q1 q2).2, show (if w = 0 then (1 : Int) else aSz A (m : Int)) = 1 from if_pos c_59]
        exact ⟨rfl, rfl⟩
theorem m182 (hF : MF sh R I K H E HO S L B A) {l dd w : Int} : QM X (d + 7) 182 [.inr (some 57), .inl l, .inl dd, .inl w] sh R I (loadS H E L A l dd w) := by
  have hF0 := hF
  obtain ⟨hM, hK, hpo, hha, hms, hab, hB⟩ := hF
  have hr := hK.r
  show WP X (d + 7) 182 0 [.inr (some 57), .inl l, .inl dd, .inl w, .inr none] [] (sh, R, I) 0 0 _
  refine w_aload (pc' := 1) k182_0 rfl rfl ?_
  refine w_iload (pc' := 2) k182_1 rfl rfl ?_
  refine w_callB (pc' := 5) (as := [.inr (some 57), .inl _]) k182_2 rfl rfl (co_v rfl rfl (hM.1 57 (11, 30) rfl)) (by decide) (m135 hF0) (fun q_2 => ?_) (fun q_2 => ?_)
  · refine w_if_eq (pc' := 8) k182_5 rfl (fun c_5 => absurd c_5 (by decide)) (fun _ => ?_)
    refine w_iload (pc' := 9) k182_8 rfl rfl ?_
    refine w_c1 (pc' := 10) k182_9 rfl ?_
    refine w_c1 (pc' := 11) k182_10 rfl ?_
    refine w_callB (pc' := 14) (as := [.inl _, .inl _, .inl _]) k182_11 rfl rfl (co_s (Or.inl rfl) rfl rfl rfl) (by decide) (m117) (fun q_11 => ?_) (fun q_11 => ?_)
    · refine w_if_eq (pc' := 17) k182_14 rfl (fun c_14 => absurd c_14 (by decide)) (fun _ => ?_)
      refine w_iload (pc' := 18) k182_17 rfl rfl ?_
      refine w_c1 (pc' := 19) k182_18 rfl ?_
      refine w_c1 (pc' := 20) k182_19 rfl ?_
      refine w_callB (pc' := 23) (as := [.inl _, .inl _, .inl _]) k182_20 rfl rfl (co_s (Or.inl rfl) rfl rfl rfl) (by decide) (m117) (fun q_20 => ?_) (fun q_20 => ?_)
      · refine w_if_ne (pc' := 26) k182_23 rfl (fun _ => ?_) (fun c_23 => absurd c_23 (by decide))
        refine w_aload (pc' := 29) k182_28 rfl rfl ?_
        refine w_callV (pc' := 32) (as := [.inr (some 57)]) k182_29 rfl rfl (co_v rfl rfl (hM.1 57 (11, 30) rfl)) (by decide) (m171 hF0) (fun r_29 h_29 hq => ?_)
        obtain ⟨I_1, rfl, c1, c2⟩ := hq
        refine w_c1 (pc' := 33) k182_32 rfl ?_
        refine w_istore (pc' := 35) (ls' := [_, _, _, _, _]) k182_33 rfl rfl rfl ?_
        exact m182l hF0 q_2 q_11 q_20 (N := (aNf A).toNat) (by have := hab.2.2.1; omega) (aNf A).toNat 0 _ _ (by omega) rfl (SE.rfl.ud (fun a q => c1 a (by omega) (by omega))) (fun l q1 q2 => c2 l q1 q2)
      · refine w_if_ne (pc' := 26) k182_23 rfl (fun c_23 => absurd c_23 (by decide)) (fun _ => ?_)
        refine w_c1 (pc' := 27) k182_26 rfl ?_
        exact w_reti k182_27 ⟨by unfold loadS; rw [if_neg (fun z => q_20 z.2.2)], _, rfl, fun _ _ => rfl, fun _ _ => rfl⟩
    · refine w_if_eq (pc' := 17) k182_14 rfl (fun _ => ?_) (fun c_14 => absurd c_14 (by decide))
      refine w_c1 (pc' := 27) k182_26 rfl ?_
      exact w_reti k182_27 ⟨by unfold loadS; rw [if_neg (fun z => q_11 z.2.1)], _, rfl, fun _ _ => rfl, fun _ _ => rfl⟩
  · refine w_if_eq (pc' := 8) k182_5 rfl (fun _ => ?_) (fun c_5 => absurd c_5 (by decide))
    refine w_c1 (pc' := 27) k182_26 rfl ?_
    exact w_reti k182_27 ⟨by unfold loadS; rw [if_neg (fun z => q_2 z.1)], _, rfl, fun _ _ => rfl, fun _ _ => rfl⟩
theorem MF.shw (hF : MF sh R I K H E HO S L B A) {f t : Int} (hf : 0 ≤ f ∧ f < aNf A) (ht : 0 ≤ t ∧ t < H * H) : MF sh R (upA I 62 (upF (I 62) (4 * f + 3) t)) K H E HO S L B (shW A (upF (aSh A) f t)) := by
  have hF0 := hF
  obtain ⟨hM, hK, hpo, hha, hms, hab, hB⟩ := hF
  have hr := hK.r
  refine ⟨hM, hK, by rw [upA_n (by decide)]; exact hpo, by rw [upA_n (by decide)]; exact hha, ⟨by rw [upA_n (by decide)]; exact hms.1, fun l q1 q2 => by rw [upA_n (by decide)]; exact hms.2.1 l q1 q2, fun n l q1 q2 q3 q4 => by rw [upA_n (by decide)]; exact hms.2.2.1 n l q1 q2 q3 q4, fun g q1 q2 => ?_⟩, shW_AB hab (fun g q1 q2 => ?_), hB⟩
  · have h9 := hms.2.2.2 g q1 q2
    rw [upA_s, upF_n (by omega), upF_n (by omega), upF_n (by omega)]
    refine ⟨h9.1, h9.2.1, h9.2.2.1, ?_⟩
    show upF (I 62) (4 * f + 3) t (4 * g + 3) = upF (aSh A) f t g
    by_cases c : g = f
    · subst c; rw [upF_s, upF_s]
    · rw [upF_n c, upF_n (by omega)]; exact h9.2.2.2
  · by_cases c : g = f
    · subst c; rw [upF_s]; exact ht
    · rw [upF_n c]; exact (hab.2.2.2 g q1 q2).2.2.2.2
theorem m184 (hF : MF sh R I K H E HO S L B A) {f t : Int} : QM X (d + 8) 184 [.inr (some 57), .inl f, .inl t] sh R I (wouS H E A f t) := by
  have hF0 := hF
  obtain ⟨hM, hK, hpo, hha, hms, hab, hB⟩ := hF
  have hr := hK.r
  show WP X (d + 8) 184 0 [.inr (some 57), .inl f, .inl t, .inr none] [] (sh, R, I) 0 0 _
  refine w_aload (pc' := 1) k184_0 rfl rfl ?_
  refine w_iload (pc' := 2) k184_1 rfl rfl ?_
  refine w_callB (pc' := 5) (as := [.inr (some 57), .inl _]) k184_2 rfl rfl (co_v rfl rfl (hM.1 57 (11, 30) rfl)) (by decide) (m174 hF0) (fun q_2 => ?_) (fun q_2 => ?_)
  · refine w_if_eq (pc' := 8) k184_5 rfl (fun c_5 => absurd c_5 (by decide)) (fun _ => ?_)
    refine w_aload (pc' := 9) k184_8 rfl rfl ?_
    refine w_iload (pc' := 10) k184_9 rfl rfl ?_
    refine w_callB (pc' := 13) (as := [.inr (some 57), .inl _]) k184_10 rfl rfl (co_v rfl rfl (hM.1 57 (11, 30) rfl)) (by decide) (m136 hF0) (fun q_10 => ?_) (fun q_10 => ?_)
    · refine w_if_ne (pc' := 16) k184_13 rfl (fun _ => ?_) (fun c_13 => absurd c_13 (by decide))
      have hnf := hab.2.2.1
      refine w_aload (pc' := 19) k184_18 rfl rfl ?_
      refine w_getR (pc' := 22) (v := 62) k184_19 rfl (hM.1 57 (11, 30) rfl) (hM.2 57 8 62 rfl) ?_
      refine w_c1 (pc' := 23) k184_22 rfl ?_
      refine w_iload (pc' := 24) k184_23 rfl rfl ?_
      refine w_imul (pc' := 25) k184_24 rfl (by omega) ?_
      refine w_c1 (pc' := 26) k184_25 rfl ?_
      refine w_iadd (pc' := 27) k184_26 rfl (by omega) ?_
      refine w_iald (pc' := 28) (v := aSh A f) k184_27 rfl (hM.1 62 (0, 64) rfl) (by omega) (hms.2.2.2 f q_2.1 q_2.2).2.2.2 ?_
      refine w_istore (pc' := 29) (ls' := [_, _, _, _]) k184_28 rfl rfl rfl ?_
      refine w_aload (pc' := 30) k184_29 rfl rfl ?_
      refine w_getR (pc' := 33) (v := 62) k184_30 rfl (hM.1 57 (11, 30) rfl) (hM.2 57 8 62 rfl) ?_
      refine w_c1 (pc' := 34) k184_33 rfl ?_
      refine w_iload (pc' := 35) k184_34 rfl rfl ?_
      refine w_imul (pc' := 36) k184_35 rfl (by omega) ?_
      refine w_c1 (pc' := 37) k184_36 rfl ?_
      refine w_iadd (pc' := 38) k184_37 rfl (by omega) ?_
      refine w_iload (pc' := 39) k184_38 rfl rfl ?_
      refine w_iast (pc' := 40) k184_39 rfl (hM.1 62 (0, 64) rfl) (by omega) ?_
      refine w_aload (pc' := 41) k184_40 rfl rfl ?_
      refine w_callV (pc' := 44) (as := [.inr (some 57)]) k184_41 rfl rfl (co_v rfl rfl (hM.1 57 (11, 30) rfl)) (by decide) (m179 (hF0.shw q_2 q_10)) (fun r_41 h_41 hq => ?_)
      obtain ⟨I_1, rfl, s1, s2⟩ := hq
      have hw62 : upF (I_1 62) (4 * f + 3) (aSh A f) = I 62 := by
        rw [s1.1 62 (by decide) (by decide), upA_s, upF_uu, ← (hms.2.2.2 f q_2.1 q_2.2).2.2.2]
        exact upF_id
      have s9 : (∀ a, (a < 57 ∨ 77 < a) ∨ (57 < a ∧ a < 67) → upA I_1 62 (upF (I_1 62) (4 * f + 3) (aSh A f)) a = I a) ∧ ∀ j, j ≠ 18 → j ≠ 21 → upA I_1 62 (upF (I_1 62) (4 * f + 3) (aSh A f)) 57 j = I 57 j := by
        refine ⟨fun a q => ?_, fun j q1 q2 => by rw [upA_n (by decide), s1.2 j q1 q2, upA_n (by decide)]⟩
        by_cases c : a = 62
        · subst c; rw [upA_s, hw62]
        · rw [upA_n c, s1.1 a (by omega) (by omega), upA_n c]
      have hF9 : MF sh R (upA I_1 62 (upF (I_1 62) (4 * f + 3) (aSh A f))) K H E HO S L B A := hF0.keep (fun a q => s9.1 a (by omega)) (fun j q => s9.2 j (by omega) (by omega))
      refine w_aload (pc' := 45) k184_44 rfl rfl ?_
      refine w_getR (pc' := 48) (v := 62) k184_45 rfl (hM.1 57 (11, 30) rfl) (hM.2 57 8 62 rfl) ?_
      refine w_c1 (pc' := 49) k184_48 rfl ?_
      refine w_iload (pc' := 50) k184_49 rfl rfl ?_
      refine w_imul (pc' := 51) k184_50 rfl (by omega) ?_
      refine w_c1 (pc' := 52) k184_51 rfl ?_
      refine w_iadd (pc' := 53) k184_52 rfl (by omega) ?_
      refine w_iload (pc' := 54) k184_53 rfl rfl ?_
      refine w_iast (pc' := 55) k184_54 rfl (hM.1 62 (0, 64) rfl) (by omega) ?_
      refine w_aload (pc' := 56) k184_55 rfl rfl ?_
      refine w_callE (pc' := 59) (as := [.inr (some 57)]) k184_56 rfl rfl (co_v rfl rfl (hM.1 57 (11, 30) rfl)) (by decide) (m180 hF9 (c := cS H E A (aNf A) (upF (aSh A) f t)) (q := qS H E A (upF (aSh A) f t)) (fun _ _ _ => cS_r) (fun g q1 q2 => by rw [upA_n (by decide), s2 g q1 q2]; exact shV_mk (A := A) (A' := shW A (upF (aSh A) f t)) rfl rfl rfl)) ?_
      exact w_reti k184_59 ⟨by rw [if_neg (by omega)]; unfold wouS; rw [if_pos (show (0 ≤ f ∧ f < aNf A) ∧ 0 ≤ t ∧ t < H * H from ⟨q_2, q_10⟩)]; rfl, _, rfl, s9.1, fun j q => s9.2 j (by omega) (by omega)⟩
    · refine w_if_ne (pc' := 16) k184_13 rfl (fun c_13 => absurd c_13 (by decide)) (fun _ => ?_)
      refine w_c1 (pc' := 17) k184_16 rfl ?_
      exact w_reti k184_17 ⟨by unfold wouS; rw [if_neg (fun z => q_10 z.2)], _, rfl, fun _ _ => rfl, fun _ _ => rfl⟩
  · refine w_if_eq (pc' := 8) k184_5 rfl (fun _ => ?_) (fun c_5 => absurd c_5 (by decide))
    refine w_c1 (pc' := 17) k184_16 rfl ?_
    exact w_reti k184_17 ⟨by unfold wouS; rw [if_neg (fun z => q_2 z.1)], _, rfl, fun _ _ => rfl, fun _ _ => rfl⟩
end M79
