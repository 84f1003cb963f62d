/-! ===== REFERENCE: a flow sent; letters ===== -/
section M71
variable {X : Nat × (Int → Int)} {d : Nat} {sh : List (Nat × Nat)} {R : Nat → Nat → Option Nat} {I : Nat → Int → Int} {K H E HO S L B : Int} {A : AS}
variable {tx : Int → Int} {len : Int}
theorem m178 (hF : MF sh R I K H E HO S L B A) {f : Int} (hf : 0 ≤ f ∧ f < aNf A) : WPM X (d + 6) 178 [.inr (some 57), .inl f] (sh, R, I) 0 0 (fun _ h' => ∃ I', h' = (sh, R, I') ∧ RS I I' H E A (aFr A f / H) (aTo A f) (aSh A f)) := by
  have hF0 := hF
  obtain ⟨hM, hK, hpo, hha, hms, hab, hB⟩ := hF
  have hr := hK.r
  have hnf := hab.2.2.1
  have hfr := hab.2.2.2 f hf.1 hf.2
  show WP X (d + 6) 178 0 [.inr (some 57), .inl f] [] (sh, R, I) 0 0 _
  refine w_aload (pc' := 1) k178_0 rfl rfl ?_
  refine w_aload (pc' := 2) k178_1 rfl rfl ?_
  refine w_getR (pc' := 5) (v := 62) k178_2 rfl (hM.1 57 (11, 30) rfl) (hM.2 57 8 62 rfl) ?_
  refine w_c1 (pc' := 6) k178_5 rfl ?_
  refine w_iload (pc' := 7) k178_6 rfl rfl ?_
  refine w_imul (pc' := 8) k178_7 rfl (by omega) ?_
  refine w_iald (pc' := 9) (v := aFr A f) k178_8 rfl (hM.1 62 (0, 64) rfl) (by omega) ((hms.2.2.2 f hf.1 hf.2).1) ?_
  refine w_aload (pc' := 10) k178_9 rfl rfl ?_
  refine w_getR (pc' := 13) (v := 62) k178_10 rfl (hM.1 57 (11, 30) rfl) (hM.2 57 8 62 rfl) ?_
  refine w_c1 (pc' := 14) k178_13 rfl ?_
  refine w_iload (pc' := 15) k178_14 rfl rfl ?_
  refine w_imul (pc' := 16) k178_15 rfl (by omega) ?_
  refine w_c1 (pc' := 17) k178_16 rfl ?_
  refine w_iadd (pc' := 18) k178_17 rfl (by omega) ?_
  refine w_iald (pc' := 19) (v := aTo A f) k178_18 rfl (hM.1 62 (0, 64) rfl) (by omega) ((hms.2.2.2 f hf.1 hf.2).2.1) ?_
  refine w_aload (pc' := 20) k178_19 rfl rfl ?_
  refine w_getR (pc' := 23) (v := 62) k178_20 rfl (hM.1 57 (11, 30) rfl) (hM.2 57 8 62 rfl) ?_
  refine w_c1 (pc' := 24) k178_23 rfl ?_
  refine w_iload (pc' := 25) k178_24 rfl rfl ?_
  refine w_imul (pc' := 26) k178_25 rfl (by omega) ?_
  refine w_c1 (pc' := 27) k178_26 rfl ?_
  refine w_iadd (pc' := 28) k178_27 rfl (by omega) ?_
  refine w_iald (pc' := 29) (v := aSh A f) k178_28 rfl (hM.1 62 (0, 64) rfl) (by omega) ((hms.2.2.2 f hf.1 hf.2).2.2.2) ?_
  refine w_callV (pc' := 32) (as := [.inr (some 57), .inl _, .inl _, .inl _]) k178_29 rfl rfl (co_v rfl rfl (hM.1 57 (11, 30) rfl)) (by decide) (m163 hF0 hfr.1 hfr.2.1 hfr.2.2.2.2) (fun r_29 h_29 hq => ?_)
  obtain ⟨I_1, rfl, rs⟩ := hq
  exact w_retv k178_32 ⟨_, rfl, rs⟩
/-- the text that the reference holds -/
def MT (I : Nat → Int → Int) (tx : Int → Int) (len : Int) : Prop := I 57 0 = len ∧ (0 ≤ len ∧ len ≤ 200) ∧ ∀ j, 0 ≤ j → j < len → I 58 j = tx j ∧ (1 ≤ tx j ∧ tx j < 256)
theorem m118 (hM : LM sh R) (ht : MT I tx len) {p : Int} (hp : 0 ≤ p) : RV X (d + 1) 118 [.inr (some 57), .inl p] (sh, R, I) (lt9 tx len p) := by
  have hlen := ht.2.1
  show WP X (d + 1) 118 0 [.inr (some 57), .inl p] [] (sh, R, I) 0 0 _
  refine w_iload (pc' := 1) k118_0 rfl rfl ?_
  refine w_aload (pc' := 2) k118_1 rfl rfl ?_
  refine w_getI (pc' := 5) (ki := 0) (v := len) k118_2 rfl (hM.1 57 (11, 30) rfl) rfl ht.1 ?_
  refine w_ic_ge (pc' := 8) k118_5 rfl (fun c_5 => ?_) (fun c_5 => ?_)
  · refine w_c1 (pc' := 18) k118_17 rfl ?_
    exact w_reti k118_18 ⟨by unfold lt9; rw [if_neg (by omega)], rfl⟩
  · refine w_aload (pc' := 9) k118_8 rfl rfl ?_
    refine w_getR (pc' := 12) (v := 58) k118_9 rfl (hM.1 57 (11, 30) rfl) (hM.2 57 1 58 rfl) ?_
    refine w_iload (pc' := 13) k118_12 rfl rfl ?_
    refine w_iald (pc' := 14) (v := tx p) k118_13 rfl (hM.1 58 (0, 200) rfl) (by omega) ((ht.2.2 p hp c_5).1) ?_
    refine w_goto k118_14 ?_
    exact w_reti k118_18 ⟨by unfold lt9; rw [if_pos c_5], rfl⟩
theorem m119 (hM : LM sh R) (ht : MT I tx len) {p : Int} (hp : 0 ≤ p) : RV X (d + 2) 119 [.inr (some 57), .inl p] (sh, R, I) (fg tx len p) := by
  have hlen := ht.2.1
  show WP X (d + 2) 119 0 [.inr (some 57), .inl p, .inr none] [] (sh, R, I) 0 0 _
  refine w_aload (pc' := 1) k119_0 rfl rfl ?_
  refine w_iload (pc' := 2) k119_1 rfl rfl ?_
  refine w_callE (pc' := 5) (as := [.inr (some 57), .inl _]) k119_2 rfl rfl (co_v rfl rfl (hM.1 57 (11, 30) rfl)) (by decide) (m118 hM ht hp) ?_
  refine w_istore (pc' := 6) (ls' := [_, _, _]) k119_5 rfl rfl rfl ?_
  refine w_iload (pc' := 7) k119_6 rfl rfl ?_
  refine w_c2 (pc' := 9) k119_7 rfl ?_
  refine w_ic_lt (pc' := 12) k119_9 rfl (fun c_9 => ?_) (fun c_9 => ?_)
  · refine w_c1 (pc' := 26) k119_25 rfl ?_
    exact w_reti k119_26 ⟨by unfold fg; rw [if_neg (by omega)], rfl⟩
  · refine w_iload (pc' := 13) k119_12 rfl rfl ?_
    refine w_c2 (pc' := 15) k119_13 rfl ?_
    refine w_ic_gt (pc' := 18) k119_15 rfl (fun c_15 => ?_) (fun c_15 => ?_)
    · refine w_c1 (pc' := 26) k119_25 rfl ?_
      exact w_reti k119_26 ⟨by unfold fg; rw [if_neg (by omega)], rfl⟩
    · refine w_iload (pc' := 19) k119_18 rfl rfl ?_
      refine w_c2 (pc' := 21) k119_19 rfl ?_
      refine w_isub (pc' := 22) k119_21 rfl (by omega) ?_
      refine w_goto k119_22 ?_
      exact w_reti k119_26 ⟨by unfold fg; rw [if_pos ⟨by omega, by omega⟩], rfl⟩
end M71
