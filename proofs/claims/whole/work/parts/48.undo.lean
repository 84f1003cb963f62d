/-! ===== CLASS: undo ===== -/
section C48
variable {X : Nat × (Int → Int)} {d : Nat} {sh : List (Nat × Nat)} {R : Nat → Nat → Option Nat} {I : Nat → Int → Int} {K H E HO S L B : Int} {ρ γ : Nat → Nat} {M : Nat} {A A1 A2 : AS} {u : Int} {tx : Int → Int} {len : Int}
def undV (u : Int) : Int := if 1 ≤ u then u - 1 else -2
def undZ (z : ZZ) : ZZ := if 1 ≤ z.2.2.2 then (z.2.1, z.2.2.1, z.2.2.1, z.2.2.2 - 1) else z
theorem und_CG (hG : CG sh R I K H E HO S L B ρ γ M A A1 A2 u tx len) (hB1 : B + 1 ≤ 1000000) (c5 : 1 ≤ u) {R' : Nat → Nat → Option Nat} {I' : Nat → Int → Int} (hRF : RF R R') (q7 : R' 0 7 = some (ρ 8)) (q8 : R' 0 8 = some (ρ 9)) (q9 : R' 0 9 = some (ρ 7)) (q10 : R' 0 10 = some (ρ 10)) (kk : ∀ a, a ≠ 0 → I' a = I a) (k11 : I' 0 11 = u - 1) : CG sh R' I' K H E HO S L (B + 1) (rotU ρ) γ M A1 A2 A2 (u - 1) tx len := by
  have hG0 := hG
  have hF0 := hG.cf
  obtain ⟨hL, hK, hsp, hro, hri, hga, hgi, hM, hLS, hB, ⟨hcs, hab⟩, hc1, hc2, ⟨hu, hu0⟩, htx⟩ := hG
  obtain ⟨h_r7, t7⟩ := hro 7 (by decide) (by decide)
  obtain ⟨h_r8, t8⟩ := hro 8 (by decide) (by decide)
  obtain ⟨h_r9, t9⟩ := hro 9 (by decide) (by decide)
  obtain ⟨h_r10, t10⟩ := hro 10 (by decide) (by decide)
  obtain ⟨m_r7, n_r7, g_r7, -⟩ := hga _ h_r7
  obtain ⟨m_r10, n_r10, g_r10, hp7, hp8⟩ := hga _ h_r10
  have h0 : CG sh R' I' K H E HO S L B (rotU ρ) γ M A1 A2 A2 (u - 1) tx len := by
    refine ⟨hRF.lc hL, hK, hsp.keep (fun a q1 q2 => kk a (by omega)), fun k q1 q2 => ?_, ?_, fun s hs => ?_, hgi, hM, hLS, hB, ⟨(hc1 c5).1.keep (fun a q => kk a ?_), (hc1 c5).2⟩, fun q => ⟨(hc2 (by omega)).1.keep (fun a q => kk a ?_), (hc2 (by omega)).2⟩, fun q => absurd q (by omega), ⟨⟨by omega, by omega⟩, k11⟩, ?_⟩
    · rcases (show k = 7 ∨ k = 8 ∨ k = 9 ∨ k = 10 by omega) with rfl | rfl | rfl | rfl
      · exact ⟨h_r8, q7⟩
      · exact ⟨h_r9, q8⟩
      · exact ⟨h_r7, q9⟩
      · exact ⟨h_r10, q10⟩
    · rw [rotU_e]; exact rot_i hri (fun k a b => rotU_r a b) (fun i j a b c e f => rotU_j a b c e f)
    · have := hs.r
      rw [hRF s 6 (by omega), kk s (by omega)]; exact hga s hs
    · have := h_r8.r
      have := (hga _ h_r8).2.2.1
      have q : (ρ 8 ≤ a ∧ a ≤ ρ 8 + 5) ∨ a = γ (ρ 8) := q
      omega
    · have := h_r9.r
      have := (hga _ h_r9).2.2.1
      have q : (ρ 9 ≤ a ∧ a ≤ ρ 9 + 5) ∨ a = γ (ρ 9) := q
      omega
    · unfold TX at htx ⊢
      rw [kk 1 (by decide), kk 2 (by decide)]; exact htx
  exact h0.mono ⟨by omega, hB1⟩
theorem m82 (hG : CG sh R I K H E HO S L B ρ γ M A A1 A2 u tx len) (hB1 : B + 1 ≤ 1000000) : QC X (d + 1) 82 [.inr (some 0)] sh R I K H E HO S L (B + 1) γ M (undV u) (undZ (A, A1, A2, u)) (tx) (len) := by
  have hG0 := hG
  have hF0 := hG.cf
  obtain ⟨hL, hK, hsp, hro, hri, hga, hgi, hM, hLS, hB, ⟨hcs, hab⟩, hc1, hc2, ⟨hu, hu0⟩, htx⟩ := hG
  obtain ⟨h_r7, t7⟩ := hro 7 (by decide) (by decide)
  obtain ⟨h_r8, t8⟩ := hro 8 (by decide) (by decide)
  obtain ⟨h_r9, t9⟩ := hro 9 (by decide) (by decide)
  obtain ⟨h_r10, t10⟩ := hro 10 (by decide) (by decide)
  obtain ⟨m_r7, n_r7, g_r7, -⟩ := hga _ h_r7
  obtain ⟨m_r10, n_r10, g_r10, hp7, hp8⟩ := hga _ h_r10
  show WP X (d + 1) 82 0 [.inr (some 0), .inr none] [] (sh, R, I) 0 0 _
  refine w_aload (pc' := 1) k82_0 rfl rfl ?_
  refine w_getI (pc' := 4) (ki := 11) (v := u) k82_1 rfl (hL.1 0 (10, 12) rfl) rfl hu0 ?_
  refine w_c1 (pc' := 5) k82_4 rfl ?_
  refine w_ic_ge (pc' := 8) k82_5 rfl (fun c_5 => ?_) (fun c_5 => ?_)
  · refine w_aload (pc' := 12) k82_11 rfl rfl ?_
    refine w_getR (pc' := 15) (v := (ρ 7)) k82_12 rfl (hL.1 0 (10, 12) rfl) t7 ?_
    refine w_astore (pc' := 16) (ls' := [_, _]) k82_15 rfl rfl rfl ?_
    refine w_aload (pc' := 17) k82_16 rfl rfl ?_
    refine w_aload (pc' := 18) k82_17 rfl rfl ?_
    refine w_getR (pc' := 21) (v := (ρ 8)) k82_18 rfl (hL.1 0 (10, 12) rfl) t8 ?_
    refine w_putR (pc' := 24) k82_21 rfl (hL.1 0 (10, 12) rfl) (by first | exact hL.lt h_r8 | exact hL.lt h_r9 | exact hL.lt h_r7 | omega) ?_
    refine w_aload (pc' := 25) k82_24 rfl rfl ?_
    refine w_aload (pc' := 26) k82_25 rfl rfl ?_
    refine w_getR (pc' := 29) (v := (ρ 9)) k82_26 rfl (hL.1 0 (10, 12) rfl) (by rw [upR_s, upK_n (by decide)]; exact t9) ?_
    refine w_putR (pc' := 32) k82_29 rfl (hL.1 0 (10, 12) rfl) (by first | exact hL.lt h_r8 | exact hL.lt h_r9 | exact hL.lt h_r7 | omega) ?_
    refine w_aload (pc' := 33) k82_32 rfl rfl ?_
    refine w_aload (pc' := 34) k82_33 rfl rfl ?_
    refine w_putR (pc' := 37) k82_34 rfl (hL.1 0 (10, 12) rfl) (by first | exact hL.lt h_r8 | exact hL.lt h_r9 | exact hL.lt h_r7 | omega) ?_
    refine w_aload (pc' := 38) k82_37 rfl rfl ?_
    refine w_dup (pc' := 39) k82_38 rfl ?_
    refine w_getI (pc' := 42) (ki := 11) (v := u) k82_39 rfl (hL.1 0 (10, 12) rfl) rfl hu0 ?_
    refine w_c1 (pc' := 43) k82_42 rfl ?_
    refine w_isub (pc' := 44) k82_43 rfl (by first | exact hL.lt h_r8 | exact hL.lt h_r9 | exact hL.lt h_r7 | omega) ?_
    refine w_putI (pc' := 47) (ki := 11) k82_44 rfl (hL.1 0 (10, 12) rfl) rfl ?_
    refine w_aload (pc' := 48) k82_47 rfl rfl ?_
    refine w_getI (pc' := 51) (ki := 11) (v := u - 1) k82_48 rfl (hL.1 0 (10, 12) rfl) rfl (by rw [upA_s, upF_s]) ?_
    have c5 : 1 ≤ u := by omega
    refine w_reti k82_51 ⟨by unfold undV; rw [if_pos c5], _, _, rotU ρ, rfl, fun a q1 q2 => upA_n (by omega), ?_, ?_⟩
    · intro a k q
      by_cases e : a = 0
      · subst e
        rw [upR_s, upK_n (by omega), upR_s, upK_n (by omega), upR_s, upK_n (by omega)]
      · rw [upR_n e, upR_n e, upR_n e]
    · rw [show undZ (A, A1, A2, u) = (A1, A2, A2, u - 1) from if_pos c5]
      refine und_CG hG0 hB1 c5 ?_ ?_ ?_ ?_ ?_ ?_ ?_
      · intro a k q
        by_cases e : a = 0
        · subst e
          rw [upR_s, upK_n (by omega), upR_s, upK_n (by omega), upR_s, upK_n (by omega)]
        · rw [upR_n e, upR_n e, upR_n e]
      · rw [upR_s, upK_n (by decide), upR_s, upK_n (by decide), upR_s, upK_s]
      · rw [upR_s, upK_n (by decide), upR_s, upK_s]
      · rw [upR_s, upK_s]
      · rw [upR_s, upK_n (by decide), upR_s, upK_n (by decide), upR_s, upK_n (by decide)]; exact t10
      · exact fun a q => upA_n q
      · rw [upA_s, upF_s]
  · refine w_c2 (pc' := 10) k82_8 rfl ?_
    exact w_reti k82_10 ⟨by unfold undV; rw [if_neg (by omega)], by rw [show undZ (A, A1, A2, u) = (A, A1, A2, u) from if_neg (show ¬ 1 ≤ u by omega)]; exact ⟨_, _, _, rfl, fun _ _ _ => rfl, RF.rf, hG0.mono ⟨by omega, hB1⟩⟩⟩
end C48
