/-! ===== LAW: lay, the loop ===== -/
section L92
variable {X : Nat × (Int → Int)} {d : Nat} {sh : List (Nat × Nat)} {R : Nat → Nat → Option Nat} {I : Nat → Int → Int} {K H E HO S L B : Int} {ρ γ : Nat → Nat} {M : Nat} {A A1 A2 : AS} {u : Int} {tx : Int → Int} {len : Int} {n bc bs : Nat} {i : Int}
theorem lc3f (ih : LAWG X d n) (hX : X.1 ≤ 2560) (hi : 0 ≤ i ∧ i ≤ (X.1 : Int) - 5) (hn : (X.1 : Int) - i < 5 * ((n : Int) + 1 + 1)) (hW : LWI sh R I K H E HO S L B ρ γ M (A, A1, A2, u) tx len (n + 1) bc bs) (hx : ∀ v stE, readR tx len 300 ps0 0 v stE → ¬ (v = -4 ∧ stE.1 ≠ 0)) : WP X (d + 10) 188 217 [.inr (some SCR), .inr (some 0), .inr (some 57), .inl i] [] (sh, R, I) bc bs (fun r _ => r = .inl 1) := by
  obtain ⟨hG, hM0, hBn, hMs⟩ := hW
  have hG : CG sh R I K H E HO S L B ρ γ M A A1 A2 u tx len := hG
  have hL := hG.1
  have hM := hM0.1.1
  refine w_aload (pc' := 218) k188_217 rfl rfl ?_
  refine w_callI (pc' := 221) (as := [.inr (some 0)]) k188_218 rfl rfl (co_v rfl rfl (hL.1 0 (10, 12) rfl)) (by decide) (m72f hG.pw hx) (fun z_218 h_218 hq => ?_)
  obtain ⟨e9, I_1, rfl, dr⟩ := hq
  obtain rfl := Sum.inl.inj e9
  have hG1 := hG.dr dr
  have h10 := (hG.2.2.2.1 10 (by decide) (by decide)).1.r
  have hM1 := hM0.kc hM (fun a q1 q2 => dr.1 a (by omega) (by omega))
  refine w_aload (pc' := 222) k188_221 rfl rfl ?_
  refine w_callI (pc' := 225) (as := [.inr (some 57)]) k188_222 rfl rfl (co_v rfl rfl (hM.1 57 (11, 30) rfl)) (by decide) (m128f hM hM1.2.2.2 hx) (fun z_222 h_222 hq => ?_)
  obtain ⟨e8, I_2, rfl, sx⟩ := hq
  obtain rfl := Sum.inl.inj e8
  refine w_ic_eq (pc' := 228) k188_225 rfl (fun c_225 => ?_) (fun c_225 => absurd c_225 (fun z9 => z9 rfl))
  refine w_iinc (pc' := 1001) (ls' := [_, _, _, _]) k188_998 rfl rfl (by omega) rfl ?_
  refine w_goto k188_1001 ?_
  exact ih _ _ _ _ K H E HO S L B _ _ _ (A, A1, A2, u) tx len _ _ ⟨hG1.km (fun a q => sx.1 a (by omega) (by omega) (by omega)), hM1.sx sx, by omega, hMs⟩ (by omega) (by omega)
theorem lc3s (ih : LAWG X d n) (hX : X.1 ≤ 2560) (hi : 0 ≤ i ∧ i ≤ (X.1 : Int) - 5) (hn : (X.1 : Int) - i < 5 * ((n : Int) + 1 + 1)) (hW : LWI sh R I K H E HO S L B ρ γ M (A, A1, A2, u) tx len (n + 1) bc bs) {K' H' E' HO' S' L' : Int} (hK' : KP K' H' E' HO' S' L') (hx : ∀ v stE, readR tx len 300 ps0 0 v stE → v = -4 ∧ stE.1 = K') {c : Nat} (hc : (L' * S' ≤ M ∧ c = 0) ∨ ((M : Int) < L' * S' ∧ c = 1)) (hb : 4 * c ≤ bc ∧ 4 * (c * 4860) ≤ bs) (hMs2 : ((if c = 0 then M else (L' * S').toNat) = 640 ∧ sh.length + 4 * c = 78 ∧ 4 ≤ bc - 4 * c ∧ 19440 ≤ bs - 4 * (c * 4860)) ∨ ((if c = 0 then M else (L' * S').toNat) = 4860 ∧ sh.length + 4 * c = 82)) : WP X (d + 10) 188 217 [.inr (some SCR), .inr (some 0), .inr (some 57), .inl i] [] (sh, R, I) bc bs (fun r _ => r = .inl 1) := by
  obtain ⟨hG, hM0, hBn, hMs⟩ := hW
  have hG : CG sh R I K H E HO S L B ρ γ M A A1 A2 u tx len := hG
  have hL := hG.1
  have hM := hM0.1.1
  have hlen : 78 ≤ sh.length ∧ sh.length ≤ 82 := by omega
  have hc9 : c ≤ 1 := by omega
  refine w_aload (pc' := 218) k188_217 rfl rfl ?_
  refine w_callM (pc' := 221) (as := [.inr (some 0)]) k188_218 rfl rfl (co_v rfl rfl (hL.1 0 (10, 12) rfl)) hb (m72s hG.pw hK' hx (fun stE h => lay_AB hK' (hx _ _ h).2 h) hc ⟨by omega, fun _ => Or.inr (by omega)⟩) (fun r_218 h_218 hq => ?_)
  obtain ⟨rfl, stE1, sh_1, R_1, I_1, rfl, w1, w2, w3, w4, w5, w6⟩ := hq
  show WP X (d + 10) 188 221 [.inr (some SCR), .inr (some 0), .inr (some 57), .inl i] [.inl HO'] (sh_1, R_1, I_1) (bc - 4 * c) (bs - 4 * (c * 4860)) _
  have hM := hM.ext w3 (fun k => w5 57 k (by omega) (by omega) (by omega))
  have ht1 := hM0.2.2.2.keep (I' := I_1) (by rw [w4 57 (by omega) (by omega) (by omega)]) (w4 58 (by omega) (by omega) (by omega))
  refine w_aload (pc' := 222) k188_221 rfl rfl ?_
  refine w_callI (pc' := 225) (as := [.inr (some 57)]) k188_222 rfl rfl (co_v rfl rfl (hM.1 57 (11, 30) rfl)) (by decide) (m128s hM ht1 hK' hx) (fun z_222 h_222 hq => ?_)
  obtain ⟨e8, stE2, I_2, rfl, rd2, i2, g2⟩ := hq
  obtain rfl := Sum.inl.inj e8
  obtain rfl := (readR_fn 300 300 w1 rd2).2 rfl (Int.le_refl _)
  refine w_ic_eq (pc' := 228) k188_225 rfl (fun c_225 => ?_) (fun c_225 => absurd c_225 (fun z9 => z9 rfl))
  refine w_iinc (pc' := 1001) (ls' := [_, _, _, _]) k188_998 rfl rfl (by omega) rfl ?_
  refine w_goto k188_1001 ?_
  exact ih _ _ _ _ K' H' E' _ S' L' 1 _ _ _ (layA stE1, layA stE1, layA stE1, 0) tx len _ _ ⟨CG.km w6 (fun a q => i2 a q), g2, by omega, by rw [w2]; exact hMs2⟩ (by omega) (by omega)
theorem lc3 (ih : LAWG X d n) (hX : X.1 ≤ 2560) (hi : 0 ≤ i ∧ i ≤ (X.1 : Int) - 5) (hn : (X.1 : Int) - i < 5 * ((n : Int) + 1 + 1)) (hW : LWI sh R I K H E HO S L B ρ γ M (A, A1, A2, u) tx len (n + 1) bc bs) : WP X (d + 10) 188 217 [.inr (some SCR), .inr (some 0), .inr (some 57), .inl i] [] (sh, R, I) bc bs (fun r _ => r = .inl 1) := by
  by_cases hE : ∃ stE, readR tx len 300 ps0 0 (-4) stE ∧ stE.1 ≠ 0
  · obtain ⟨stE, rd, h0⟩ := hE
    have hok := read_ok 300 ⟨Or.inl rfl, fun _ => rfl, ⟨Int.le_refl _, by decide⟩, fun f q1 q2 => absurd q1 (by have q2 : f < 0 := q2; omega), fun l => Or.inl rfl⟩ rd rfl (Int.le_refl _)
    have hx : ∀ v s2, readR tx len 300 ps0 0 v s2 → v = -4 ∧ s2.1 = stE.1 := fun v s2 h => by
      have h1 := readR_fn 300 300 rd h
      exact ⟨h1.1.symm, by rw [h1.2 rfl (Int.le_refl _)]⟩
    have hMs := hW.2.2.2
    rcases (show stE.1 = 2 ∨ stE.1 = 4 ∨ stE.1 = 6 by have := hok.1; omega) with e | e | e
    · rw [e] at hx
      have hK' : KP 2 1 2 2 5 4 := Or.inl ⟨rfl, rfl, rfl, rfl, rfl, rfl⟩
      refine lc3s ih hX hi hn hW hK' hx (c := 0) (Or.inl ⟨by omega, rfl⟩) (by omega) ?_
      rw [if_pos rfl]; omega
    · rw [e] at hx
      have hK' : KP 4 2 8 16 20 32 := Or.inr (Or.inl ⟨rfl, rfl, rfl, rfl, rfl, rfl⟩)
      refine lc3s ih hX hi hn hW hK' hx (c := 0) (Or.inl ⟨by omega, rfl⟩) (by omega) ?_
      rw [if_pos rfl]; omega
    · rw [e] at hx
      have hK' : KP 6 3 18 54 45 108 := Or.inr (Or.inr ⟨rfl, rfl, rfl, rfl, rfl, rfl⟩)
      rcases hMs with hMs | hMs
      · refine lc3s ih hX hi hn hW hK' hx (c := 1) (Or.inr ⟨by omega, rfl⟩) (by omega) ?_
        rw [if_neg (by decide)]; omega
      · refine lc3s ih hX hi hn hW hK' hx (c := 0) (Or.inl ⟨by omega, rfl⟩) (by omega) ?_
        rw [if_pos rfl]; omega
  · exact lc3f ih hX hi hn hW (fun v stE h z => hE ⟨stE, z.1 ▸ h, z.2⟩)
theorem law_l (hX : X.1 ≤ 2560) : ∀ n : Nat, LAWG X d n := by
  intro n
  induction n with
  | zero =>
    intro i sh R I K H E HO S L B ρ γ M z tx len bc bs hW h0 hn
    refine w_iload (pc' := 19) k188_18 rfl rfl ?_
    refine w_aload (pc' := 20) k188_19 rfl rfl ?_
    refine w_slen (pc' := 21) k188_20 rfl ?_
    refine w_c1 (pc' := 22) k188_21 rfl ?_
    refine w_isub (pc' := 23) k188_22 rfl (by omega) ?_
    refine w_ic_gt (pc' := 26) k188_23 rfl (fun c_23 => ?_) (fun c_23 => absurd c_23 (by omega))
    refine w_c1 (pc' := 1005) k188_1004 rfl ?_
    exact w_retz k188_1005 (Or.inr rfl) rfl
  | succ n ih =>
    intro i sh R I K H E HO S L B ρ γ M z tx len bc bs hW h0 hn
    obtain ⟨A, A1, A2, u⟩ := z
    refine w_iload (pc' := 19) k188_18 rfl rfl ?_
    refine w_aload (pc' := 20) k188_19 rfl rfl ?_
    refine w_slen (pc' := 21) k188_20 rfl ?_
    refine w_c1 (pc' := 22) k188_21 rfl ?_
    refine w_isub (pc' := 23) k188_22 rfl (by omega) ?_
    refine w_ic_gt (pc' := 26) k188_23 rfl (fun c_23 => ?_) (fun c_23 => ?_)
    · refine w_c1 (pc' := 1005) k188_1004 rfl ?_
      exact w_retz k188_1005 (Or.inr rfl) rfl
    · refine w_aload (pc' := 27) k188_26 rfl rfl ?_
      refine w_iload (pc' := 28) k188_27 rfl rfl ?_
      refine w_sld (pc' := 29) k188_28 rfl (by omega) ?_
      refine w_c2 (pc' := 31) k188_29 rfl ?_
      refine w_iand (pc' := 32) k188_31 rfl ?_
      refine w_swt k188_32 (fun i b hb e_32 => ?_) (fun e_32 => ?_)
      · match i, hb with
        | 0, hb =>
          obtain rfl : 168 = b := Option.some.inj hb
          exact lc0 ih hX ⟨h0, c_23⟩ (by omega) hW
        | 1, hb =>
          obtain rfl : 191 = b := Option.some.inj hb
          exact lc1 ih hX ⟨h0, c_23⟩ (by omega) hW
        | 2, hb =>
          obtain rfl : 204 = b := Option.some.inj hb
          exact lc2 ih hX ⟨h0, c_23⟩ (by omega) hW
        | 3, hb =>
          obtain rfl : 217 = b := Option.some.inj hb
          exact lc3 ih hX ⟨h0, c_23⟩ (by omega) hW
        | 4, hb =>
          obtain rfl : 230 = b := Option.some.inj hb
          exact lc4 ih hX ⟨h0, c_23⟩ (by omega) hW
        | 5, hb =>
          obtain rfl : 273 = b := Option.some.inj hb
          exact lc5 ih hX ⟨h0, c_23⟩ (by omega) hW
        | 6, hb =>
          obtain rfl : 306 = b := Option.some.inj hb
          exact lc6 ih hX ⟨h0, c_23⟩ (by omega) hW
        | 7, hb =>
          obtain rfl : 339 = b := Option.some.inj hb
          exact lc7 ih hX ⟨h0, c_23⟩ (by omega) hW
        | 8, hb =>
          obtain rfl : 372 = b := Option.some.inj hb
          exact lc8 ih hX ⟨h0, c_23⟩ (by omega) hW
        | 9, hb =>
          obtain rfl : 395 = b := Option.some.inj hb
          exact lc9 ih hX ⟨h0, c_23⟩ (by omega) hW
        | 10, hb =>
          obtain rfl : 418 = b := Option.some.inj hb
          exact lc10 ih hX ⟨h0, c_23⟩ (by omega) hW
        | 11, hb =>
          obtain rfl : 441 = b := Option.some.inj hb
          exact lc11 ih hX ⟨h0, c_23⟩ (by omega) hW
        | 12, hb =>
          obtain rfl : 474 = b := Option.some.inj hb
          exact lc12 ih hX ⟨h0, c_23⟩ (by omega) hW
        | 13, hb =>
          obtain rfl : 487 = b := Option.some.inj hb
          exact lc13 ih hX ⟨h0, c_23⟩ (by omega) hW
        | 14, hb =>
          obtain rfl : 500 = b := Option.some.inj hb
          exact lc14 ih hX ⟨h0, c_23⟩ (by omega) hW
        | 15, hb =>
          obtain rfl : 543 = b := Option.some.inj hb
          exact lc15 ih hX ⟨h0, c_23⟩ (by omega) hW
        | 16, hb =>
          obtain rfl : 596 = b := Option.some.inj hb
          exact lc16 ih hX ⟨h0, c_23⟩ (by omega) hW
        | 17, hb =>
          obtain rfl : 639 = b := Option.some.inj hb
          exact lc17 ih hX ⟨h0, c_23⟩ (by omega) hW
        | 18, hb =>
          obtain rfl : 672 = b := Option.some.inj hb
          exact lc18 ih hX ⟨h0, c_23⟩ (by omega) hW
        | 19, hb =>
          obtain rfl : 695 = b := Option.some.inj hb
          exact lc19 ih hX ⟨h0, c_23⟩ (by omega) hW
        | 20, hb =>
          obtain rfl : 718 = b := Option.some.inj hb
          exact lc20 ih hX ⟨h0, c_23⟩ (by omega) hW
        | 21, hb =>
          obtain rfl : 741 = b := Option.some.inj hb
          exact lc21 ih hX ⟨h0, c_23⟩ (by omega) hW
        | 22, hb =>
          obtain rfl : 784 = b := Option.some.inj hb
          exact lc22 ih hX ⟨h0, c_23⟩ (by omega) hW
        | 23, hb =>
          obtain rfl : 807 = b := Option.some.inj hb
          exact lc23 ih hX ⟨h0, c_23⟩ (by omega) hW
        | 24, hb =>
          obtain rfl : 840 = b := Option.some.inj hb
          exact lc24 ih hX ⟨h0, c_23⟩ (by omega) hW
        | 25, hb =>
          obtain rfl : 873 = b := Option.some.inj hb
          exact lc25 ih hX ⟨h0, c_23⟩ (by omega) hW
        | 26, hb =>
          obtain rfl : 916 = b := Option.some.inj hb
          exact lc26 ih hX ⟨h0, c_23⟩ (by omega) hW
        | 27, hb =>
          obtain rfl : 929 = b := Option.some.inj hb
          exact lc27 ih hX ⟨h0, c_23⟩ (by omega) hW
        | 28, hb =>
          obtain rfl : 962 = b := Option.some.inj hb
          exact lc28 ih hX ⟨h0, c_23⟩ (by omega) hW
        | 29, hb =>
          obtain rfl : 975 = b := Option.some.inj hb
          exact lc29 ih hX ⟨h0, c_23⟩ (by omega) hW
        | i + 30, hb => exact absurd hb (by simp)
      · refine w_iinc (pc' := 1001) (ls' := [_, _, _, _]) k188_998 rfl rfl (by omega) rfl ?_
        refine w_goto k188_1001 ?_
        exact ih _ _ _ _ K H E HO S L B _ _ _ (A, A1, A2, u) tx len _ _ ⟨hW.1, hW.2.1, by have := hW.2.2.1; omega, hW.2.2.2⟩ (by omega) (by omega)
end L92
