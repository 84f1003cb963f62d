/-! ===== REFERENCE: from an edge ===== -/
section M65
variable {X : Nat × (Int → Int)} {d : Nat} {sh : List (Nat × Nat)} {R : Nat → Nat → Option Nat} {I : Nat → Int → Int} {K H E HO S L B : Int} {A : AS}
theorem m159l (hF : MF sh R I K H E HO S L B A) {n b ss : Int} (hn : 0 ≤ n ∧ n < E) (hb : 0 ≤ b ∧ b < HO) (hss : 0 ≤ ss ∧ ss < H * H) : ∀ (k : Nat) (x : Int) (v9 v10 v11 : VV), x + k = H → 0 ≤ x → WP X (d + 3) 159 45 [.inr (some 57), .inl n, .inl b, .inl ss, .inl (n / H), .inl (n % H), .inl (b / H / H), .inl (b / H % H), .inl x, v9, v10, v11] [] (sh, R, I) 0 0 (fun r h' => r = .inl (srE H E (fun l => ev (aMk A n l)) n b ss k x) ∧ h' = (sh, R, I)) := by
  have hF0 := hF
  obtain ⟨hM, hK, hpo, hha, hms, hab, hB⟩ := hF
  have hr := hK.r
  have hen := edge_n (ss := ss) hK hn hb
  have hs9 : 0 ≤ ss / H ∧ ss / H < 3 := by
    refine ⟨?_, ?_⟩ <;> rcases hK with ⟨rfl, rfl, rfl, rfl, rfl, rfl⟩ | ⟨rfl, rfl, rfl, rfl, rfl, rfl⟩ | ⟨rfl, rfl, rfl, rfl, rfl, rfl⟩ <;> omega
  intro k
  induction k with
  | zero =>
    rintro x v9 v10 v11 hk hx
    have e : x = H := by omega
    subst e
    refine w_iload (pc' := 47) k159_45 rfl rfl ?_
    refine w_aload (pc' := 48) k159_47 rfl rfl ?_
    refine w_getI (pc' := 51) (ki := 3) (v := x) k159_48 rfl (hM.1 57 (11, 30) rfl) rfl hha ?_
    refine w_ic_ge (pc' := 54) k159_51 rfl (fun c_51 => ?_) (fun c_51 => absurd c_51 (by omega))
    refine w_c2 (pc' := 228) k159_226 rfl ?_
    exact w_reti k159_228 ⟨rfl, rfl⟩
  | succ k ih =>
    rintro x v9 v10 v11 hk hx
    have hj : 0 ≤ ((b % H + n % H + ss / H + x) % H) ∧ ((b % H + n % H + ss / H + x) % H) < H := ⟨Int.emod_nonneg _ (by omega), Int.emod_lt_of_pos _ (by omega)⟩
    have hl := lk1 (ss := ss) hK hn hb hj (m := 0) (by omega)
    have hL9 : leadsE H E (fun l => ev (aMk A n l)) n b ((b % H + n % H + ss / H + x) % H) = (ev (aMk A n (n * H + ((b % H + n % H + ss / H + x) % H))) && ev (aMk A n (b / H * H + ((b % H + n % H + ss / H + x) % H))) && (decide (n / H = b / H / H) || anyB (fun m => ev (aMk A n ((E + n / H * H + ((b % H + n % H + ss / H + x) % H)) * H + m)) && ev (aMk A n ((E + b / H / H * H + ((b % H + n % H + ss / H + x) % H)) * H + m))) H.toNat)) := rfl
    refine w_iload (pc' := 47) k159_45 rfl rfl ?_
    refine w_aload (pc' := 48) k159_47 rfl rfl ?_
    refine w_getI (pc' := 51) (ki := 3) (v := H) k159_48 rfl (hM.1 57 (11, 30) rfl) rfl hha ?_
    refine w_ic_ge (pc' := 54) k159_51 rfl (fun c_51 => absurd c_51 (by omega)) (fun c_51 => ?_)
    refine w_iload (pc' := 55) k159_54 rfl rfl ?_
    refine w_aload (pc' := 56) k159_55 rfl rfl ?_
    refine w_getI (pc' := 59) (ki := 3) (v := H) k159_56 rfl (hM.1 57 (11, 30) rfl) rfl hha ?_
    refine w_irem (pc' := 60) k159_59 rfl (by omega) ?_
    refine w_iload (pc' := 62) k159_60 rfl rfl ?_
    refine w_iadd (pc' := 63) k159_62 rfl (by omega) ?_
    refine w_iload (pc' := 64) k159_63 rfl rfl ?_
    refine w_aload (pc' := 65) k159_64 rfl rfl ?_
    refine w_getI (pc' := 68) (ki := 3) (v := H) k159_65 rfl (hM.1 57 (11, 30) rfl) rfl hha ?_
    refine w_idiv (pc' := 69) k159_68 rfl (by omega) ?_
    refine w_iadd (pc' := 70) k159_69 rfl (by omega) ?_
    refine w_iload (pc' := 72) k159_70 rfl rfl ?_
    refine w_iadd (pc' := 73) k159_72 rfl (by omega) ?_
    refine w_aload (pc' := 74) k159_73 rfl rfl ?_
    refine w_getI (pc' := 77) (ki := 3) (v := H) k159_74 rfl (hM.1 57 (11, 30) rfl) rfl hha ?_
    refine w_irem (pc' := 78) k159_77 rfl (by omega) ?_
    refine w_istore (pc' := 80) (ls' := [_, _, _, _, _, _, _, _, _, _, _, _]) k159_78 rfl rfl rfl ?_
    refine w_aload (pc' := 81) k159_80 rfl rfl ?_
    refine w_iload (pc' := 82) k159_81 rfl rfl ?_
    refine w_aload (pc' := 83) k159_82 rfl rfl ?_
    refine w_iload (pc' := 85) k159_83 rfl rfl ?_
    refine w_iload (pc' := 87) k159_85 rfl rfl ?_
    refine w_iload (pc' := 89) k159_87 rfl rfl ?_
    refine w_callE (pc' := 92) (as := [.inr (some 57), .inl _, .inl _, .inl _]) k159_89 rfl rfl (co_v rfl rfl (hM.1 57 (11, 30) rfl)) (by decide) (m138 hF0 hen.1 hen.2.1 (by omega) hl.1.1) ?_
    refine w_callB (pc' := 95) (as := [.inr (some 57), .inl _, .inl _]) k159_92 rfl rfl (co_v rfl rfl (hM.1 57 (11, 30) rfl)) (by decide) (m158 hF0 (by omega) hl.1.2) (fun q_92 => ?_) (fun q_92 => ?_)
    · refine w_if_eq (pc' := 98) k159_95 rfl (fun c_95 => absurd c_95 (by decide)) (fun _ => ?_)
      refine w_aload (pc' := 99) k159_98 rfl rfl ?_
      refine w_iload (pc' := 100) k159_99 rfl rfl ?_
      refine w_aload (pc' := 101) k159_100 rfl rfl ?_
      refine w_iload (pc' := 103) k159_101 rfl rfl ?_
      refine w_iload (pc' := 105) k159_103 rfl rfl ?_
      refine w_iload (pc' := 107) k159_105 rfl rfl ?_
      refine w_callE (pc' := 110) (as := [.inr (some 57), .inl _, .inl _, .inl _]) k159_107 rfl rfl (co_v rfl rfl (hM.1 57 (11, 30) rfl)) (by decide) (m138 hF0 hen.2.2.1 hen.2.2.2.1 (by omega) hl.2.1.1) ?_
      refine w_callB (pc' := 113) (as := [.inr (some 57), .inl _, .inl _]) k159_110 rfl rfl (co_v rfl rfl (hM.1 57 (11, 30) rfl)) (by decide) (m158 hF0 (by omega) hl.2.1.2) (fun q_110 => ?_) (fun q_110 => ?_)
      · refine w_if_eq (pc' := 116) k159_113 rfl (fun c_113 => absurd c_113 (by decide)) (fun _ => ?_)
        refine w_c1 (pc' := 117) k159_116 rfl ?_
        refine w_goto k159_117 ?_
        refine w_istore (pc' := 123) (ls' := [_, _, _, _, _, _, _, _, _, _, _, _]) k159_121 rfl rfl rfl ?_
        refine w_iload (pc' := 125) k159_123 rfl rfl ?_
        refine w_if_eq (pc' := 128) k159_125 rfl (fun c_125 => absurd c_125 (by decide)) (fun _ => ?_)
        refine w_iload (pc' := 130) k159_128 rfl rfl ?_
        refine w_iload (pc' := 132) k159_130 rfl rfl ?_
        refine w_ic_eq (pc' := 135) k159_132 rfl (fun c_132 => ?_) (fun c_132 => ?_)
        · refine w_iload (pc' := 206) k159_204 rfl rfl ?_
          refine w_if_eq (pc' := 209) k159_206 rfl (fun c_206 => absurd c_206 (by decide)) (fun _ => ?_)
          refine w_aload (pc' := 210) k159_209 rfl rfl ?_
          refine w_iload (pc' := 212) k159_210 rfl rfl ?_
          refine w_iload (pc' := 214) k159_212 rfl rfl ?_
          refine w_iload (pc' := 216) k159_214 rfl rfl ?_
          refine w_callE (pc' := 219) (as := [.inr (some 57), .inl _, .inl _, .inl _]) k159_216 rfl rfl (co_v rfl rfl (hM.1 57 (11, 30) rfl)) (by decide) (m138 hF0 hen.1 hen.2.1 (by omega) hl.1.1) ?_
          exact w_reti k159_219 ⟨congrArg Sum.inl (by rw [srE, if_pos (by rw [hL9, q_92, q_110, decide_eq_true c_132]; rfl)]), rfl⟩
        · refine w_c1 (pc' := 136) k159_135 rfl ?_
          refine w_istore (pc' := 138) (ls' := [_, _, _, _, _, _, _, _, _, _, _, _]) k159_136 rfl rfl rfl ?_
          refine w_c1 (pc' := 139) k159_138 rfl ?_
          refine w_istore (pc' := 141) (ls' := [_, _, _, _, _, _, _, _, _, _, _, _]) k159_139 rfl rfl rfl ?_
          refine m159m hF0 hn hb hj (N := H.toNat) (by omega) (fun v11 => ?_) H.toNat 0 _ _ (by omega) rfl rfl
          refine w_iload (pc' := 206) k159_204 rfl rfl ?_
          refine w_if_eq (pc' := 209) k159_206 rfl (fun c_206 => ?_) (fun c_206 => ?_)
          · refine w_iinc (pc' := 223) (ls' := [_, _, _, _, _, _, _, _, _, _, _, _]) k159_220 rfl rfl (by omega) rfl ?_
            refine w_goto k159_223 ?_
            have h9 : ¬ anyB (fun m => ev (aMk A n ((E + n / H * H + ((b % H + n % H + ss / H + x) % H)) * H + m)) && ev (aMk A n ((E + b / H / H * H + ((b % H + n % H + ss / H + x) % H)) * H + m))) H.toNat = true := fun z => by rw [if_pos z] at c_206; exact absurd c_206 (by decide)
            refine WP.mono (ih (x + 1) _ _ _ (by omega) (by omega)) (fun r h' hq => ?_)
            rw [srE, if_neg (by rw [hL9, decide_eq_false c_132, Bool.false_or, Bool.eq_false_iff.mpr h9, Bool.and_false]; decide)]
            exact hq
          · refine w_aload (pc' := 210) k159_209 rfl rfl ?_
            refine w_iload (pc' := 212) k159_210 rfl rfl ?_
            refine w_iload (pc' := 214) k159_212 rfl rfl ?_
            refine w_iload (pc' := 216) k159_214 rfl rfl ?_
            refine w_callE (pc' := 219) (as := [.inr (some 57), .inl _, .inl _, .inl _]) k159_216 rfl rfl (co_v rfl rfl (hM.1 57 (11, 30) rfl)) (by decide) (m138 hF0 hen.1 hen.2.1 (by omega) hl.1.1) ?_
            exact w_reti k159_219 ⟨congrArg Sum.inl (by rw [srE, if_pos (by rw [hL9, q_92, q_110, Decidable.byContradiction (fun z => c_206 (if_neg z)), Bool.or_true]; rfl)]), rfl⟩
      · refine w_if_eq (pc' := 116) k159_113 rfl (fun _ => ?_) (fun c_113 => absurd c_113 (by decide))
        refine w_c1 (pc' := 121) k159_120 rfl ?_
        refine w_istore (pc' := 123) (ls' := [_, _, _, _, _, _, _, _, _, _, _, _]) k159_121 rfl rfl rfl ?_
        refine w_iload (pc' := 125) k159_123 rfl rfl ?_
        refine w_if_eq (pc' := 128) k159_125 rfl (fun _ => ?_) (fun c_125 => absurd c_125 (by decide))
        refine w_iload (pc' := 206) k159_204 rfl rfl ?_
        refine w_if_eq (pc' := 209) k159_206 rfl (fun _ => ?_) (fun c_206 => absurd c_206 (by decide))
        refine w_iinc (pc' := 223) (ls' := [_, _, _, _, _, _, _, _, _, _, _, _]) k159_220 rfl rfl (by omega) rfl ?_
        refine w_goto k159_223 ?_
        refine WP.mono (ih (x + 1) _ _ _ (by omega) (by omega)) (fun r h' hq => ?_)
        rw [srE, if_neg (by rw [hL9, show ev (aMk A n (b / H * H + ((b % H + n % H + ss / H + x) % H))) = false by simpa using q_110]; simp)]
        exact hq
    · refine w_if_eq (pc' := 98) k159_95 rfl (fun _ => ?_) (fun c_95 => absurd c_95 (by decide))
      refine w_c1 (pc' := 121) k159_120 rfl ?_
      refine w_istore (pc' := 123) (ls' := [_, _, _, _, _, _, _, _, _, _, _, _]) k159_121 rfl rfl rfl ?_
      refine w_iload (pc' := 125) k159_123 rfl rfl ?_
      refine w_if_eq (pc' := 128) k159_125 rfl (fun _ => ?_) (fun c_125 => absurd c_125 (by decide))
      refine w_iload (pc' := 206) k159_204 rfl rfl ?_
      refine w_if_eq (pc' := 209) k159_206 rfl (fun _ => ?_) (fun c_206 => absurd c_206 (by decide))
      refine w_iinc (pc' := 223) (ls' := [_, _, _, _, _, _, _, _, _, _, _, _]) k159_220 rfl rfl (by omega) rfl ?_
      refine w_goto k159_223 ?_
      refine WP.mono (ih (x + 1) _ _ _ (by omega) (by omega)) (fun r h' hq => ?_)
      rw [srE, if_neg (by rw [hL9, show ev (aMk A n (n * H + ((b % H + n % H + ss / H + x) % H))) = false by simpa using q_92]; simp)]
      exact hq
theorem m159 (hF : MF sh R I K H E HO S L B A) {n b ss : Int} (hn : 0 ≤ n ∧ n < E) (hb : 0 ≤ b ∧ b < HO) (hss : 0 ≤ ss ∧ ss < H * H) : RV X (d + 3) 159 [.inr (some 57), .inl n, .inl b, .inl ss] (sh, R, I) (srE H E (fun l => ev (aMk A n l)) n b ss H.toNat 0) := by
  have hF0 := hF
  obtain ⟨hM, hK, hpo, hha, hms, hab, hB⟩ := hF
  have hr := hK.r
  show WP X (d + 3) 159 0 [.inr (some 57), .inl n, .inl b, .inl ss, .inr none, .inr none, .inr none, .inr none, .inr none, .inr none, .inr none, .inr none] [] (sh, R, I) 0 0 _
  refine w_iload (pc' := 1) k159_0 rfl rfl ?_
  refine w_aload (pc' := 2) k159_1 rfl rfl ?_
  refine w_getI (pc' := 5) (ki := 3) (v := H) k159_2 rfl (hM.1 57 (11, 30) rfl) rfl hha ?_
  refine w_idiv (pc' := 6) k159_5 rfl (by first | omega | (rcases hK with ⟨rfl, rfl, rfl, rfl, rfl, rfl⟩ | ⟨rfl, rfl, rfl, rfl, rfl, rfl⟩ | ⟨rfl, rfl, rfl, rfl, rfl, rfl⟩ <;> omega)) ?_
  refine w_istore (pc' := 8) (ls' := [_, _, _, _, _, _, _, _, _, _, _, _]) k159_6 rfl rfl rfl ?_
  refine w_iload (pc' := 9) k159_8 rfl rfl ?_
  refine w_aload (pc' := 10) k159_9 rfl rfl ?_
  refine w_getI (pc' := 13) (ki := 3) (v := H) k159_10 rfl (hM.1 57 (11, 30) rfl) rfl hha ?_
  refine w_irem (pc' := 14) k159_13 rfl (by first | omega | (rcases hK with ⟨rfl, rfl, rfl, rfl, rfl, rfl⟩ | ⟨rfl, rfl, rfl, rfl, rfl, rfl⟩ | ⟨rfl, rfl, rfl, rfl, rfl, rfl⟩ <;> omega)) ?_
  refine w_istore (pc' := 16) (ls' := [_, _, _, _, _, _, _, _, _, _, _, _]) k159_14 rfl rfl rfl ?_
  refine w_iload (pc' := 17) k159_16 rfl rfl ?_
  refine w_aload (pc' := 18) k159_17 rfl rfl ?_
  refine w_getI (pc' := 21) (ki := 3) (v := H) k159_18 rfl (hM.1 57 (11, 30) rfl) rfl hha ?_
  refine w_idiv (pc' := 22) k159_21 rfl (by first | omega | (rcases hK with ⟨rfl, rfl, rfl, rfl, rfl, rfl⟩ | ⟨rfl, rfl, rfl, rfl, rfl, rfl⟩ | ⟨rfl, rfl, rfl, rfl, rfl, rfl⟩ <;> omega)) ?_
  refine w_aload (pc' := 23) k159_22 rfl rfl ?_
  refine w_getI (pc' := 26) (ki := 3) (v := H) k159_23 rfl (hM.1 57 (11, 30) rfl) rfl hha ?_
  refine w_idiv (pc' := 27) k159_26 rfl (by first | omega | (rcases hK with ⟨rfl, rfl, rfl, rfl, rfl, rfl⟩ | ⟨rfl, rfl, rfl, rfl, rfl, rfl⟩ | ⟨rfl, rfl, rfl, rfl, rfl, rfl⟩ <;> omega)) ?_
  refine w_istore (pc' := 29) (ls' := [_, _, _, _, _, _, _, _, _, _, _, _]) k159_27 rfl rfl rfl ?_
  refine w_iload (pc' := 30) k159_29 rfl rfl ?_
  refine w_aload (pc' := 31) k159_30 rfl rfl ?_
  refine w_getI (pc' := 34) (ki := 3) (v := H) k159_31 rfl (hM.1 57 (11, 30) rfl) rfl hha ?_
  refine w_idiv (pc' := 35) k159_34 rfl (by first | omega | (rcases hK with ⟨rfl, rfl, rfl, rfl, rfl, rfl⟩ | ⟨rfl, rfl, rfl, rfl, rfl, rfl⟩ | ⟨rfl, rfl, rfl, rfl, rfl, rfl⟩ <;> omega)) ?_
  refine w_aload (pc' := 36) k159_35 rfl rfl ?_
  refine w_getI (pc' := 39) (ki := 3) (v := H) k159_36 rfl (hM.1 57 (11, 30) rfl) rfl hha ?_
  refine w_irem (pc' := 40) k159_39 rfl (by first | omega | (rcases hK with ⟨rfl, rfl, rfl, rfl, rfl, rfl⟩ | ⟨rfl, rfl, rfl, rfl, rfl, rfl⟩ | ⟨rfl, rfl, rfl, rfl, rfl, rfl⟩ <;> omega)) ?_
  refine w_istore (pc' := 42) (ls' := [_, _, _, _, _, _, _, _, _, _, _, _]) k159_40 rfl rfl rfl ?_
  refine w_c1 (pc' := 43) k159_42 rfl ?_
  refine w_istore (pc' := 45) (ls' := [_, _, _, _, _, _, _, _, _, _, _, _]) k159_43 rfl rfl rfl ?_
  exact m159l hF0 hn hb hss H.toNat 0 _ _ _ (by omega) (by omega)
end M65
