/-! ===== REFERENCE: from a middle, onward ===== -/
section M66
variable {X : Nat × (Int → Int)} {d : Nat} {sh : List (Nat × Nat)} {R : Nat → Nat → Option Nat} {I : Nat → Int → Int} {K H E HO S L B : Int} {A : AS}
theorem mid_n (hK : KP K H E HO S L) {n b ss : Int} (hn : E ≤ n ∧ n < 2 * E) (hb : 0 ≤ b ∧ b < HO) : (0 ≤ (n - E) / H ∧ (n - E) / H < 6) ∧ (0 ≤ (n - E) % H ∧ (n - E) % H < 3) ∧ (0 ≤ b / H / H ∧ b / H / H < 6) ∧ (0 ≤ b / H % H ∧ b / H % H < 3) ∧ (0 ≤ b % H ∧ b % H < 3) ∧ n < S ∧ (0 ≤ ss % H ∧ ss % H < 3) ∧ ((b / H / H * H + b / H % H) * H + (n - E) % H = b / H * H + (n - E) % H ∧ 0 ≤ b / H * H + (n - E) % H ∧ b / H * H + (n - E) % H < L) := by
  refine ⟨⟨?_, ?_⟩, ⟨?_, ?_⟩, ⟨?_, ?_⟩, ⟨?_, ?_⟩, ⟨?_, ?_⟩, ?_, ⟨?_, ?_⟩, ?_, ?_, ?_⟩ <;> rcases hK with ⟨rfl, rfl, rfl, rfl, rfl, rfl⟩ | ⟨rfl, rfl, rfl, rfl, rfl, rfl⟩ | ⟨rfl, rfl, rfl, rfl, rfl, rfl⟩ <;> omega
theorem lk2 (hK : KP K H E HO S L) {n b ss : Int} (hn : E ≤ n ∧ n < 2 * E) (hb : 0 ≤ b ∧ b < HO) {m : Int} (hm : 0 ≤ m ∧ m < H) : (HO + ((n - E) / H * H + (n - E) % H) * H + m = n * H + m ∧ 0 ≤ n * H + m ∧ n * H + m < L) ∧ (HO + (b / H / H * H + (n - E) % H) * H + m = (E + b / H / H * H + (n - E) % H) * H + m ∧ 0 ≤ (E + b / H / H * H + (n - E) % H) * H + m ∧ (E + b / H / H * H + (n - E) % H) * H + m < L) := by
  refine ⟨⟨?_, ?_, ?_⟩, ?_, ?_, ?_⟩ <;> rcases hK with ⟨rfl, rfl, rfl, rfl, rfl, rfl⟩ | ⟨rfl, rfl, rfl, rfl, rfl, rfl⟩ | ⟨rfl, rfl, rfl, rfl, rfl, rfl⟩ <;> omega
theorem m160l (hF : MF sh R I K H E HO S L B A) {n b ss : Int} (hn : E ≤ n ∧ n < 2 * E) (hb : 0 ≤ b ∧ b < HO) (hss : 0 ≤ ss ∧ ss < H * H) : ∀ (k : Nat) (x : Int) (v9 : VV), x + k = H → 0 ≤ x → WP X (d + 3) 160 88 [.inr (some 57), .inl n, .inl b, .inl ss, .inl ((n - E) / H), .inl ((n - E) % H), .inl (b / H / H), .inl (b / H * H + (n - E) % H), .inl x, v9] [] (sh, R, I) 0 0 (fun r h' => r = .inl (srM H E (fun l => ev (aMk A n l)) n b ss k x) ∧ h' = (sh, R, I)) := by
  have hF0 := hF
  obtain ⟨hM, hK, hpo, hha, hms, hab, hB⟩ := hF
  have hr := hK.r
  have hen := mid_n (ss := ss) hK hn hb
  intro k
  induction k with
  | zero =>
    rintro x v9 hk hx
    have e : x = H := by omega
    subst e
    refine w_iload (pc' := 90) k160_88 rfl rfl ?_
    refine w_aload (pc' := 91) k160_90 rfl rfl ?_
    refine w_getI (pc' := 94) (ki := 3) (v := x) k160_91 rfl (hM.1 57 (11, 30) rfl) rfl hha ?_
    refine w_ic_ge (pc' := 97) k160_94 rfl (fun c_94 => ?_) (fun c_94 => absurd c_94 (by omega))
    refine w_c2 (pc' := 188) k160_186 rfl ?_
    exact w_reti k160_188 ⟨rfl, rfl⟩
  | succ k ih =>
    rintro x v9 hk hx
    have hj : 0 ≤ ((b % H + (n - E) % H + ss % H + x) % H) ∧ ((b % H + (n - E) % H + ss % H + x) % H) < H := ⟨Int.emod_nonneg _ (by omega), Int.emod_lt_of_pos _ (by omega)⟩
    have hl := lk2 (ss := ss) hK hn hb hj
    have hL9 : leadsM H E (fun l => ev (aMk A n l)) n b ((b % H + (n - E) % H + ss % H + x) % H) = (ev (aMk A n (n * H + ((b % H + (n - E) % H + ss % H + x) % H))) && ev (aMk A n ((E + b / H / H * H + (n - E) % H) * H + ((b % H + (n - E) % H + ss % H + x) % H))) && ev (aMk A n (b / H * H + (n - E) % H))) := rfl
    refine w_iload (pc' := 90) k160_88 rfl rfl ?_
    refine w_aload (pc' := 91) k160_90 rfl rfl ?_
    refine w_getI (pc' := 94) (ki := 3) (v := H) k160_91 rfl (hM.1 57 (11, 30) rfl) rfl hha ?_
    refine w_ic_ge (pc' := 97) k160_94 rfl (fun c_94 => absurd c_94 (by omega)) (fun c_94 => ?_)
    refine w_iload (pc' := 98) k160_97 rfl rfl ?_
    refine w_aload (pc' := 99) k160_98 rfl rfl ?_
    refine w_getI (pc' := 102) (ki := 3) (v := H) k160_99 rfl (hM.1 57 (11, 30) rfl) rfl hha ?_
    refine w_irem (pc' := 103) k160_102 rfl (by omega) ?_
    refine w_iload (pc' := 105) k160_103 rfl rfl ?_
    refine w_iadd (pc' := 106) k160_105 rfl (by omega) ?_
    refine w_iload (pc' := 107) k160_106 rfl rfl ?_
    refine w_aload (pc' := 108) k160_107 rfl rfl ?_
    refine w_getI (pc' := 111) (ki := 3) (v := H) k160_108 rfl (hM.1 57 (11, 30) rfl) rfl hha ?_
    refine w_irem (pc' := 112) k160_111 rfl (by omega) ?_
    refine w_iadd (pc' := 113) k160_112 rfl (by omega) ?_
    refine w_iload (pc' := 115) k160_113 rfl rfl ?_
    refine w_iadd (pc' := 116) k160_115 rfl (by omega) ?_
    refine w_aload (pc' := 117) k160_116 rfl rfl ?_
    refine w_getI (pc' := 120) (ki := 3) (v := H) k160_117 rfl (hM.1 57 (11, 30) rfl) rfl hha ?_
    refine w_irem (pc' := 121) k160_120 rfl (by omega) ?_
    refine w_istore (pc' := 123) (ls' := [_, _, _, _, _, _, _, _, _, _]) k160_121 rfl rfl rfl ?_
    refine w_aload (pc' := 124) k160_123 rfl rfl ?_
    refine w_iload (pc' := 125) k160_124 rfl rfl ?_
    refine w_aload (pc' := 126) k160_125 rfl rfl ?_
    refine w_iload (pc' := 128) k160_126 rfl rfl ?_
    refine w_iload (pc' := 130) k160_128 rfl rfl ?_
    refine w_iload (pc' := 132) k160_130 rfl rfl ?_
    refine w_callE (pc' := 135) (as := [.inr (some 57), .inl _, .inl _, .inl _]) k160_132 rfl rfl (co_v rfl rfl (hM.1 57 (11, 30) rfl)) (by decide) (m139 hF0 hen.1 hen.2.1 (by omega) hl.1.1) ?_
    refine w_callB (pc' := 138) (as := [.inr (some 57), .inl _, .inl _]) k160_135 rfl rfl (co_v rfl rfl (hM.1 57 (11, 30) rfl)) (by decide) (m158 hF0 (by omega) hl.1.2) (fun q_135 => ?_) (fun q_135 => ?_)
    · refine w_if_eq (pc' := 141) k160_138 rfl (fun c_138 => absurd c_138 (by decide)) (fun _ => ?_)
      refine w_aload (pc' := 142) k160_141 rfl rfl ?_
      refine w_iload (pc' := 143) k160_142 rfl rfl ?_
      refine w_aload (pc' := 144) k160_143 rfl rfl ?_
      refine w_iload (pc' := 146) k160_144 rfl rfl ?_
      refine w_iload (pc' := 148) k160_146 rfl rfl ?_
      refine w_iload (pc' := 150) k160_148 rfl rfl ?_
      refine w_callE (pc' := 153) (as := [.inr (some 57), .inl _, .inl _, .inl _]) k160_150 rfl rfl (co_v rfl rfl (hM.1 57 (11, 30) rfl)) (by decide) (m139 hF0 hen.2.2.1 hen.2.1 (by omega) hl.2.1) ?_
      refine w_callB (pc' := 156) (as := [.inr (some 57), .inl _, .inl _]) k160_153 rfl rfl (co_v rfl rfl (hM.1 57 (11, 30) rfl)) (by decide) (m158 hF0 (by omega) hl.2.2) (fun q_153 => ?_) (fun q_153 => ?_)
      · refine w_if_eq (pc' := 159) k160_156 rfl (fun c_156 => absurd c_156 (by decide)) (fun _ => ?_)
        refine w_aload (pc' := 160) k160_159 rfl rfl ?_
        refine w_iload (pc' := 161) k160_160 rfl rfl ?_
        refine w_iload (pc' := 163) k160_161 rfl rfl ?_
        refine w_callB (pc' := 166) (as := [.inr (some 57), .inl _, .inl _]) k160_163 rfl rfl (co_v rfl rfl (hM.1 57 (11, 30) rfl)) (by decide) (m158 hF0 (by omega) hen.2.2.2.2.2.2.2.2) (fun q_163 => ?_) (fun q_163 => ?_)
        · refine w_if_eq (pc' := 169) k160_166 rfl (fun c_166 => absurd c_166 (by decide)) (fun _ => ?_)
          refine w_aload (pc' := 170) k160_169 rfl rfl ?_
          refine w_iload (pc' := 172) k160_170 rfl rfl ?_
          refine w_iload (pc' := 174) k160_172 rfl rfl ?_
          refine w_iload (pc' := 176) k160_174 rfl rfl ?_
          refine w_callE (pc' := 179) (as := [.inr (some 57), .inl _, .inl _, .inl _]) k160_176 rfl rfl (co_v rfl rfl (hM.1 57 (11, 30) rfl)) (by decide) (m139 hF0 hen.1 hen.2.1 (by omega) hl.1.1) ?_
          exact w_reti k160_179 ⟨congrArg Sum.inl (by rw [srM, if_pos (by rw [hL9, q_135, q_153, q_163]; rfl)]), rfl⟩
        · refine w_if_eq (pc' := 169) k160_166 rfl (fun _ => ?_) (fun c_166 => absurd c_166 (by decide))
          refine w_iinc (pc' := 183) (ls' := [_, _, _, _, _, _, _, _, _, _]) k160_180 rfl rfl (by omega) rfl ?_
          refine w_goto k160_183 ?_
          refine WP.mono (ih (x + 1) _ (by omega) (by omega)) (fun r h' hq => ?_)
          rw [srM, if_neg (by rw [hL9, show ev (aMk A n (b / H * H + (n - E) % H)) = false by simpa using q_163]; simp)]
          exact hq
      · refine w_if_eq (pc' := 159) k160_156 rfl (fun _ => ?_) (fun c_156 => absurd c_156 (by decide))
        refine w_iinc (pc' := 183) (ls' := [_, _, _, _, _, _, _, _, _, _]) k160_180 rfl rfl (by omega) rfl ?_
        refine w_goto k160_183 ?_
        refine WP.mono (ih (x + 1) _ (by omega) (by omega)) (fun r h' hq => ?_)
        rw [srM, if_neg (by rw [hL9, show ev (aMk A n ((E + b / H / H * H + (n - E) % H) * H + ((b % H + (n - E) % H + ss % H + x) % H))) = false by simpa using q_153]; simp)]
        exact hq
    · refine w_if_eq (pc' := 141) k160_138 rfl (fun _ => ?_) (fun c_138 => absurd c_138 (by decide))
      refine w_iinc (pc' := 183) (ls' := [_, _, _, _, _, _, _, _, _, _]) k160_180 rfl rfl (by omega) rfl ?_
      refine w_goto k160_183 ?_
      refine WP.mono (ih (x + 1) _ (by omega) (by omega)) (fun r h' hq => ?_)
      rw [srM, if_neg (by rw [hL9, show ev (aMk A n (n * H + ((b % H + (n - E) % H + ss % H + x) % H))) = false by simpa using q_135]; simp)]
      exact hq
theorem m160 (hF : MF sh R I K H E HO S L B A) {n b ss : Int} (hn : E ≤ n ∧ n < 2 * E) (hb : 0 ≤ b ∧ b < HO) (hss : 0 ≤ ss ∧ ss < H * H) : RV X (d + 3) 160 [.inr (some 57), .inl n, .inl b, .inl ss] (sh, R, I) ((if (n - E) / H = b / H / H then (if ev (aMk A n (b / H * H + (n - E) % H)) then b / H * H + (n - E) % H else -2) else srM H E (fun l => ev (aMk A n l)) n b ss H.toNat 0)) := by
  have hF0 := hF
  obtain ⟨hM, hK, hpo, hha, hms, hab, hB⟩ := hF
  have hr := hK.r
  have hen := mid_n (ss := ss) hK hn hb
  show WP X (d + 3) 160 0 [.inr (some 57), .inl n, .inl b, .inl ss, .inr none, .inr none, .inr none, .inr none, .inr none, .inr none] [] (sh, R, I) 0 0 _
  refine w_iload (pc' := 1) k160_0 rfl rfl ?_
  refine w_aload (pc' := 2) k160_1 rfl rfl ?_
  refine w_callE (pc' := 5) (as := [.inr (some 57)]) k160_2 rfl rfl (co_v rfl rfl (hM.1 57 (11, 30) rfl)) (by decide) (m130 hF0) ?_
  refine w_isub (pc' := 6) k160_5 rfl (by first | omega | (rcases hK with ⟨rfl, rfl, rfl, rfl, rfl, rfl⟩ | ⟨rfl, rfl, rfl, rfl, rfl, rfl⟩ | ⟨rfl, rfl, rfl, rfl, rfl, rfl⟩ <;> omega)) ?_
  refine w_aload (pc' := 7) k160_6 rfl rfl ?_
  refine w_getI (pc' := 10) (ki := 3) (v := H) k160_7 rfl (hM.1 57 (11, 30) rfl) rfl hha ?_
  refine w_idiv (pc' := 11) k160_10 rfl (by first | omega | (rcases hK with ⟨rfl, rfl, rfl, rfl, rfl, rfl⟩ | ⟨rfl, rfl, rfl, rfl, rfl, rfl⟩ | ⟨rfl, rfl, rfl, rfl, rfl, rfl⟩ <;> omega)) ?_
  refine w_istore (pc' := 13) (ls' := [_, _, _, _, _, _, _, _, _, _]) k160_11 rfl rfl rfl ?_
  refine w_iload (pc' := 14) k160_13 rfl rfl ?_
  refine w_aload (pc' := 15) k160_14 rfl rfl ?_
  refine w_callE (pc' := 18) (as := [.inr (some 57)]) k160_15 rfl rfl (co_v rfl rfl (hM.1 57 (11, 30) rfl)) (by decide) (m130 hF0) ?_
  refine w_isub (pc' := 19) k160_18 rfl (by first | omega | (rcases hK with ⟨rfl, rfl, rfl, rfl, rfl, rfl⟩ | ⟨rfl, rfl, rfl, rfl, rfl, rfl⟩ | ⟨rfl, rfl, rfl, rfl, rfl, rfl⟩ <;> omega)) ?_
  refine w_aload (pc' := 20) k160_19 rfl rfl ?_
  refine w_getI (pc' := 23) (ki := 3) (v := H) k160_20 rfl (hM.1 57 (11, 30) rfl) rfl hha ?_
  refine w_irem (pc' := 24) k160_23 rfl (by first | omega | (rcases hK with ⟨rfl, rfl, rfl, rfl, rfl, rfl⟩ | ⟨rfl, rfl, rfl, rfl, rfl, rfl⟩ | ⟨rfl, rfl, rfl, rfl, rfl, rfl⟩ <;> omega)) ?_
  refine w_istore (pc' := 26) (ls' := [_, _, _, _, _, _, _, _, _, _]) k160_24 rfl rfl rfl ?_
  refine w_iload (pc' := 27) k160_26 rfl rfl ?_
  refine w_aload (pc' := 28) k160_27 rfl rfl ?_
  refine w_getI (pc' := 31) (ki := 3) (v := H) k160_28 rfl (hM.1 57 (11, 30) rfl) rfl hha ?_
  refine w_idiv (pc' := 32) k160_31 rfl (by first | omega | (rcases hK with ⟨rfl, rfl, rfl, rfl, rfl, rfl⟩ | ⟨rfl, rfl, rfl, rfl, rfl, rfl⟩ | ⟨rfl, rfl, rfl, rfl, rfl, rfl⟩ <;> omega)) ?_
  refine w_aload (pc' := 33) k160_32 rfl rfl ?_
  refine w_getI (pc' := 36) (ki := 3) (v := H) k160_33 rfl (hM.1 57 (11, 30) rfl) rfl hha ?_
  refine w_idiv (pc' := 37) k160_36 rfl (by first | omega | (rcases hK with ⟨rfl, rfl, rfl, rfl, rfl, rfl⟩ | ⟨rfl, rfl, rfl, rfl, rfl, rfl⟩ | ⟨rfl, rfl, rfl, rfl, rfl, rfl⟩ <;> omega)) ?_
  refine w_istore (pc' := 39) (ls' := [_, _, _, _, _, _, _, _, _, _]) k160_37 rfl rfl rfl ?_
  refine w_aload (pc' := 40) k160_39 rfl rfl ?_
  refine w_iload (pc' := 42) k160_40 rfl rfl ?_
  refine w_iload (pc' := 43) k160_42 rfl rfl ?_
  refine w_aload (pc' := 44) k160_43 rfl rfl ?_
  refine w_getI (pc' := 47) (ki := 3) (v := H) k160_44 rfl (hM.1 57 (11, 30) rfl) rfl hha ?_
  refine w_idiv (pc' := 48) k160_47 rfl (by first | omega | (rcases hK with ⟨rfl, rfl, rfl, rfl, rfl, rfl⟩ | ⟨rfl, rfl, rfl, rfl, rfl, rfl⟩ | ⟨rfl, rfl, rfl, rfl, rfl, rfl⟩ <;> omega)) ?_
  refine w_aload (pc' := 49) k160_48 rfl rfl ?_
  refine w_getI (pc' := 52) (ki := 3) (v := H) k160_49 rfl (hM.1 57 (11, 30) rfl) rfl hha ?_
  refine w_irem (pc' := 53) k160_52 rfl (by first | omega | (rcases hK with ⟨rfl, rfl, rfl, rfl, rfl, rfl⟩ | ⟨rfl, rfl, rfl, rfl, rfl, rfl⟩ | ⟨rfl, rfl, rfl, rfl, rfl, rfl⟩ <;> omega)) ?_
  refine w_iload (pc' := 55) k160_53 rfl rfl ?_
  refine w_callE (pc' := 58) (as := [.inr (some 57), .inl _, .inl _, .inl _]) k160_55 rfl rfl (co_v rfl rfl (hM.1 57 (11, 30) rfl)) (by decide) (m138 hF0 hen.2.2.1 hen.2.2.2.1 hen.2.1 hen.2.2.2.2.2.2.2.1) ?_
  refine w_istore (pc' := 60) (ls' := [_, _, _, _, _, _, _, _, _, _]) k160_58 rfl rfl rfl ?_
  refine w_iload (pc' := 62) k160_60 rfl rfl ?_
  refine w_iload (pc' := 64) k160_62 rfl rfl ?_
  refine w_ic_ne (pc' := 67) k160_64 rfl (fun c_64 => ?_) (fun c_64 => ?_)
  · refine w_c1 (pc' := 86) k160_85 rfl ?_
    refine w_istore (pc' := 88) (ls' := [_, _, _, _, _, _, _, _, _, _]) k160_86 rfl rfl rfl ?_
    rw [if_neg c_64]
    exact m160l hF0 hn hb hss H.toNat 0 _ (by omega) (by omega)
  · refine w_aload (pc' := 68) k160_67 rfl rfl ?_
    refine w_iload (pc' := 69) k160_68 rfl rfl ?_
    refine w_iload (pc' := 71) k160_69 rfl rfl ?_
    refine w_callB (pc' := 74) (as := [.inr (some 57), .inl _, .inl _]) k160_71 rfl rfl (co_v rfl rfl (hM.1 57 (11, 30) rfl)) (by decide) (m158 hF0 (by omega) hen.2.2.2.2.2.2.2.2) (fun q_71 => ?_) (fun q_71 => ?_)
    · refine w_if_eq (pc' := 77) k160_74 rfl (fun c_74 => absurd c_74 (by decide)) (fun _ => ?_)
      refine w_iload (pc' := 79) k160_77 rfl rfl ?_
      refine w_goto k160_79 ?_
      exact w_reti k160_84 ⟨by rw [if_pos c_64, if_pos q_71], rfl⟩
    · refine w_if_eq (pc' := 77) k160_74 rfl (fun _ => ?_) (fun c_74 => absurd c_74 (by decide))
      refine w_c2 (pc' := 84) k160_82 rfl ?_
      exact w_reti k160_84 ⟨by rw [if_pos c_64, if_neg q_71], rfl⟩
end M66
