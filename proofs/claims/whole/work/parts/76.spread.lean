/-! ===== REFERENCE: spread ===== -/
/-- what a letter between two hosts adds to a link -/
def fU (H E : Int) (A : AS) (l a b : Int) : Int := if a = b then 0 else if pA H E A (a / H) b 0 then uC H E A (a / H) b 0 l else 0
def fD (H E : Int) (A : AS) (l a b : Int) : Int := if a = b then 0 else if pA H E A (a / H) b 0 then dC H E A (a / H) b 0 l else 0
theorem fU_le {H E : Int} {A : AS} {l : Int} (a b : Int) : 0 ≤ fU H E A l a b ∧ fU H E A l a b ≤ 4 := by
  have := uC_le (H := H) (E := E) (A := A) (n := a / H) (b := b) (ss := 0) (l := l)
  unfold fU; split; omega; split <;> omega
theorem fD_le {H E : Int} {A : AS} {l : Int} (a b : Int) : 0 ≤ fD H E A l a b ∧ fD H E A l a b ≤ 4 := by
  have := dC_le (H := H) (E := E) (A := A) (n := a / H) (b := b) (ss := 0) (l := l)
  unfold fD; split; omega; split <;> omega
theorem pV_home {H E : Int} {A : AS} {n b s : Int} (h : b / H = n) : pV H E A n b s = 1 := by
  have h1 : pL H E A n b s 0 = -4 := by show nl H E A n b s = -4; unfold nl; exact if_pos h.symm
  unfold pV
  rw [h1, if_pos (by decide)]
theorem fU_sum {K H E HO S L : Int} {A : AS} (hK : KP K H E HO S L) {l : Int} : sumN (fun a => sumN (fU H E A l a) HO.toNat) HO.toNat = svS (gU H E A l) HO E := by
  obtain ⟨e, h, hh, rfl, rfl, e3, e4⟩ := hK.nat
  unfold svS
  rw [e4, e3]
  refine (hostsum (G := fun x b => if pA h e A x b 0 then uC h e A x b 0 l else 0) hh (e * h)).trans ?_
  apply sumN_ext
  intro x _
  apply sumN_ext
  intro b _
  unfold gU
  by_cases c : (b : Int) / (h : Int) = x
  · have h0 : uC h e A x b 0 l = 0 := by unfold uC; rw [pV_home c]; rfl
    rw [h0]; simp
  · rw [if_neg c]; split
    · rfl
    · exact Int.mul_zero _
theorem fD_sum {K H E HO S L : Int} {A : AS} (hK : KP K H E HO S L) {l : Int} : sumN (fun a => sumN (fD H E A l a) HO.toNat) HO.toNat = svS (gD H E A l) HO E := by
  obtain ⟨e, h, hh, rfl, rfl, e3, e4⟩ := hK.nat
  unfold svS
  rw [e4, e3]
  refine (hostsum (G := fun x b => if pA h e A x b 0 then dC h e A x b 0 l else 0) hh (e * h)).trans ?_
  apply sumN_ext
  intro x _
  apply sumN_ext
  intro b _
  unfold gD
  by_cases c : (b : Int) / (h : Int) = x
  · have h0 : dC h e A x b 0 l = 0 := by unfold dC; rw [pV_home c]; rfl
    rw [h0]; simp
  · rw [if_neg c]; split
    · rfl
    · exact Int.mul_zero _
theorem lsF_r {f : Int → Int} {P : Int → Bool} (hf : ∀ i, 0 ≤ i → 0 ≤ f i) : ∀ n : Nat, lsF f P n = -4 ∨ 0 ≤ lsF f P n
  | 0 => Or.inl rfl
  | n + 1 => by
    have h1 := lsF_r (P := P) hf n
    have h2 := hf n (by omega)
    rw [lsF]
    split
    · split
      · exact Or.inr h2
      · exact h1
    · exact h1
section M76
variable {X : Nat × (Int → Int)} {d : Nat} {sh : List (Nat × Nat)} {R : Nat → Nat → Option Nat} {I : Nat → Int → Int} {K H E HO S L B : Int} {A : AS}
/-- only what letters and counts leave behind is another -/
def SD (I I1 : Nat → Int → Int) : Prop := (∀ a, a ≠ 57 → a ≠ 69 → a ≠ 70 → a ≠ 71 → a ≠ 72 → I1 a = I a) ∧ ∀ j, j ≠ 18 → j ≠ 21 → I1 57 j = I 57 j
theorem SD.mf {I1 : Nat → Int → Int} (hF : MF sh R I K H E HO S L B A) (h : SD I I1) : MF sh R I1 K H E HO S L B A := hF.keep (fun a q => h.1 a (by omega) (by omega) (by omega) (by omega) (by omega)) (fun j q => h.2 j (by omega) (by omega))
theorem SD.sc {I1 I2 : Nat → Int → Int} (h : SD I I1) (h1 : ∀ a, a ≠ 57 → a ≠ 69 → a ≠ 70 → I2 a = I1 a) (h2 : ∀ j, j ≠ 18 → j ≠ 21 → I2 57 j = I1 57 j) : SD I I2 := ⟨fun a q1 q2 q3 q4 q5 => (h1 a q1 q2 q3).trans (h.1 a q1 q2 q3 q4 q5), fun j q1 q2 => (h2 j q1 q2).trans (h.2 j q1 q2)⟩
theorem SD.ud {I1 I2 : Nat → Int → Int} (h : SD I I1) (h1 : ∀ a, a ≠ 71 → a ≠ 72 → I2 a = I1 a) : SD I I2 := ⟨fun a q1 q2 q3 q4 q5 => (h1 a q4 q5).trans (h.1 a q1 q2 q3 q4 q5), fun j q1 q2 => by rw [h1 57 (by decide) (by decide)]; exact h.2 j q1 q2⟩
/-- where spread is -/
def SIv (I I1 : Nat → Int → Int) (H E HO : Int) (A : AS) (a b : Nat) : Prop := SD I I1 ∧ ∀ l, 0 ≤ l → l < 108 → I1 71 l = hsS (fU H E A l) HO.toNat a b ∧ I1 72 l = hsS (fD H E A l) HO.toNat a b
theorem m173e (hF : MF sh R I K H E HO S L B A) {t : Int} (ht : 0 ≤ t ∧ t ≤ 3) {I1 : Nat → Int → Int} (hs : SD I I1) (h7 : ∀ l, 0 ≤ l → l < 108 → (I1 71 l = svS (gU H E A l) HO E ∧ I1 72 l = svS (gD H E A l) HO E) ∧ (0 ≤ I1 71 l ∧ 0 ≤ I1 72 l)) {N : Nat} (hN : L = (N : Int)) : ∀ (k m : Nat) (x y i : Int) (v5 : VV), m + k = N → i = (m : Int) → x = mxF (fun l => if t < 2 then svS (gU H E A l) HO E else svS (gD H E A l) HO E) (fun l => ev (aAg A l)) m → y = lsF (fun l => if t < 2 then svS (gU H E A l) HO E else svS (gD H E A l) HO E) (fun l => ev (aAg A l)) m → (y = -4 ∨ 0 ≤ y) → WP X (d + 6) 173 80 [.inr (some 57), .inl t, .inl x, .inl y, .inl i, v5] [] (sh, R, I1) 0 0 (fun r h' => r = .inl (spreS H E HO L A t) ∧ ∃ I', h' = (sh, R, I') ∧ SD I I') := by
  have hF0 := hF
  obtain ⟨hM, hK, hpo, hha, hms, hab, hB⟩ := hF
  have hr := hK.r
  have hF1 := hs.mf hF0
  intro k
  induction k with
  | zero =>
    rintro m x y i v5 hk rfl hx hy hy0
    have e : m = N := by omega
    subst e
    have hLN : L.toNat = m := by omega
    refine w_iload (pc' := 82) k173_80 rfl rfl ?_
    refine w_aload (pc' := 83) k173_82 rfl rfl ?_
    refine w_callE (pc' := 86) (as := [.inr (some 57)]) k173_83 rfl rfl (co_v rfl rfl (hM.1 57 (11, 30) rfl)) (by decide) (m132 hF1) ?_
    refine w_ic_ge (pc' := 89) k173_86 rfl (fun c_86 => ?_) (fun c_86 => absurd c_86 (by omega))
    refine w_iload (pc' := 159) k173_158 rfl rfl ?_
    refine w_c1 (pc' := 160) k173_159 rfl ?_
    refine w_irem (pc' := 161) k173_160 rfl (by omega) ?_
    refine w_if_ne (pc' := 164) k173_161 rfl (fun c_161 => ?_) (fun c_161 => ?_)
    · refine w_iload (pc' := 169) k173_168 rfl rfl ?_
      refine w_reti k173_169 ⟨?_, _, rfl, hs⟩
      unfold spreS
      rw [if_pos ht, hLN, hy]
      rcases (show t = 1 ∨ t = 3 by omega) with rfl | rfl <;> rfl
    · refine w_iload (pc' := 165) k173_164 rfl rfl ?_
      refine w_goto k173_165 ?_
      refine w_reti k173_169 ⟨?_, _, rfl, hs⟩
      unfold spreS
      rw [if_pos ht, hLN, hx]
      rcases (show t = 0 ∨ t = 2 by omega) with rfl | rfl <;> rfl
  | succ k ih =>
    rintro m x y i v5 hk rfl hx hy hy0
    have hm : (0 : Int) ≤ (m : Int) ∧ (m : Int) < L := by omega
    have h8 := h7 m hm.1 (by omega)
    refine w_iload (pc' := 82) k173_80 rfl rfl ?_
    refine w_aload (pc' := 83) k173_82 rfl rfl ?_
    refine w_callE (pc' := 86) (as := [.inr (some 57)]) k173_83 rfl rfl (co_v rfl rfl (hM.1 57 (11, 30) rfl)) (by decide) (m132 hF1) ?_
    refine w_ic_ge (pc' := 89) k173_86 rfl (fun c_86 => absurd c_86 (by omega)) (fun c_86 => ?_)
    refine w_iload (pc' := 90) k173_89 rfl rfl ?_
    refine w_c1 (pc' := 91) k173_90 rfl ?_
    refine w_ic_ge (pc' := 94) k173_91 rfl (fun c_91 => ?_) (fun c_91 => ?_)
    · refine w_aload (pc' := 105) k173_104 rfl rfl ?_
      refine w_getR (pc' := 108) (v := 72) k173_105 rfl (hM.1 57 (11, 30) rfl) (hM.2 57 23 72 rfl) ?_
      refine w_iload (pc' := 110) k173_108 rfl rfl ?_
      refine w_iald (pc' := 111) (v := svS (gD H E A m) HO E) k173_110 rfl (hM.1 72 (0, 108) rfl) (by omega) h8.1.2 ?_
      refine w_istore (pc' := 113) (ls' := [_, _, _, _, _, _]) k173_111 rfl rfl rfl ?_
      refine w_aload (pc' := 114) k173_113 rfl rfl ?_
      refine w_iload (pc' := 116) k173_114 rfl rfl ?_
      refine w_callB (pc' := 119) (as := [.inr (some 57), .inl _]) k173_116 rfl rfl (co_v rfl rfl (hM.1 57 (11, 30) rfl)) (by decide) (m142 hF1 hm) (fun q_116 => ?_) (fun q_116 => ?_)
      · refine w_if_eq (pc' := 122) k173_119 rfl (fun c_119 => absurd c_119 (by decide)) (fun _ => ?_)
        refine w_iload (pc' := 124) k173_122 rfl rfl ?_
        refine w_iload (pc' := 125) k173_124 rfl rfl ?_
        refine w_ic_le (pc' := 128) k173_125 rfl (fun c_125 => ?_) (fun c_125 => ?_)
        · refine w_iload (pc' := 134) k173_133 rfl rfl ?_
          refine w_istore (pc' := 135) (ls' := [_, _, _, _, _, _]) k173_134 rfl rfl rfl ?_
          refine w_iload (pc' := 136) k173_135 rfl rfl ?_
          refine w_if_lt (pc' := 139) k173_136 rfl (fun c_136 => ?_) (fun c_136 => ?_)
          · refine w_iload (pc' := 147) k173_145 rfl rfl ?_
            refine w_goto k173_147 ?_
            refine w_istore (pc' := 152) (ls' := [_, _, _, _, _, _]) k173_151 rfl rfl rfl ?_
            refine w_iinc (pc' := 155) (ls' := [_, _, _, _, _, _]) k173_152 rfl rfl (by omega) rfl ?_
            refine w_goto k173_155 ?_
            exact ih (m + 1) _ _ _ _ (by omega) (by omega) (by rw [mxF, if_pos q_116, ← hx, if_neg (c := t < 2) (by omega)]; omega) (by rw [lsF, if_pos q_116, ← hy, if_neg (c := t < 2) (by omega), if_pos (by omega)]) (by omega)
          · refine w_iload (pc' := 141) k173_139 rfl rfl ?_
            refine w_iload (pc' := 142) k173_141 rfl rfl ?_
            refine w_ic_ge (pc' := 145) k173_142 rfl (fun c_142 => ?_) (fun c_142 => ?_)
            · refine w_iload (pc' := 151) k173_150 rfl rfl ?_
              refine w_istore (pc' := 152) (ls' := [_, _, _, _, _, _]) k173_151 rfl rfl rfl ?_
              refine w_iinc (pc' := 155) (ls' := [_, _, _, _, _, _]) k173_152 rfl rfl (by omega) rfl ?_
              refine w_goto k173_155 ?_
              exact ih (m + 1) _ _ _ _ (by omega) (by omega) (by rw [mxF, if_pos q_116, ← hx, if_neg (c := t < 2) (by omega)]; omega) (by rw [lsF, if_pos q_116, ← hy, if_neg (c := t < 2) (by omega), if_neg (by omega)]) (by omega)
            · refine w_iload (pc' := 147) k173_145 rfl rfl ?_
              refine w_goto k173_147 ?_
              refine w_istore (pc' := 152) (ls' := [_, _, _, _, _, _]) k173_151 rfl rfl rfl ?_
              refine w_iinc (pc' := 155) (ls' := [_, _, _, _, _, _]) k173_152 rfl rfl (by omega) rfl ?_
              refine w_goto k173_155 ?_
              exact ih (m + 1) _ _ _ _ (by omega) (by omega) (by rw [mxF, if_pos q_116, ← hx, if_neg (c := t < 2) (by omega)]; omega) (by rw [lsF, if_pos q_116, ← hy, if_neg (c := t < 2) (by omega), if_pos (by omega)]) (by omega)
        · refine w_iload (pc' := 130) k173_128 rfl rfl ?_
          refine w_goto k173_130 ?_
          refine w_istore (pc' := 135) (ls' := [_, _, _, _, _, _]) k173_134 rfl rfl rfl ?_
          refine w_iload (pc' := 136) k173_135 rfl rfl ?_
          refine w_if_lt (pc' := 139) k173_136 rfl (fun c_136 => ?_) (fun c_136 => ?_)
          · refine w_iload (pc' := 147) k173_145 rfl rfl ?_
            refine w_goto k173_147 ?_
            refine w_istore (pc' := 152) (ls' := [_, _, _, _, _, _]) k173_151 rfl rfl rfl ?_
            refine w_iinc (pc' := 155) (ls' := [_, _, _, _, _, _]) k173_152 rfl rfl (by omega) rfl ?_
            refine w_goto k173_155 ?_
            exact ih (m + 1) _ _ _ _ (by omega) (by omega) (by rw [mxF, if_pos q_116, ← hx, if_neg (c := t < 2) (by omega)]; omega) (by rw [lsF, if_pos q_116, ← hy, if_neg (c := t < 2) (by omega), if_pos (by omega)]) (by omega)
          · refine w_iload (pc' := 141) k173_139 rfl rfl ?_
            refine w_iload (pc' := 142) k173_141 rfl rfl ?_
            refine w_ic_ge (pc' := 145) k173_142 rfl (fun c_142 => ?_) (fun c_142 => ?_)
            · refine w_iload (pc' := 151) k173_150 rfl rfl ?_
              refine w_istore (pc' := 152) (ls' := [_, _, _, _, _, _]) k173_151 rfl rfl rfl ?_
              refine w_iinc (pc' := 155) (ls' := [_, _, _, _, _, _]) k173_152 rfl rfl (by omega) rfl ?_
              refine w_goto k173_155 ?_
              exact ih (m + 1) _ _ _ _ (by omega) (by omega) (by rw [mxF, if_pos q_116, ← hx, if_neg (c := t < 2) (by omega)]; omega) (by rw [lsF, if_pos q_116, ← hy, if_neg (c := t < 2) (by omega), if_neg (by omega)]) (by omega)
            · refine w_iload (pc' := 147) k173_145 rfl rfl ?_
              refine w_goto k173_147 ?_
              refine w_istore (pc' := 152) (ls' := [_, _, _, _, _, _]) k173_151 rfl rfl rfl ?_
              refine w_iinc (pc' := 155) (ls' := [_, _, _, _, _, _]) k173_152 rfl rfl (by omega) rfl ?_
              refine w_goto k173_155 ?_
              exact ih (m + 1) _ _ _ _ (by omega) (by omega) (by rw [mxF, if_pos q_116, ← hx, if_neg (c := t < 2) (by omega)]; omega) (by rw [lsF, if_pos q_116, ← hy, if_neg (c := t < 2) (by omega), if_pos (by omega)]) (by omega)
      · refine w_if_eq (pc' := 122) k173_119 rfl (fun _ => ?_) (fun c_119 => absurd c_119 (by decide))
        refine w_iinc (pc' := 155) (ls' := [_, _, _, _, _, _]) k173_152 rfl rfl (by omega) rfl ?_
        refine w_goto k173_155 ?_
        exact ih (m + 1) _ _ _ _ (by omega) (by omega) (by rw [mxF, if_neg q_116, ← hx]) (by rw [lsF, if_neg q_116, ← hy]) hy0
    · refine w_aload (pc' := 95) k173_94 rfl rfl ?_
      refine w_getR (pc' := 98) (v := 71) k173_95 rfl (hM.1 57 (11, 30) rfl) (hM.2 57 22 71 rfl) ?_
      refine w_iload (pc' := 100) k173_98 rfl rfl ?_
      refine w_iald (pc' := 101) (v := svS (gU H E A m) HO E) k173_100 rfl (hM.1 71 (0, 108) rfl) (by omega) h8.1.1 ?_
      refine w_goto k173_101 ?_
      refine w_istore (pc' := 113) (ls' := [_, _, _, _, _, _]) k173_111 rfl rfl rfl ?_
      refine w_aload (pc' := 114) k173_113 rfl rfl ?_
      refine w_iload (pc' := 116) k173_114 rfl rfl ?_
      refine w_callB (pc' := 119) (as := [.inr (some 57), .inl _]) k173_116 rfl rfl (co_v rfl rfl (hM.1 57 (11, 30) rfl)) (by decide) (m142 hF1 hm) (fun q_116 => ?_) (fun q_116 => ?_)
      · refine w_if_eq (pc' := 122) k173_119 rfl (fun c_119 => absurd c_119 (by decide)) (fun _ => ?_)
        refine w_iload (pc' := 124) k173_122 rfl rfl ?_
        refine w_iload (pc' := 125) k173_124 rfl rfl ?_
        refine w_ic_le (pc' := 128) k173_125 rfl (fun c_125 => ?_) (fun c_125 => ?_)
        · refine w_iload (pc' := 134) k173_133 rfl rfl ?_
          refine w_istore (pc' := 135) (ls' := [_, _, _, _, _, _]) k173_134 rfl rfl rfl ?_
          refine w_iload (pc' := 136) k173_135 rfl rfl ?_
          refine w_if_lt (pc' := 139) k173_136 rfl (fun c_136 => ?_) (fun c_136 => ?_)
          · refine w_iload (pc' := 147) k173_145 rfl rfl ?_
            refine w_goto k173_147 ?_
            refine w_istore (pc' := 152) (ls' := [_, _, _, _, _, _]) k173_151 rfl rfl rfl ?_
            refine w_iinc (pc' := 155) (ls' := [_, _, _, _, _, _]) k173_152 rfl rfl (by omega) rfl ?_
            refine w_goto k173_155 ?_
            exact ih (m + 1) _ _ _ _ (by omega) (by omega) (by rw [mxF, if_pos q_116, ← hx, if_pos (c := t < 2) (by omega)]; omega) (by rw [lsF, if_pos q_116, ← hy, if_pos (c := t < 2) (by omega), if_pos (by omega)]) (by omega)
          · refine w_iload (pc' := 141) k173_139 rfl rfl ?_
            refine w_iload (pc' := 142) k173_141 rfl rfl ?_
            refine w_ic_ge (pc' := 145) k173_142 rfl (fun c_142 => ?_) (fun c_142 => ?_)
            · refine w_iload (pc' := 151) k173_150 rfl rfl ?_
              refine w_istore (pc' := 152) (ls' := [_, _, _, _, _, _]) k173_151 rfl rfl rfl ?_
              refine w_iinc (pc' := 155) (ls' := [_, _, _, _, _, _]) k173_152 rfl rfl (by omega) rfl ?_
              refine w_goto k173_155 ?_
              exact ih (m + 1) _ _ _ _ (by omega) (by omega) (by rw [mxF, if_pos q_116, ← hx, if_pos (c := t < 2) (by omega)]; omega) (by rw [lsF, if_pos q_116, ← hy, if_pos (c := t < 2) (by omega), if_neg (by omega)]) (by omega)
            · refine w_iload (pc' := 147) k173_145 rfl rfl ?_
              refine w_goto k173_147 ?_
              refine w_istore (pc' := 152) (ls' := [_, _, _, _, _, _]) k173_151 rfl rfl rfl ?_
              refine w_iinc (pc' := 155) (ls' := [_, _, _, _, _, _]) k173_152 rfl rfl (by omega) rfl ?_
              refine w_goto k173_155 ?_
              exact ih (m + 1) _ _ _ _ (by omega) (by omega) (by rw [mxF, if_pos q_116, ← hx, if_pos (c := t < 2) (by omega)]; omega) (by rw [lsF, if_pos q_116, ← hy, if_pos (c := t < 2) (by omega), if_pos (by omega)]) (by omega)
        · refine w_iload (pc' := 130) k173_128 rfl rfl ?_
          refine w_goto k173_130 ?_
          refine w_istore (pc' := 135) (ls' := [_, _, _, _, _, _]) k173_134 rfl rfl rfl ?_
          refine w_iload (pc' := 136) k173_135 rfl rfl ?_
          refine w_if_lt (pc' := 139) k173_136 rfl (fun c_136 => ?_) (fun c_136 => ?_)
          · refine w_iload (pc' := 147) k173_145 rfl rfl ?_
            refine w_goto k173_147 ?_
            refine w_istore (pc' := 152) (ls' := [_, _, _, _, _, _]) k173_151 rfl rfl rfl ?_
            refine w_iinc (pc' := 155) (ls' := [_, _, _, _, _, _]) k173_152 rfl rfl (by omega) rfl ?_
            refine w_goto k173_155 ?_
            exact ih (m + 1) _ _ _ _ (by omega) (by omega) (by rw [mxF, if_pos q_116, ← hx, if_pos (c := t < 2) (by omega)]; omega) (by rw [lsF, if_pos q_116, ← hy, if_pos (c := t < 2) (by omega), if_pos (by omega)]) (by omega)
          · refine w_iload (pc' := 141) k173_139 rfl rfl ?_
            refine w_iload (pc' := 142) k173_141 rfl rfl ?_
            refine w_ic_ge (pc' := 145) k173_142 rfl (fun c_142 => ?_) (fun c_142 => ?_)
            · refine w_iload (pc' := 151) k173_150 rfl rfl ?_
              refine w_istore (pc' := 152) (ls' := [_, _, _, _, _, _]) k173_151 rfl rfl rfl ?_
              refine w_iinc (pc' := 155) (ls' := [_, _, _, _, _, _]) k173_152 rfl rfl (by omega) rfl ?_
              refine w_goto k173_155 ?_
              exact ih (m + 1) _ _ _ _ (by omega) (by omega) (by rw [mxF, if_pos q_116, ← hx, if_pos (c := t < 2) (by omega)]; omega) (by rw [lsF, if_pos q_116, ← hy, if_pos (c := t < 2) (by omega), if_neg (by omega)]) (by omega)
            · refine w_iload (pc' := 147) k173_145 rfl rfl ?_
              refine w_goto k173_147 ?_
              refine w_istore (pc' := 152) (ls' := [_, _, _, _, _, _]) k173_151 rfl rfl rfl ?_
              refine w_iinc (pc' := 155) (ls' := [_, _, _, _, _, _]) k173_152 rfl rfl (by omega) rfl ?_
              refine w_goto k173_155 ?_
              exact ih (m + 1) _ _ _ _ (by omega) (by omega) (by rw [mxF, if_pos q_116, ← hx, if_pos (c := t < 2) (by omega)]; omega) (by rw [lsF, if_pos q_116, ← hy, if_pos (c := t < 2) (by omega), if_pos (by omega)]) (by omega)
      · refine w_if_eq (pc' := 122) k173_119 rfl (fun _ => ?_) (fun c_119 => absurd c_119 (by decide))
        refine w_iinc (pc' := 155) (ls' := [_, _, _, _, _, _]) k173_152 rfl rfl (by omega) rfl ?_
        refine w_goto k173_155 ?_
        exact ih (m + 1) _ _ _ _ (by omega) (by omega) (by rw [mxF, if_neg q_116, ← hx]) (by rw [lsF, if_neg q_116, ← hy]) hy0
theorem m173i (hF : MF sh R I K H E HO S L B A) {t : Int} {a N : Nat} (hN : HO = (N : Int)) (ha : a < N) {Q : VV → Hp → Prop} (C : ∀ (I1 : Nat → Int → Int) (v3 v4 v5 : VV), SIv I I1 H E HO A a N → WP X (d + 6) 173 65 [.inr (some 57), .inl t, .inl (a : Int), v3, v4, v5] [] (sh, R, I1) 0 0 Q) : ∀ (k b : Nat) (I1 : Nat → Int → Int) (j : Int) (v4 v5 : VV), b + k = N → j = (b : Int) → SIv I I1 H E HO A a b → WP X (d + 6) 173 27 [.inr (some 57), .inl t, .inl (a : Int), .inl j, v4, v5] [] (sh, R, I1) 0 0 Q := by
  have hF0 := hF
  obtain ⟨hM, hK, hpo, hha, hms, hab, hB⟩ := hF
  have hr := hK.r
  have hNN : HO.toNat = N := by omega
  intro k
  induction k with
  | zero =>
    rintro b I1 j v4 v5 hk rfl hP
    have hF1 := hP.1.mf hF0
    have e : b = N := by omega
    subst e
    refine w_iload (pc' := 28) k173_27 rfl rfl ?_
    refine w_aload (pc' := 29) k173_28 rfl rfl ?_
    refine w_callE (pc' := 32) (as := [.inr (some 57)]) k173_29 rfl rfl (co_v rfl rfl (hM.1 57 (11, 30) rfl)) (by decide) (m129 hF1) ?_
    refine w_ic_ge (pc' := 35) k173_32 rfl (fun c_32 => ?_) (fun c_32 => absurd c_32 (by omega))
    exact C _ _ _ _ hP
  | succ k ih =>
    rintro b I1 j v4 v5 hk rfl hP
    have hF1 := hP.1.mf hF0
    have hen := edge_r hK (a := (a : Int)) ⟨by omega, by omega⟩
    refine w_iload (pc' := 28) k173_27 rfl rfl ?_
    refine w_aload (pc' := 29) k173_28 rfl rfl ?_
    refine w_callE (pc' := 32) (as := [.inr (some 57)]) k173_29 rfl rfl (co_v rfl rfl (hM.1 57 (11, 30) rfl)) (by decide) (m129 hF1) ?_
    refine w_ic_ge (pc' := 35) k173_32 rfl (fun c_32 => absurd c_32 (by omega)) (fun c_32 => ?_)
    refine w_iload (pc' := 36) k173_35 rfl rfl ?_
    refine w_iload (pc' := 37) k173_36 rfl rfl ?_
    refine w_ic_eq (pc' := 40) k173_37 rfl (fun c_37 => ?_) (fun c_37 => ?_)
    · refine w_iinc (pc' := 62) (ls' := [_, _, _, _, _, _]) k173_59 rfl rfl (by omega) rfl ?_
      refine w_goto k173_62 ?_
      refine ih (b + 1) _ _ _ _ (by omega) (by omega) ⟨hP.1, fun l q1 q2 => ?_⟩
      rw [hsS_s, hsS_s, (hP.2 l q1 q2).1, (hP.2 l q1 q2).2]
      unfold fU fD
      rw [if_pos c_37, Int.add_zero, if_pos c_37, Int.add_zero]
      exact ⟨rfl, rfl⟩
    · refine w_aload (pc' := 41) k173_40 rfl rfl ?_
      refine w_iload (pc' := 42) k173_41 rfl rfl ?_
      refine w_iload (pc' := 43) k173_42 rfl rfl ?_
      refine w_c1 (pc' := 44) k173_43 rfl ?_
      refine w_callV (pc' := 47) (as := [.inr (some 57), .inl _, .inl _, .inl _]) k173_44 rfl rfl (co_v rfl rfl (hM.1 57 (11, 30) rfl)) (by decide) (m163 hF1 (by omega) (by omega) ⟨by omega, Int.mul_pos (by omega) (by omega)⟩) (fun r_44 h_44 hq => ?_)
      obtain ⟨I_1, rfl, rs⟩ := hq
      have hF2 := (hP.1.sc rs.1 rs.2.1).mf hF0
      refine w_aload (pc' := 48) k173_47 rfl rfl ?_
      refine w_getI (pc' := 51) (ki := 21) (v := (if pA H E A ((a : Int) / H) b 0 then (1 : Int) else 0)) k173_48 rfl (hM.1 57 (11, 30) rfl) rfl rs.2.2.2.1 ?_
      refine w_if_eq (pc' := 54) k173_51 rfl (fun c_51 => ?_) (fun c_51 => ?_)
      · have hz1 : ¬ pA H E A ((a : Int) / H) b 0 = true := by intro z; rw [if_pos z] at c_51; exact absurd c_51 (by decide)
        refine w_iinc (pc' := 62) (ls' := [_, _, _, _, _, _]) k173_59 rfl rfl (by omega) rfl ?_
        refine w_goto k173_62 ?_
        refine ih (b + 1) _ _ _ _ (by omega) (by omega) ⟨hP.1.sc rs.1 rs.2.1, fun l q1 q2 => ?_⟩
        rw [hsS_s, hsS_s, rs.1 71 (by decide) (by decide) (by decide), rs.1 72 (by decide) (by decide) (by decide), (hP.2 l q1 q2).1, (hP.2 l q1 q2).2]
        unfold fU fD
        rw [if_neg c_37, if_neg c_37, if_neg hz1, if_neg hz1, Int.add_zero, Int.add_zero]
        exact ⟨rfl, rfl⟩
      · have hz1 : pA H E A ((a : Int) / H) b 0 = true := Decidable.byContradiction (fun z => by rw [if_neg z] at c_51; exact absurd rfl c_51)
        have hU : ∀ l, 0 ≤ l → l < 108 → (0 ≤ I_1 71 l ∧ I_1 71 l ≤ 1000000) ∧ (0 ≤ I_1 72 l ∧ I_1 72 l ≤ 1000000) := by
          intro l q1 q2
          have b1 := hsS_le (f := fU H E A l) (C := 4) (fun x y => fU_le x y) (N := N) (a := a) (b := b) (by omega) (by omega) (by omega) (by omega)
          have b2 := hsS_le (f := fD H E A l) (C := 4) (fun x y => fD_le x y) (N := N) (a := a) (b := b) (by omega) (by omega) (by omega) (by omega)
          rw [rs.1 71 (by decide) (by decide) (by decide), rs.1 72 (by decide) (by decide) (by decide), (hP.2 l q1 q2).1, (hP.2 l q1 q2).2, hNN]
          omega
        refine w_aload (pc' := 55) k173_54 rfl rfl ?_
        refine w_c1 (pc' := 56) k173_55 rfl ?_
        refine w_callV (pc' := 59) (as := [.inr (some 57), .inl _]) k173_56 rfl rfl (co_v rfl rfl (hM.1 57 (11, 30) rfl)) (by decide) (m172 hF2 hen (by omega) (by omega) rs.2.2.1 rs.2.2.2.2.2 hU) (fun r_56 h_56 hq => ?_)
        obtain ⟨I_2, rfl, ad⟩ := hq
        refine w_iinc (pc' := 62) (ls' := [_, _, _, _, _, _]) k173_59 rfl rfl (by omega) rfl ?_
        refine w_goto k173_62 ?_
        refine ih (b + 1) _ _ _ _ (by omega) (by omega) ⟨(hP.1.sc rs.1 rs.2.1).ud ad.1, fun l q1 q2 => ?_⟩
        rw [hsS_s, hsS_s, (ad.2 l q1 q2).1, (ad.2 l q1 q2).2, rs.1 71 (by decide) (by decide) (by decide), rs.1 72 (by decide) (by decide) (by decide), (hP.2 l q1 q2).1, (hP.2 l q1 q2).2]
        unfold fU fD
        rw [if_neg c_37, if_neg c_37, if_pos hz1, if_pos hz1, Int.one_mul, Int.one_mul]
        exact ⟨rfl, rfl⟩
theorem m173o (hF : MF sh R I K H E HO S L B A) {t : Int} (ht : 0 ≤ t ∧ t ≤ 3) {N : Nat} (hN : HO = (N : Int)) : ∀ (k a : Nat) (I1 : Nat → Int → Int) (j : Int) (v3 v4 v5 : VV), a + k = N → j = (a : Int) → SIv I I1 H E HO A a 0 → WP X (d + 6) 173 17 [.inr (some 57), .inl t, .inl j, v3, v4, v5] [] (sh, R, I1) 0 0 (fun r h' => r = .inl (spreS H E HO L A t) ∧ ∃ I', h' = (sh, R, I') ∧ SD I I') := by
  have hF0 := hF
  obtain ⟨hM, hK, hpo, hha, hms, hab, hB⟩ := hF
  have hr := hK.r
  have hNN : HO.toNat = N := by omega
  intro k
  induction k with
  | zero =>
    rintro a I1 j v3 v4 v5 hk rfl hP
    have hF1 := hP.1.mf hF0
    have e : a = N := by omega
    subst e
    refine w_iload (pc' := 18) k173_17 rfl rfl ?_
    refine w_aload (pc' := 19) k173_18 rfl rfl ?_
    refine w_callE (pc' := 22) (as := [.inr (some 57)]) k173_19 rfl rfl (co_v rfl rfl (hM.1 57 (11, 30) rfl)) (by decide) (m129 hF1) ?_
    refine w_ic_ge (pc' := 25) k173_22 rfl (fun c_22 => ?_) (fun c_22 => absurd c_22 (by omega))
    refine w_c2 (pc' := 73) k173_71 rfl ?_
    refine w_istore (pc' := 74) (ls' := [_, _, _, _, _, _]) k173_73 rfl rfl rfl ?_
    refine w_c2 (pc' := 76) k173_74 rfl ?_
    refine w_istore (pc' := 77) (ls' := [_, _, _, _, _, _]) k173_76 rfl rfl rfl ?_
    refine w_c1 (pc' := 78) k173_77 rfl ?_
    refine w_istore (pc' := 80) (ls' := [_, _, _, _, _, _]) k173_78 rfl rfl rfl ?_
    refine m173e hF0 ht hP.1 (fun l q1 q2 => ?_) (N := L.toNat) (by omega) L.toNat 0 _ _ _ _ (by omega) rfl rfl rfl (Or.inl rfl)
    have b1 := hsS_le (f := fU H E A l) (C := 4) (fun x y => fU_le x y) (N := a) (a := a) (b := 0) (by omega) (by omega) (by omega) (by omega)
    have b2 := hsS_le (f := fD H E A l) (C := 4) (fun x y => fD_le x y) (N := a) (a := a) (b := 0) (by omega) (by omega) (by omega) (by omega)
    have p1 := hP.2 l q1 q2
    rw [hNN] at p1
    have s1 := fU_sum (A := A) (l := l) hK
    have s2 := fD_sum (A := A) (l := l) hK
    rw [hNN] at s1 s2
    rw [p1.1, p1.2, ← s1, ← s2]
    refine ⟨⟨?_, ?_⟩, b1.1, b2.1⟩
    · unfold hsS; exact Int.add_zero _
    · unfold hsS; exact Int.add_zero _
  | succ k ih =>
    rintro a I1 j v3 v4 v5 hk rfl hP
    have hF1 := hP.1.mf hF0
    refine w_iload (pc' := 18) k173_17 rfl rfl ?_
    refine w_aload (pc' := 19) k173_18 rfl rfl ?_
    refine w_callE (pc' := 22) (as := [.inr (some 57)]) k173_19 rfl rfl (co_v rfl rfl (hM.1 57 (11, 30) rfl)) (by decide) (m129 hF1) ?_
    refine w_ic_ge (pc' := 25) k173_22 rfl (fun c_22 => absurd c_22 (by omega)) (fun c_22 => ?_)
    refine w_c1 (pc' := 26) k173_25 rfl ?_
    refine w_istore (pc' := 27) (ls' := [_, _, _, _, _, _]) k173_26 rfl rfl rfl ?_
    refine m173i hF0 hN (by omega) (fun I2 v3 v4 v5 hP2 => ?_) N 0 _ _ _ _ (by omega) rfl hP
    refine w_iinc (pc' := 68) (ls' := [_, _, _, _, _, _]) k173_65 rfl rfl (by omega) rfl ?_
    refine w_goto k173_68 ?_
    refine ih (a + 1) _ _ _ _ _ (by omega) (by omega) ⟨hP2.1, fun l q1 q2 => ?_⟩
    rw [hsS_r, hsS_r, hNN]
    have := hP2.2 l q1 q2
    rw [hNN] at this
    exact this
theorem m173 (hF : MF sh R I K H E HO S L B A) {t : Int} : QM X (d + 6) 173 [.inr (some 57), .inl t] sh R I (spreS H E HO L A t) := by
  have hF0 := hF
  obtain ⟨hM, hK, hpo, hha, hms, hab, hB⟩ := hF
  have hr := hK.r
  show WP X (d + 6) 173 0 [.inr (some 57), .inl t, .inr none, .inr none, .inr none, .inr none] [] (sh, R, I) 0 0 _
  refine w_iload (pc' := 1) k173_0 rfl rfl ?_
  refine w_c1 (pc' := 2) k173_1 rfl ?_
  refine w_c1 (pc' := 3) k173_2 rfl ?_
  refine w_callB (pc' := 6) (as := [.inl _, .inl _, .inl _]) k173_3 rfl rfl (co_s (Or.inl rfl) rfl rfl rfl) (by decide) (m117) (fun q_3 => ?_) (fun q_3 => ?_)
  · refine w_if_ne (pc' := 9) k173_6 rfl (fun _ => ?_) (fun c_6 => absurd c_6 (by decide))
    refine w_aload (pc' := 12) k173_11 rfl rfl ?_
    refine w_callV (pc' := 15) (as := [.inr (some 57)]) k173_12 rfl rfl (co_v rfl rfl (hM.1 57 (11, 30) rfl)) (by decide) (m171 hF0) (fun r_12 h_12 hq => ?_)
    obtain ⟨I_1, rfl, c1, c2⟩ := hq
    refine w_c1 (pc' := 16) k173_15 rfl ?_
    refine w_istore (pc' := 17) (ls' := [_, _, _, _, _, _]) k173_16 rfl rfl rfl ?_
    refine WP.mono (m173o hF0 q_3 (N := HO.toNat) (by omega) HO.toNat 0 _ _ _ _ _ (by omega) rfl ⟨⟨fun a _ _ _ q4 q5 => c1 a q4 q5, fun j _ _ => by rw [c1 57 (by decide) (by decide)]⟩, fun l q1 q2 => ?_⟩) ?_
    · rw [(c2 l q1 q2).1, (c2 l q1 q2).2]; exact ⟨rfl, rfl⟩
    · rintro r h' ⟨rfl, I', rfl, hd⟩
      exact ⟨rfl, _, rfl, fun a q => hd.1 a (by omega) (by omega) (by omega) (by omega) (by omega), fun j q => hd.2 j (by omega) (by omega)⟩
  · refine w_if_ne (pc' := 9) k173_6 rfl (fun c_6 => absurd c_6 (by decide)) (fun _ => ?_)
    refine w_c1 (pc' := 10) k173_9 rfl ?_
    exact w_reti k173_10 ⟨by unfold spreS; rw [if_neg (fun z => q_3 z)], _, rfl, fun _ _ => rfl, fun _ _ => rfl⟩
end M76
