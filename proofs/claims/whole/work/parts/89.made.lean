/-! ===== REFERENCE: made ===== -/
theorem rM_lt {k v : Nat} (h : rM k = some v) : k < 30 := by
  rcases (show k < 30 ∨ 30 ≤ k by omega) with q | q
  · exact q
  · unfold rM at h
    rw [List.getD_eq_getElem?_getD, List.getElem?_eq_none (by exact q)] at h
    exact absurd h (by simp)
theorem rM_inj {k k' v : Nat} (h : rM k = some v) (h' : rM k' = some v) : k = k' := by
  have hd : ∀ k, k < 30 → ∀ k', k' < 30 → rM k = rM k' → rM k = none ∨ k = k' := by decide
  rcases hd k (rM_lt h) k' (rM_lt h') (h.trans h'.symm) with e | e
  · rw [h] at e; exact absurd e (by simp)
  · exact e
theorem rM_v {k v : Nat} (h : rM k = some v) : v < 78 := by
  have hd : ∀ k, k < 30 → (match rM k with | none => true | some v => decide (v < 78)) = true := by decide
  have h2 := hd k (rM_lt h)
  rw [h] at h2
  exact of_decide_eq_true h2
theorem ap1 {l : List (Nat × Nat)} {a : Nat} {x y : Nat × Nat} (h : l[a]? = some x) : (l ++ [y])[a]? = some x := by
  have h1 : a < l.length := (List.getElem?_eq_some_iff.mp h).1
  rw [List.getElem?_append_left h1]; exact h
/-- the first j arrays are made -/
def PMK (sh0 : List (Nat × Nat)) (R0 : Nat → Nat → Option Nat) (I0 : Nat → Int → Int) (j : Nat) (sh : List (Nat × Nat)) (R : Nat → Nat → Option Nat) (I : Nat → Int → Int) : Prop := sh = sh0 ++ shM.take (j + 1) ∧ sh0.length = 57 ∧ (∀ a, a < 57 → R a = R0 a ∧ I a = I0 a) ∧ (∀ k v, rM k = some v → v < 58 + j → R 57 k = some v) ∧ (∀ a, 57 ≤ a → a < 58 + j → I a = fun _ => 0)
section M89
variable {X : Nat × (Int → Int)} {d : Nat} {sh0 sh : List (Nat × Nat)} {R0 R : Nat → Nat → Option Nat} {I0 I : Nat → Int → Int}
theorem PMK.len {j : Nat} (hj : j ≤ 20) (h : PMK sh0 R0 I0 j sh R I) : sh.length = 58 + j := by
  rw [h.1, List.length_append, h.2.1, List.length_take, show shM.length = 21 from rfl]
  omega
theorem PMK.o {j : Nat} (h : PMK sh0 R0 I0 j sh R I) : sh[57]? = some (11, 30) := by
  rw [h.1, List.getElem?_append_right (by rw [h.2.1]; omega), h.2.1]
  rfl
/-- the next array's memory, the reference to it set aside -/
theorem PMK.al {j n : Nat} (hj : j < 20) (h : PMK sh0 R0 I0 j sh R I) (hn : shM[j + 1]? = some (0, n)) : sh ++ [(0, n)] = sh0 ++ shM.take (j + 1 + 1) := by
  rw [h.1, List.append_assoc, List.take_add_one (l := shM) (i := j + 1), hn]
  rfl
theorem PMK.nx {j n k : Nat} {R' : Nat → Nat → Option Nat} {I' : Nat → Int → Int} (hj : j < 20) (h : PMK sh0 R0 I0 j sh R I) (hn : shM[j + 1]? = some (0, n)) (hk : rM k = some (58 + j)) (hR : R' = upR (upR R (58 + j) (fun _ => none)) 57 (upK (upR R (58 + j) (fun _ => none) 57) k (some (58 + j)))) (hI : I' = upA I (58 + j) (fun _ => 0)) : PMK sh0 R0 I0 (j + 1) (sh ++ [(0, n)]) R' I' := by
  refine ⟨h.al hj hn, h.2.1, fun a q => ?_, fun k' v q1 q2 => ?_, fun a q1 q2 => ?_⟩
  · rw [hR, hI, upR_n (by omega), upR_n (by omega), upA_n (by omega)]; exact h.2.2.1 a q
  · rw [hR, upR_s, upR_n (by omega)]
    by_cases c : v = 58 + j
    · subst c
      rw [rM_inj q1 hk, upK_s]
    · rw [upK_n (fun z => c (by subst z; rw [hk] at q1; exact (Option.some.inj q1).symm))]
      exact h.2.2.2.1 k' v q1 (by omega)
  · rw [hI]
    by_cases c : a = 58 + j
    · subst c; rw [upA_s]
    · rw [upA_n c]; exact h.2.2.2.2 a q1 (by omega)
theorem w_mkA {y pc pc1 pc2 f k j n : Nat} {z : Int} {ls st : List VV} {bc bs : Nat} {Q : VV → Hp → Prop} (hc1 : cd y pc = some (43, 0, 0, 0, 0, [])) (h1 : pc + 2 = pc1) (hc2 : cd y pc1 = some (37, f, 9, k, 0, [])) (h2 : pc1 + 3 = pc2) (hz : z = (n : Int)) (hj : j < 20) (hn : shM[j + 1]? = some (0, n)) (hk : rM k = some (58 + j)) (hP : PMK sh0 R0 I0 j sh R I) (hb : n ≤ 100000 ∧ 1 ≤ bc ∧ n ≤ bs) (kk : ∀ sh' R' I', PMK sh0 R0 I0 (j + 1) sh' R' I' → WP X (d + 1) y pc2 ls st (sh', R', I') (bc - 1) (bs - n) Q) : WP X (d + 1) y pc ls (.inl z :: .inr (some 57) :: st) (sh, R, I) bc bs Q := by
  refine w_newi (n := n) (q := 58 + j) hc1 h1 hz (hP.len (by omega)) ⟨hb.1, hb.2.1, hb.2.2, by omega⟩ ?_
  refine w_putRF (n := 30) hc2 h2 (ap1 hP.o) (by rw [List.length_append, hP.len (by omega)]; show 58 + j < 58 + j + 1; omega) ?_
  exact kk _ _ _ (hP.nx hj hn hk rfl rfl)
theorem w_iastO {y pc pc' o c n : Nat} {ls st : List VV} {bc bs : Nat} {Q : VV → Hp → Prop} {i v : Int} (hc : cd y pc = some (39, 0, 0, 0, 0, [])) (hp : pc + 1 = pc') (hs : sh[o]? = some (0, n)) (hr : 0 ≤ i ∧ i < n) (kk : ∀ I', I' = upA I o (upF (I o) i v) → WP X (d + 1) y pc' ls st (sh, R, I') bc bs Q) : WP X (d + 1) y pc ls (.inl v :: .inl i :: .inr (some o) :: st) (sh, R, I) bc bs Q := w_iast hc hp hs hr (kk _ rfl)
theorem PMK.lm (h : PMK sh0 R0 I0 20 sh R I) : LM sh R := by
  refine ⟨fun a q h1 => ?_, fun a k v h1 => ?_⟩
  · by_cases c : 57 ≤ a
    · rw [if_pos c] at h1
      rw [h.1, List.getElem?_append_right (by rw [h.2.1]; exact c), h.2.1]
      exact h1
    · rw [if_neg c] at h1; exact absurd h1 (by simp)
  · by_cases c : a = 57
    · subst c
      rw [if_pos rfl] at h1
      exact h.2.2.2.1 k v h1 (rM_v h1)
    · rw [if_neg c] at h1; exact absurd h1 (by simp)
theorem k114 (hM : LM sh R) {bc bs : Nat} {Q : VV → Hp → Prop} (C : ∀ v1 : VV, WP X (d + 2) 114 286 [.inr (some 57), v1] [] (sh, R, upA I 62 (cqF (I 62) (I 76) 0 0 16)) bc bs Q) : ∀ (k m : Nat) (i : Int) (I1 : Nat → Int → Int), m + k = 16 → i = (m : Int) → I1 = upA I 62 (cqF (I 62) (I 76) 0 0 m) → WP X (d + 2) 114 262 [.inr (some 57), .inl i] [] (sh, R, I1) bc bs Q := by
  intro k
  induction k with
  | zero =>
    rintro m i I1 hk rfl rfl
    have e : m = 16 := by omega
    subst e
    refine w_iload (pc' := 263) k114_262 rfl rfl ?_
    refine w_c2 (pc' := 265) k114_263 rfl ?_
    refine w_ic_ge (pc' := 268) k114_265 rfl (fun c_265 => ?_) (fun c_265 => absurd c_265 (by omega))
    exact C _
  | succ k ih =>
    rintro m i I1 hk rfl e
    refine w_iload (pc' := 263) k114_262 rfl rfl ?_
    refine w_c2 (pc' := 265) k114_263 rfl ?_
    refine w_ic_ge (pc' := 268) k114_265 rfl (fun c_265 => absurd c_265 (by omega)) (fun c_265 => ?_)
    refine w_aload (pc' := 269) k114_268 rfl rfl ?_
    refine w_getR (pc' := 272) (v := 62) k114_269 rfl (hM.1 57 (11, 30) rfl) (hM.2 57 8 62 rfl) ?_
    refine w_iload (pc' := 273) k114_272 rfl rfl ?_
    refine w_aload (pc' := 274) k114_273 rfl rfl ?_
    refine w_getR (pc' := 277) (v := 76) k114_274 rfl (hM.1 57 (11, 30) rfl) (hM.2 57 27 76 rfl) ?_
    refine w_iload (pc' := 278) k114_277 rfl rfl ?_
    refine w_iald (pc' := 279) (v := I 76 (0 + (m : Int))) k114_278 rfl (hM.1 76 (0, 16) rfl) (by omega) (by rw [e, upA_n (by decide), Int.zero_add]) ?_
    refine w_iast (pc' := 280) k114_279 rfl (hM.1 62 (0, 64) rfl) (by omega) ?_
    refine w_iinc (pc' := 283) (ls' := [_, _]) k114_280 rfl rfl (by omega) rfl ?_
    refine w_goto k114_283 ?_
    exact ih (m + 1) _ _ (by omega) (by omega) (by rw [e, upA_s, upA_uu, cqF_s (by omega) rfl])
theorem cut6 : sT6.2.2.2.2.2 = upF (fun _ => 0) 5 1 := by
  show upF sT5.2.2.2.2.2 (numS TXT 67 (64 + 1) 2).1 1 = _
  rw [show (numS TXT 67 (64 + 1) 2).1 = 5 by decide]
  rfl
theorem m114 (h57 : sh0.length = 57) (hI : I 57 = fun _ => 0) : WPM X (d + 2) 114 [.inr (some 57)] (sh0 ++ [(11, 30)], R, I) 20 20714 (fun _ h' => ∃ sh' R' I', h' = (sh', R', I') ∧ sh'.length = 78 ∧ (∀ (a : Nat) (x : Nat × Nat), sh0[a]? = some x → sh'[a]? = some x) ∧ (∀ a, a < 57 → R' a = R a ∧ I' a = I a) ∧ MG sh' R' I' 4 2 8 16 20 32 1 (layA sT6, layA sT6, layA sT6, 0) TXT 0) := by
  have hP0 : PMK sh0 R I 0 (sh0 ++ [(11, 30)]) R I := ⟨rfl, h57, fun a q => ⟨rfl, rfl⟩, fun k v q1 q2 => ?_, fun a q1 q2 => ?_⟩
  rotate_left
  · exfalso
    have hd : ∀ k, k < 30 → (match rM k with | none => true | some v => decide (58 ≤ v)) = true := by decide
    have h2 := hd k (rM_lt q1)
    rw [q1] at h2
    have := of_decide_eq_true h2
    omega
  · obtain rfl : a = 57 := by omega
    exact hI
  show WP X (d + 2) 114 0 [.inr (some 57), .inr none] [] (sh0 ++ [(11, 30)], R, I) 20 20714 _
  refine w_aload (pc' := 1) k114_0 rfl rfl ?_
  refine w_oi (pc' := 4) k114_1 rfl rfl ?_
  refine w_aload (pc' := 5) k114_4 rfl rfl ?_
  refine w_c3 (pc' := 8) k114_5 rfl ?_
  refine w_mkA (pc1 := 10) (pc2 := 13) (k := 1) (j := 0) (n := 200) k114_8 rfl k114_10 rfl rfl (by decide) rfl rfl hP0 ⟨by decide, by decide, by decide⟩ (fun sh_1 R_1 I_1 hP1 => ?_)
  refine w_aload (pc' := 14) k114_13 rfl rfl ?_
  refine w_c2 (pc' := 16) k114_14 rfl ?_
  refine w_mkA (pc1 := 18) (pc2 := 21) (k := 4) (j := 1) (n := 108) k114_16 rfl k114_18 rfl rfl (by decide) rfl rfl hP1 ⟨by decide, by decide, by decide⟩ (fun sh_2 R_2 I_2 hP2 => ?_)
  refine w_aload (pc' := 22) k114_21 rfl rfl ?_
  refine w_c3 (pc' := 25) k114_22 rfl ?_
  refine w_mkA (pc1 := 27) (pc2 := 30) (k := 5) (j := 2) (n := 4860) k114_25 rfl k114_27 rfl rfl (by decide) rfl rfl hP2 ⟨by decide, by decide, by decide⟩ (fun sh_3 R_3 I_3 hP3 => ?_)
  refine w_aload (pc' := 31) k114_30 rfl rfl ?_
  refine w_c3 (pc' := 34) k114_31 rfl ?_
  refine w_mkA (pc1 := 36) (pc2 := 39) (k := 6) (j := 3) (n := 4860) k114_34 rfl k114_36 rfl rfl (by decide) rfl rfl hP3 ⟨by decide, by decide, by decide⟩ (fun sh_4 R_4 I_4 hP4 => ?_)
  refine w_aload (pc' := 40) k114_39 rfl rfl ?_
  refine w_c2 (pc' := 42) k114_40 rfl ?_
  refine w_mkA (pc1 := 44) (pc2 := 47) (k := 8) (j := 4) (n := 64) k114_42 rfl k114_44 rfl rfl (by decide) rfl rfl hP4 ⟨by decide, by decide, by decide⟩ (fun sh_5 R_5 I_5 hP5 => ?_)
  refine w_aload (pc' := 48) k114_47 rfl rfl ?_
  refine w_c3 (pc' := 51) k114_48 rfl ?_
  refine w_mkA (pc1 := 53) (pc2 := 56) (k := 10) (j := 5) (n := 216) k114_51 rfl k114_53 rfl rfl (by decide) rfl rfl hP5 ⟨by decide, by decide, by decide⟩ (fun sh_6 R_6 I_6 hP6 => ?_)
  refine w_aload (pc' := 57) k114_56 rfl rfl ?_
  refine w_c3 (pc' := 60) k114_57 rfl ?_
  refine w_mkA (pc1 := 62) (pc2 := 65) (k := 11) (j := 6) (n := 9720) k114_60 rfl k114_62 rfl rfl (by decide) rfl rfl hP6 ⟨by decide, by decide, by decide⟩ (fun sh_7 R_7 I_7 hP7 => ?_)
  refine w_aload (pc' := 66) k114_65 rfl rfl ?_
  refine w_c3 (pc' := 69) k114_66 rfl ?_
  refine w_mkA (pc1 := 71) (pc2 := 74) (k := 12) (j := 7) (n := 128) k114_69 rfl k114_71 rfl rfl (by decide) rfl rfl hP7 ⟨by decide, by decide, by decide⟩ (fun sh_8 R_8 I_8 hP8 => ?_)
  refine w_aload (pc' := 75) k114_74 rfl rfl ?_
  refine w_c1 (pc' := 76) k114_75 rfl ?_
  refine w_mkA (pc1 := 78) (pc2 := 81) (k := 13) (j := 8) (n := 2) k114_76 rfl k114_78 rfl rfl (by decide) rfl rfl hP8 ⟨by decide, by decide, by decide⟩ (fun sh_9 R_9 I_9 hP9 => ?_)
  refine w_aload (pc' := 82) k114_81 rfl rfl ?_
  refine w_c2 (pc' := 84) k114_82 rfl ?_
  refine w_mkA (pc1 := 86) (pc2 := 89) (k := 16) (j := 9) (n := 64) k114_84 rfl k114_86 rfl rfl (by decide) rfl rfl hP9 ⟨by decide, by decide, by decide⟩ (fun sh_10 R_10 I_10 hP10 => ?_)
  refine w_aload (pc' := 90) k114_89 rfl rfl ?_
  refine w_c2 (pc' := 92) k114_90 rfl ?_
  refine w_mkA (pc1 := 94) (pc2 := 97) (k := 17) (j := 10) (n := 108) k114_92 rfl k114_94 rfl rfl (by decide) rfl rfl hP10 ⟨by decide, by decide, by decide⟩ (fun sh_11 R_11 I_11 hP11 => ?_)
  refine w_aload (pc' := 98) k114_97 rfl rfl ?_
  refine w_c2 (pc' := 100) k114_98 rfl ?_
  refine w_mkA (pc1 := 102) (pc2 := 105) (k := 19) (j := 11) (n := 6) k114_100 rfl k114_102 rfl rfl (by decide) rfl rfl hP11 ⟨by decide, by decide, by decide⟩ (fun sh_12 R_12 I_12 hP12 => ?_)
  refine w_aload (pc' := 106) k114_105 rfl rfl ?_
  refine w_c2 (pc' := 108) k114_106 rfl ?_
  refine w_mkA (pc1 := 110) (pc2 := 113) (k := 20) (j := 12) (n := 6) k114_108 rfl k114_110 rfl rfl (by decide) rfl rfl hP12 ⟨by decide, by decide, by decide⟩ (fun sh_13 R_13 I_13 hP13 => ?_)
  refine w_aload (pc' := 114) k114_113 rfl rfl ?_
  refine w_c2 (pc' := 116) k114_114 rfl ?_
  refine w_mkA (pc1 := 118) (pc2 := 121) (k := 22) (j := 13) (n := 108) k114_116 rfl k114_118 rfl rfl (by decide) rfl rfl hP13 ⟨by decide, by decide, by decide⟩ (fun sh_14 R_14 I_14 hP14 => ?_)
  refine w_aload (pc' := 122) k114_121 rfl rfl ?_
  refine w_c2 (pc' := 124) k114_122 rfl ?_
  refine w_mkA (pc1 := 126) (pc2 := 129) (k := 23) (j := 14) (n := 108) k114_124 rfl k114_126 rfl rfl (by decide) rfl rfl hP14 ⟨by decide, by decide, by decide⟩ (fun sh_15 R_15 I_15 hP15 => ?_)
  refine w_aload (pc' := 130) k114_129 rfl rfl ?_
  refine w_c2 (pc' := 132) k114_130 rfl ?_
  refine w_mkA (pc1 := 134) (pc2 := 137) (k := 24) (j := 15) (n := 54) k114_132 rfl k114_134 rfl rfl (by decide) rfl rfl hP15 ⟨by decide, by decide, by decide⟩ (fun sh_16 R_16 I_16 hP16 => ?_)
  refine w_aload (pc' := 138) k114_137 rfl rfl ?_
  refine w_c2 (pc' := 140) k114_138 rfl ?_
  refine w_mkA (pc1 := 142) (pc2 := 145) (k := 25) (j := 16) (n := 54) k114_140 rfl k114_142 rfl rfl (by decide) rfl rfl hP16 ⟨by decide, by decide, by decide⟩ (fun sh_17 R_17 I_17 hP17 => ?_)
  refine w_aload (pc' := 146) k114_145 rfl rfl ?_
  refine w_c2 (pc' := 148) k114_146 rfl ?_
  refine w_mkA (pc1 := 150) (pc2 := 153) (k := 26) (j := 17) (n := 16) k114_148 rfl k114_150 rfl rfl (by decide) rfl rfl hP17 ⟨by decide, by decide, by decide⟩ (fun sh_18 R_18 I_18 hP18 => ?_)
  refine w_aload (pc' := 154) k114_153 rfl rfl ?_
  refine w_c2 (pc' := 156) k114_154 rfl ?_
  have hl18 := hP18.len (by decide)
  have ho18 := hP18.o
  have ha18 := hP18.al (n := 16) (by decide) rfl
  refine w_newi (n := 16) (q := 76) k114_156 rfl rfl hl18 ⟨by decide, by decide, by decide, by decide⟩ ?_
  generalize g_0 : upA I_18 76 (fun _ => 0) = J_0
  have s76 : (sh_18 ++ [(0, 16)])[76]? = some (0, 16) := by rw [ha18, List.getElem?_append_right (by rw [h57]; decide), h57]; rfl
  refine w_dup (pc' := 159) k114_158 rfl ?_
  refine w_c1 (pc' := 160) k114_159 rfl ?_
  refine w_c1 (pc' := 161) k114_160 rfl ?_
  refine w_iastO (c := 0) (pc' := 162) k114_161 rfl s76 (by decide) (fun J_1 g_1 => ?_)
  refine w_dup (pc' := 163) k114_162 rfl ?_
  refine w_c1 (pc' := 164) k114_163 rfl ?_
  refine w_c2 (pc' := 166) k114_164 rfl ?_
  refine w_iastO (c := 0) (pc' := 167) k114_166 rfl s76 (by decide) (fun J_2 g_2 => ?_)
  refine w_dup (pc' := 168) k114_167 rfl ?_
  refine w_c1 (pc' := 169) k114_168 rfl ?_
  refine w_c2 (pc' := 171) k114_169 rfl ?_
  refine w_iastO (c := 0) (pc' := 172) k114_171 rfl s76 (by decide) (fun J_3 g_3 => ?_)
  refine w_dup (pc' := 173) k114_172 rfl ?_
  refine w_c1 (pc' := 174) k114_173 rfl ?_
  refine w_c1 (pc' := 175) k114_174 rfl ?_
  refine w_iastO (c := 0) (pc' := 176) k114_175 rfl s76 (by decide) (fun J_4 g_4 => ?_)
  refine w_dup (pc' := 177) k114_176 rfl ?_
  refine w_c1 (pc' := 178) k114_177 rfl ?_
  refine w_c1 (pc' := 179) k114_178 rfl ?_
  refine w_iastO (c := 0) (pc' := 180) k114_179 rfl s76 (by decide) (fun J_5 g_5 => ?_)
  refine w_dup (pc' := 181) k114_180 rfl ?_
  refine w_c1 (pc' := 182) k114_181 rfl ?_
  refine w_c2 (pc' := 184) k114_182 rfl ?_
  refine w_iastO (c := 0) (pc' := 185) k114_184 rfl s76 (by decide) (fun J_6 g_6 => ?_)
  refine w_dup (pc' := 186) k114_185 rfl ?_
  refine w_c2 (pc' := 188) k114_186 rfl ?_
  refine w_c1 (pc' := 189) k114_188 rfl ?_
  refine w_iastO (c := 0) (pc' := 190) k114_189 rfl s76 (by decide) (fun J_7 g_7 => ?_)
  refine w_dup (pc' := 191) k114_190 rfl ?_
  refine w_c2 (pc' := 193) k114_191 rfl ?_
  refine w_c1 (pc' := 194) k114_193 rfl ?_
  refine w_iastO (c := 0) (pc' := 195) k114_194 rfl s76 (by decide) (fun J_8 g_8 => ?_)
  refine w_dup (pc' := 196) k114_195 rfl ?_
  refine w_c2 (pc' := 198) k114_196 rfl ?_
  refine w_c1 (pc' := 199) k114_198 rfl ?_
  refine w_iastO (c := 0) (pc' := 200) k114_199 rfl s76 (by decide) (fun J_9 g_9 => ?_)
  refine w_dup (pc' := 201) k114_200 rfl ?_
  refine w_c2 (pc' := 203) k114_201 rfl ?_
  refine w_c2 (pc' := 205) k114_203 rfl ?_
  refine w_iastO (c := 0) (pc' := 206) k114_205 rfl s76 (by decide) (fun J_10 g_10 => ?_)
  refine w_dup (pc' := 207) k114_206 rfl ?_
  refine w_c2 (pc' := 209) k114_207 rfl ?_
  refine w_c2 (pc' := 211) k114_209 rfl ?_
  refine w_iastO (c := 0) (pc' := 212) k114_211 rfl s76 (by decide) (fun J_11 g_11 => ?_)
  refine w_dup (pc' := 213) k114_212 rfl ?_
  refine w_c2 (pc' := 215) k114_213 rfl ?_
  refine w_c1 (pc' := 216) k114_215 rfl ?_
  refine w_iastO (c := 0) (pc' := 217) k114_216 rfl s76 (by decide) (fun J_12 g_12 => ?_)
  refine w_dup (pc' := 218) k114_217 rfl ?_
  refine w_c2 (pc' := 220) k114_218 rfl ?_
  refine w_c2 (pc' := 222) k114_220 rfl ?_
  refine w_iastO (c := 0) (pc' := 223) k114_222 rfl s76 (by decide) (fun J_13 g_13 => ?_)
  refine w_dup (pc' := 224) k114_223 rfl ?_
  refine w_c2 (pc' := 226) k114_224 rfl ?_
  refine w_c1 (pc' := 227) k114_226 rfl ?_
  refine w_iastO (c := 0) (pc' := 228) k114_227 rfl s76 (by decide) (fun J_14 g_14 => ?_)
  refine w_dup (pc' := 229) k114_228 rfl ?_
  refine w_c2 (pc' := 231) k114_229 rfl ?_
  refine w_c2 (pc' := 233) k114_231 rfl ?_
  refine w_iastO (c := 0) (pc' := 234) k114_233 rfl s76 (by decide) (fun J_15 g_15 => ?_)
  refine w_dup (pc' := 235) k114_234 rfl ?_
  refine w_c2 (pc' := 237) k114_235 rfl ?_
  refine w_c1 (pc' := 238) k114_237 rfl ?_
  refine w_iastO (c := 0) (pc' := 239) k114_238 rfl s76 (by decide) (fun J_16 g_16 => ?_)
  refine w_putRF (pc' := 242) (n := 30) k114_239 rfl (ap1 ho18) (by rw [List.length_append, hl18]; decide) ?_
  have hJo : ∀ a, a ≠ 76 → J_16 a = I_18 a := fun a q => by rw [g_16, upA_n q, g_15, upA_n q, g_14, upA_n q, g_13, upA_n q, g_12, upA_n q, g_11, upA_n q, g_10, upA_n q, g_9, upA_n q, g_8, upA_n q, g_7, upA_n q, g_6, upA_n q, g_5, upA_n q, g_4, upA_n q, g_3, upA_n q, g_2, upA_n q, g_1, upA_n q, ← g_0, upA_n q]
  generalize hR19 : upR (upR R_18 76 (fun _ => none)) 57 _ = R_19
  have hPx : PMK sh0 R I 19 (sh_18 ++ [(0, 16)]) R_19 (upA I_18 76 (fun _ => 0)) := hP18.nx (k := 27) (by decide) rfl rfl hR19.symm rfl
  have f_0 : J_16 76 0 = 0 := by rw [g_16, upA_s, upF_n (by decide), g_15, upA_s, upF_n (by decide), g_14, upA_s, upF_n (by decide), g_13, upA_s, upF_n (by decide), g_12, upA_s, upF_n (by decide), g_11, upA_s, upF_n (by decide), g_10, upA_s, upF_n (by decide), g_9, upA_s, upF_n (by decide), g_8, upA_s, upF_n (by decide), g_7, upA_s, upF_n (by decide), g_6, upA_s, upF_n (by decide), g_5, upA_s, upF_n (by decide), g_4, upA_s, upF_n (by decide), g_3, upA_s, upF_n (by decide), g_2, upA_s, upF_n (by decide), g_1, upA_s, upF_s]
  have f_1 : J_16 76 1 = 11 := by rw [g_16, upA_s, upF_n (by decide), g_15, upA_s, upF_n (by decide), g_14, upA_s, upF_n (by decide), g_13, upA_s, upF_n (by decide), g_12, upA_s, upF_n (by decide), g_11, upA_s, upF_n (by decide), g_10, upA_s, upF_n (by decide), g_9, upA_s, upF_n (by decide), g_8, upA_s, upF_n (by decide), g_7, upA_s, upF_n (by decide), g_6, upA_s, upF_n (by decide), g_5, upA_s, upF_n (by decide), g_4, upA_s, upF_n (by decide), g_3, upA_s, upF_n (by decide), g_2, upA_s, upF_s]
  have f_2 : J_16 76 2 = 9 := by rw [g_16, upA_s, upF_n (by decide), g_15, upA_s, upF_n (by decide), g_14, upA_s, upF_n (by decide), g_13, upA_s, upF_n (by decide), g_12, upA_s, upF_n (by decide), g_11, upA_s, upF_n (by decide), g_10, upA_s, upF_n (by decide), g_9, upA_s, upF_n (by decide), g_8, upA_s, upF_n (by decide), g_7, upA_s, upF_n (by decide), g_6, upA_s, upF_n (by decide), g_5, upA_s, upF_n (by decide), g_4, upA_s, upF_n (by decide), g_3, upA_s, upF_s]
  have f_3 : J_16 76 3 = 0 := by rw [g_16, upA_s, upF_n (by decide), g_15, upA_s, upF_n (by decide), g_14, upA_s, upF_n (by decide), g_13, upA_s, upF_n (by decide), g_12, upA_s, upF_n (by decide), g_11, upA_s, upF_n (by decide), g_10, upA_s, upF_n (by decide), g_9, upA_s, upF_n (by decide), g_8, upA_s, upF_n (by decide), g_7, upA_s, upF_n (by decide), g_6, upA_s, upF_n (by decide), g_5, upA_s, upF_n (by decide), g_4, upA_s, upF_s]
  have f_4 : J_16 76 4 = 2 := by rw [g_16, upA_s, upF_n (by decide), g_15, upA_s, upF_n (by decide), g_14, upA_s, upF_n (by decide), g_13, upA_s, upF_n (by decide), g_12, upA_s, upF_n (by decide), g_11, upA_s, upF_n (by decide), g_10, upA_s, upF_n (by decide), g_9, upA_s, upF_n (by decide), g_8, upA_s, upF_n (by decide), g_7, upA_s, upF_n (by decide), g_6, upA_s, upF_n (by decide), g_5, upA_s, upF_s]
  have f_5 : J_16 76 5 = 10 := by rw [g_16, upA_s, upF_n (by decide), g_15, upA_s, upF_n (by decide), g_14, upA_s, upF_n (by decide), g_13, upA_s, upF_n (by decide), g_12, upA_s, upF_n (by decide), g_11, upA_s, upF_n (by decide), g_10, upA_s, upF_n (by decide), g_9, upA_s, upF_n (by decide), g_8, upA_s, upF_n (by decide), g_7, upA_s, upF_n (by decide), g_6, upA_s, upF_s]
  have f_6 : J_16 76 6 = 5 := by rw [g_16, upA_s, upF_n (by decide), g_15, upA_s, upF_n (by decide), g_14, upA_s, upF_n (by decide), g_13, upA_s, upF_n (by decide), g_12, upA_s, upF_n (by decide), g_11, upA_s, upF_n (by decide), g_10, upA_s, upF_n (by decide), g_9, upA_s, upF_n (by decide), g_8, upA_s, upF_n (by decide), g_7, upA_s, upF_s]
  have f_7 : J_16 76 7 = 0 := by rw [g_16, upA_s, upF_n (by decide), g_15, upA_s, upF_n (by decide), g_14, upA_s, upF_n (by decide), g_13, upA_s, upF_n (by decide), g_12, upA_s, upF_n (by decide), g_11, upA_s, upF_n (by decide), g_10, upA_s, upF_n (by decide), g_9, upA_s, upF_n (by decide), g_8, upA_s, upF_s]
  have f_8 : J_16 76 8 = 5 := by rw [g_16, upA_s, upF_n (by decide), g_15, upA_s, upF_n (by decide), g_14, upA_s, upF_n (by decide), g_13, upA_s, upF_n (by decide), g_12, upA_s, upF_n (by decide), g_11, upA_s, upF_n (by decide), g_10, upA_s, upF_n (by decide), g_9, upA_s, upF_s]
  have f_9 : J_16 76 9 = 6 := by rw [g_16, upA_s, upF_n (by decide), g_15, upA_s, upF_n (by decide), g_14, upA_s, upF_n (by decide), g_13, upA_s, upF_n (by decide), g_12, upA_s, upF_n (by decide), g_11, upA_s, upF_n (by decide), g_10, upA_s, upF_s]
  have f_10 : J_16 76 10 = 7 := by rw [g_16, upA_s, upF_n (by decide), g_15, upA_s, upF_n (by decide), g_14, upA_s, upF_n (by decide), g_13, upA_s, upF_n (by decide), g_12, upA_s, upF_n (by decide), g_11, upA_s, upF_s]
  have f_11 : J_16 76 11 = 0 := by rw [g_16, upA_s, upF_n (by decide), g_15, upA_s, upF_n (by decide), g_14, upA_s, upF_n (by decide), g_13, upA_s, upF_n (by decide), g_12, upA_s, upF_s]
  have f_12 : J_16 76 12 = 15 := by rw [g_16, upA_s, upF_n (by decide), g_15, upA_s, upF_n (by decide), g_14, upA_s, upF_n (by decide), g_13, upA_s, upF_s]
  have f_13 : J_16 76 13 = 1 := by rw [g_16, upA_s, upF_n (by decide), g_15, upA_s, upF_n (by decide), g_14, upA_s, upF_s]
  have f_14 : J_16 76 14 = 30 := by rw [g_16, upA_s, upF_n (by decide), g_15, upA_s, upF_s]
  have f_15 : J_16 76 15 = 0 := by rw [g_16, upA_s, upF_s]
  have hJz : ∀ a, a ≠ 76 → upA I_18 76 (fun _ => 0) a = J_16 a := fun a q => by rw [hJo a q, upA_n q]
  refine w_aload (pc' := 243) k114_242 rfl rfl ?_
  refine w_c2 (pc' := 245) k114_243 rfl ?_
  refine w_newi (n := 16) (q := 77) k114_245 rfl rfl (hPx.len (by decide)) ⟨by decide, by decide, by decide, by decide⟩ ?_
  refine w_putRF (pc' := 250) (n := 30) k114_247 rfl (ap1 hPx.o) (by rw [List.length_append, hPx.len (by decide)]; decide) ?_
  have hP20 := hPx.nx (n := 16) (k := 29) (j := 19) (by decide) rfl rfl rfl rfl
  generalize hR20 : upR (upR R_19 (58 + 19) (fun _ => none)) 57 _ = R_20 at hP20
  have hM := hP20.lm
  have hlen := hP20.len (by decide)
  have hap := hP20.1
  generalize sh_18 ++ [(0, 16)] ++ [(0, 16)] = sh_20 at hP20 hM hlen hap ⊢
  have hJ20 : ∀ a, a ≠ 76 → a ≠ 77 → upA J_16 77 (fun _ => 0) a = I_18 a := fun a q1 q2 => by rw [upA_n q2, hJo a q1]
  have h76 : upA J_16 77 (fun _ => 0) 76 = J_16 76 := upA_n (by decide)
  have hold : ∀ a, a < 57 → R_20 a = R a ∧ upA J_16 77 (fun _ => 0) a = I a := fun a q => ⟨(hP20.2.2.1 a q).1, by rw [hJ20 a (by omega) (by omega)]; exact (hP18.2.2.1 a q).2⟩
  have hz57 : upA J_16 77 (fun _ => 0) 57 = fun _ => 0 := by rw [hJ20 57 (by decide) (by decide)]; exact hP18.2.2.2.2 57 (by decide) (by decide)
  generalize upA J_16 77 (fun _ => 0) = I_20 at hJ20 h76 hold hz57 ⊢
  refine w_aload (pc' := 251) k114_250 rfl rfl ?_
  refine w_c1 (pc' := 252) k114_251 rfl ?_
  refine w_callV (pc' := 255) (as := [.inr (some 57), .inl _]) k114_252 rfl rfl (co_v rfl rfl (hM.1 57 (11, 30) rfl)) (by decide) (m115 hM (by decide)) (fun r_252 h_252 hq => ?_)
  obtain ⟨I_21, rfl, b1, b2, b3, b4, b5, b6, b7⟩ := hq
  refine w_aload (pc' := 256) k114_255 rfl rfl ?_
  refine w_c1 (pc' := 257) k114_256 rfl ?_
  refine w_putI (pc' := 260) (ki := 7) k114_257 rfl (hM.1 57 (11, 30) rfl) rfl ?_
  refine w_c1 (pc' := 261) k114_260 rfl ?_
  refine w_istore (pc' := 262) (ls' := [_, _]) k114_261 rfl rfl rfl ?_
  refine k114 hM (fun v1 => ?_) 16 0 _ _ (by omega) rfl (by rw [cqF_0, upA_id])
  refine w_aload (pc' := 287) k114_286 rfl rfl ?_
  refine w_c1 (pc' := 288) k114_287 rfl ?_
  refine w_callV (pc' := 291) (as := [.inr (some 57), .inl _]) k114_288 rfl rfl (co_v rfl rfl (hM.1 57 (11, 30) rfl)) (by decide) (m116 hM (l := 5) (by decide)) (fun r_288 h_288 hq => ?_)
  obtain ⟨I_22, rfl, t1, t2, t3⟩ := hq
  have hK4 : KP 4 2 8 16 20 32 := Or.inr (Or.inl ⟨rfl, rfl, rfl, rfl, rfl, rfl⟩)
  have e57 : I_22 57 = upF (I_21 57) 7 4 := by rw [t1 57 (by decide) (by decide), upA_n (by decide), upA_s]
  have e62 : I_22 62 = cqF (upA I_21 57 (upF (I_21 57) 7 4) 62) (upA I_21 57 (upF (I_21 57) 7 4) 76) 0 0 16 := by rw [t1 62 (by decide) (by decide), upA_s]
  have r76 : ∀ i : Int, 0 ≤ i → i < 16 → I_22 62 i = J_16 76 i := fun i q1 q2 => by rw [e62, ← Int.zero_add i, cqF_in ⟨q1, q2⟩, Int.zero_add, upA_n (by decide), b1 76 (by decide) (by decide) (by decide), h76]
  have eo : ∀ a, a ≠ 57 → a ≠ 59 → a ≠ 60 → a ≠ 62 → I_22 a = I_20 a := fun a q1 q2 q3 q4 => by rw [t1 a q2 q3, upA_n q4, upA_n q1, b1 a q1 q2 q3]
  refine w_retv k114_291 ⟨_, _, _, rfl, by omega, fun a x h => ?_, fun a q => ⟨(hold a q).1, by rw [eo a (by omega) (by omega) (by omega) (by omega)]; exact (hold a q).2⟩, ⟨hM, hK4, by rw [e57, upF_n (by decide)]; exact b3, by rw [e57, upF_n (by decide)]; exact b4, ⟨by rw [e57, upF_s]; rfl, fun l q1 q2 => ?_, fun n l q1 q2 q3 q4 => ?_, fun f q1 q2 => ?_⟩, lay_AB hK4 (by decide) rdT, by decide⟩, by rw [e57, upF_n (by decide)]; exact b5, ⟨(show (0 : Int) ≤ 0 ∧ (0 : Int) ≤ 2 by decide), fun q => absurd (show (1 : Int) ≤ 0 from q) (by decide), fun q => absurd (show (0 : Int) = 2 from q) (by decide)⟩, by rw [e57, upF_n (by decide), b2 0 (by decide) (by decide) (by decide) (by decide), hz57], by decide, fun j q1 q2 => absurd q1 (by omega)⟩
  · rw [hap, List.getElem?_append_left (List.getElem?_eq_some_iff.mp h).1]; exact h
  · show _ = sT6.2.2.2.2.2 l
    rw [t2, cut6, upA_n (by decide), upA_n (by decide)]
    by_cases c : l = 5
    · subst c; rw [upF_s, upF_s]
    · rw [upF_n c, upF_n c]; exact b6 l q1 (by omega)
  · show _ = sT6.2.2.2.2.2 l
    rw [t3 _ (by omega) (by omega), cut6, upA_n (by decide), upA_n (by decide), show (108 * n + l) % 108 = l by omega]
    by_cases c : l = 5
    · rw [if_pos c, c, upF_s]
    · rw [if_neg c, upF_n c]; exact b7 _ (by omega) (by omega)
  · have q3 : f < 4 := q2
    rw [r76 _ (by omega) (by omega), r76 _ (by omega) (by omega), r76 _ (by omega) (by omega), r76 _ (by omega) (by omega)]
    show _ = sT6.2.2.1 f ∧ _ = sT6.2.2.2.1 f ∧ _ = sT6.2.2.2.2.1 f ∧ _ = (0 : Int)
    rcases (show f = 0 ∨ f = 1 ∨ f = 2 ∨ f = 3 by omega) with rfl | rfl | rfl | rfl
    · exact ⟨f_0.trans (by decide), f_1.trans (by decide), f_2.trans (by decide), f_3⟩
    · exact ⟨f_4.trans (by decide), f_5.trans (by decide), f_6.trans (by decide), f_7⟩
    · exact ⟨f_8.trans (by decide), f_9.trans (by decide), f_10.trans (by decide), f_11⟩
    · exact ⟨f_12.trans (by decide), f_13.trans (by decide), f_14.trans (by decide), f_15⟩
end M89
