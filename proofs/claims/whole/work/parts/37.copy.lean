/-! ===== CLASS: State, copies; ticks ===== -/
section C37
variable {X : Nat × (Int → Int)} {d : Nat} {sh : List (Nat × Nat)} {R : Nat → Nat → Option Nat} {I : Nat → Int → Int} {s g_s M_s : Nat} {K H E HO S L B : Int} {A : AS}
variable {p g_p M_p : Nat}
theorem isS.apart {s p : Nat} (h : isS s) (h2 : isS p) (hn : s ≠ p) : (s + 7 ≤ p ∨ p + 7 ≤ s) ∧ 25 ≤ s ∧ s ≤ 46 ∧ 25 ≤ p ∧ p ≤ 46 := by
  rcases h with rfl | rfl | rfl | rfl <;> rcases h2 with rfl | rfl | rfl | rfl <;> omega
theorem cp0 {f g : Int → Int} {n j : Int} (h1 : 0 ≤ j) (h2 : j < n) : cpF f g 0 0 n j = f j := by
  unfold cpF
  rw [if_pos (by omega)]
  congr 1
  omega
theorem m48 (hF : CF sh R I K H E HO S L B s g_s M_s A) (h_p : isS p) (hsp9 : s ≠ p) (m_p : R p 6 = some g_p) (n_p : sh[g_p]? = some (0, M_p)) (hMp : L * S ≤ M_p) (hgp : 53 ≤ g_p ∧ g_p ≠ g_s) (hp7 : I p 7 = L) (hp8 : I p 8 = S) : WPM X (d + 1) 48 [.inr (some p), .inr (some s)] (sh, R, I) 0 0 (fun _ h' => ∃ I', h' = (sh, R, I') ∧ OnlyS I I' p g_p ∧ CS I' p g_p S L A) := by
  have hF0 := hF
  obtain ⟨hL, hK, hsp, h_s, m_s, n_s, hg, hM, hLS, hcs, hab, hB⟩ := hF
  have hr := hK.r
  have hpa := isS.apart h_s h_p hsp9
  have hls : 0 ≤ L * S ∧ L * S ≤ 4860 := by
    rcases hK with ⟨rfl, rfl, rfl, rfl, rfl, rfl⟩ | ⟨rfl, rfl, rfl, rfl, rfl, rfl⟩ | ⟨rfl, rfl, rfl, rfl, rfl, rfl⟩ <;> omega
  have h16 := hab.2.2.1
  show WP X (d + 1) 48 0 [.inr (some p), .inr (some s)] [] (sh, R, I) 0 0 _
  refine w_aload (pc' := 1) k48_0 rfl rfl ?_
  refine w_getR (pc' := 4) (v := (s + 1)) k48_1 rfl (hL.s0 h_s) (hL.r0 h_s) ?_
  refine w_c1 (pc' := 5) k48_4 rfl ?_
  refine w_aload (pc' := 6) k48_5 rfl rfl ?_
  refine w_getR (pc' := 9) (v := (p + 1)) k48_6 rfl (hL.s0 h_p) (hL.r0 h_p) ?_
  refine w_c1 (pc' := 10) k48_9 rfl ?_
  refine w_aload (pc' := 11) k48_10 rfl rfl ?_
  refine w_getI (pc' := 14) (ki := 7) (v := L) k48_11 rfl (hL.s0 h_p) rfl hp7 ?_
  refine w_cpy (pc' := 17) k48_14 rfl (hL.s1 h_s) (hL.s1 h_p) (by omega) rfl ?_
  refine w_aload (pc' := 18) k48_17 rfl rfl ?_
  refine w_getR (pc' := 21) (v := g_s) k48_18 rfl (hL.s0 h_s) m_s ?_
  refine w_c1 (pc' := 22) k48_21 rfl ?_
  refine w_aload (pc' := 23) k48_22 rfl rfl ?_
  refine w_getR (pc' := 26) (v := g_p) k48_23 rfl (hL.s0 h_p) m_p ?_
  refine w_c1 (pc' := 27) k48_26 rfl ?_
  refine w_aload (pc' := 28) k48_27 rfl rfl ?_
  refine w_getI (pc' := 31) (ki := 7) (v := L) k48_28 rfl (hL.s0 h_p) rfl (by rw [upA_n (by omega)]; exact hp7) ?_
  refine w_aload (pc' := 32) k48_31 rfl rfl ?_
  refine w_getI (pc' := 35) (ki := 8) (v := S) k48_32 rfl (hL.s0 h_p) rfl (by rw [upA_n (by omega)]; exact hp8) ?_
  refine w_imul (pc' := 36) k48_35 rfl (by omega) ?_
  refine w_cpy (pc' := 39) k48_36 rfl n_s n_p (by omega) rfl ?_
  refine w_aload (pc' := 40) k48_39 rfl rfl ?_
  refine w_getR (pc' := 43) (v := (s + 2)) k48_40 rfl (hL.s0 h_s) (hL.r1 h_s) ?_
  refine w_c1 (pc' := 44) k48_43 rfl ?_
  refine w_aload (pc' := 45) k48_44 rfl rfl ?_
  refine w_getR (pc' := 48) (v := (p + 2)) k48_45 rfl (hL.s0 h_p) (hL.r1 h_p) ?_
  refine w_c1 (pc' := 49) k48_48 rfl ?_
  refine w_c2 (pc' := 51) k48_49 rfl ?_
  refine w_cpy (pc' := 54) k48_51 rfl (hL.s2 h_s) (hL.s2 h_p) (by omega) rfl ?_
  refine w_aload (pc' := 55) k48_54 rfl rfl ?_
  refine w_getR (pc' := 58) (v := (s + 3)) k48_55 rfl (hL.s0 h_s) (hL.r2 h_s) ?_
  refine w_c1 (pc' := 59) k48_58 rfl ?_
  refine w_aload (pc' := 60) k48_59 rfl rfl ?_
  refine w_getR (pc' := 63) (v := (p + 3)) k48_60 rfl (hL.s0 h_p) (hL.r2 h_p) ?_
  refine w_c1 (pc' := 64) k48_63 rfl ?_
  refine w_c2 (pc' := 66) k48_64 rfl ?_
  refine w_cpy (pc' := 69) k48_66 rfl (hL.s3 h_s) (hL.s3 h_p) (by omega) rfl ?_
  refine w_aload (pc' := 70) k48_69 rfl rfl ?_
  refine w_getR (pc' := 73) (v := (s + 4)) k48_70 rfl (hL.s0 h_s) (hL.r3 h_s) ?_
  refine w_c1 (pc' := 74) k48_73 rfl ?_
  refine w_aload (pc' := 75) k48_74 rfl rfl ?_
  refine w_getR (pc' := 78) (v := (p + 4)) k48_75 rfl (hL.s0 h_p) (hL.r3 h_p) ?_
  refine w_c1 (pc' := 79) k48_78 rfl ?_
  refine w_c2 (pc' := 81) k48_79 rfl ?_
  refine w_cpy (pc' := 84) k48_81 rfl (hL.s4 h_s) (hL.s4 h_p) (by omega) rfl ?_
  refine w_aload (pc' := 85) k48_84 rfl rfl ?_
  refine w_getR (pc' := 88) (v := (s + 5)) k48_85 rfl (hL.s0 h_s) (hL.r4 h_s) ?_
  refine w_c1 (pc' := 89) k48_88 rfl ?_
  refine w_aload (pc' := 90) k48_89 rfl rfl ?_
  refine w_getR (pc' := 93) (v := (p + 5)) k48_90 rfl (hL.s0 h_p) (hL.r4 h_p) ?_
  refine w_c1 (pc' := 94) k48_93 rfl ?_
  refine w_c2 (pc' := 96) k48_94 rfl ?_
  refine w_cpy (pc' := 99) k48_96 rfl (hL.s5 h_s) (hL.s5 h_p) (by omega) rfl ?_
  refine w_aload (pc' := 100) k48_99 rfl rfl ?_
  refine w_aload (pc' := 101) k48_100 rfl rfl ?_
  refine w_getI (pc' := 104) (ki := 5) (v := aNf A) k48_101 rfl (hL.s0 h_s) rfl (by rw [upA_n (by omega), upA_n (by omega), upA_n (by omega), upA_n (by omega), upA_n (by omega), upA_n (by omega)]; exact hcs.1) ?_
  refine w_putI (pc' := 107) (ki := 5) k48_104 rfl (hL.s0 h_p) rfl ?_
  refine w_retv k48_107 ⟨_, rfl, fun a h1 h2 => by rw [upA_n (by omega), upA_n (by omega), upA_n (by omega), upA_n (by omega), upA_n (by omega), upA_n (by omega), upA_n (by omega)], by rw [upA_s, upF_s], by rw [upA_s, upF_n (by decide), upA_n (by omega), upA_n (by omega), upA_n (by omega), upA_n (by omega), upA_n (by omega), upA_n (by omega)]; exact hp7, by rw [upA_s, upF_n (by decide), upA_n (by omega), upA_n (by omega), upA_n (by omega), upA_n (by omega), upA_n (by omega), upA_n (by omega)]; exact hp8, fun l q1 q2 => ?_, fun n l q1 q2 q3 q4 => ?_, fun f q1 q2 => ?_⟩
  · rw [upA_n (by omega), upA_n (by omega), upA_n (by omega), upA_n (by omega), upA_n (by omega), upA_n (by omega), upA_s, cp0 q1 q2]; exact hcs.2.2.2.1 l q1 q2
  · have hx := ix_r hK ⟨q3, q4⟩ ⟨q1, q2⟩
    rw [upA_n (by omega), upA_n (by omega), upA_n (by omega), upA_n (by omega), upA_n (by omega), upA_s, cp0 hx.1 hx.2.1, upA_n (by omega)]; exact hcs.2.2.2.2.1 n l q1 q2 q3 q4
  · have h9 := hcs.2.2.2.2.2 f q1 q2
    refine ⟨?_, ?_, ?_, ?_⟩
    · rw [upA_n (by omega), upA_n (by omega), upA_n (by omega), upA_n (by omega), upA_s, cp0 q1 (by omega), upA_n (by omega), upA_n (by omega)]; exact h9.1
    · rw [upA_n (by omega), upA_n (by omega), upA_n (by omega), upA_s, cp0 q1 (by omega), upA_n (by omega), upA_n (by omega), upA_n (by omega)]; exact h9.2.1
    · rw [upA_n (by omega), upA_n (by omega), upA_s, cp0 q1 (by omega), upA_n (by omega), upA_n (by omega), upA_n (by omega), upA_n (by omega)]; exact h9.2.2.1
    · rw [upA_n (by omega), upA_s, cp0 q1 (by omega), upA_n (by omega), upA_n (by omega), upA_n (by omega), upA_n (by omega), upA_n (by omega)]; exact h9.2.2.2
/-- marks of the link l become f -/
def colA (A : AS) (l : Int) (f : Int → Int) : AS := (aAg A, fun n k => if k = l then f n else aMk A n k, A.2.2)
theorem tkF_r {ag m0 : Int → Int} (hK : KP K H E HO S L) (hm : ∀ n, 0 ≤ n → n < S → 0 ≤ m0 n ∧ m0 n ≤ B) : ∀ k : Nat, (k : Int) ≤ L → ∀ n, 0 ≤ n → n < S → 0 ≤ tkF H E ag m0 k n ∧ tkF H E ag m0 k n ≤ B
  | 0, _, n, h1, h2 => hm n h1 h2
  | k + 1, hk, n, h1, h2 => by
    have hu := up_ne hK (l := k) ⟨by omega, by omega⟩
    have ih := tkF_r (ag := ag) hK hm k (by omega)
    have a1 := hm _ hu.2.1.1 hu.2.1.2
    have a2 := hm _ hu.2.2.1 hu.2.2.2
    have a3 := ih _ hu.2.1.1 hu.2.1.2
    have a4 := ih _ hu.2.2.1 hu.2.2.2
    have a5 := ih n h1 h2
    rw [tkF]
    split
    · unfold upF
      split
      · omega
      · split <;> omega
    · exact a5
theorem m60c (hF : CF sh R I K H E HO S L B s g_s M_s A) {l : Int} (hl : 0 ≤ l ∧ l < L) {N : Nat} (hN : S = (N : Int)) {I1 : Nat → Int → Int} (h1 : ∀ a, a ≠ g_s → a ≠ 16 → I1 a = I a) (h2 : ∀ n, 0 ≤ n → n < S → I1 16 n = aMk A n l) (h3 : ∀ n j, 0 ≤ n → n < S → 0 ≤ j → j < L → I1 g_s (j * S + n) = if j = l then tk1 H E L (aAg A) (fun n => aMk A n l) n else aMk A n j) : ∀ (k n : Nat) (i z : Int) (v6 : VV), n + k = N → i = (n : Int) → z = cnt (fun n => decide (tk1 H E L (aAg A) (fun n => aMk A n l) n ≠ aMk A n l)) n → WP X (d + 2) 60 142 [.inr (some 15), .inr (some s), .inl l, .inl (l * S), .inl z, .inl i, v6] [] (sh, R, I1) 0 0 (fun r h' => r = .inl (cnt (fun n => decide (tk1 H E L (aAg A) (fun n => aMk A n l) n ≠ aMk A n l)) S.toNat) ∧ ∃ I', h' = (sh, R, I') ∧ (∀ a, a ≠ g_s → a ≠ 16 → I' a = I a) ∧ (∀ n j, 0 ≤ n → n < S → 0 ≤ j → j < L → I' g_s (j * S + n) = if j = l then tk1 H E L (aAg A) (fun n => aMk A n l) n else aMk A n j)) := by
  have hF0 := hF
  obtain ⟨hL, hK, hsp, h_s, m_s, n_s, hg, hM, hLS, hcs, hab, hB⟩ := hF
  have hr := hK.r
  have hsg : s + 5 < g_s ∧ 25 ≤ s := by rcases h_s with rfl | rfl | rfl | rfl <;> omega
  have hls : 0 ≤ l * S ∧ l * S ≤ 4860 ∧ 0 ≤ L * S := by
    rcases hK with ⟨rfl, rfl, rfl, rfl, rfl, rfl⟩ | ⟨rfl, rfl, rfl, rfl, rfl, rfl⟩ | ⟨rfl, rfl, rfl, rfl, rfl, rfl⟩ <;> omega
  have hm0 : ∀ n, 0 ≤ n → n < S → 0 ≤ aMk A n l ∧ aMk A n l ≤ B := fun n h1 h2 => hab.2.1 n l h1 h2 hl.1 hl.2
  have hsp1 : SP I1 K H E HO S L := hsp.keep (fun a q1 q2 => h1 a (by omega) (by omega))
  intro k
  induction k with
  | zero =>
    rintro n i z v6 hk rfl rfl
    have e9 : n = N := by omega
    subst e9
    refine w_iload (pc' := 144) k60_142 rfl rfl ?_
    refine w_aload (pc' := 145) k60_144 rfl rfl ?_
    refine w_getR (pc' := 148) (v := 3) k60_145 rfl (hL.1 15 (8, 2) rfl) (hL.2 15 0 3 rfl) ?_
    refine w_getI (pc' := 151) (ki := 4) (v := S) k60_148 rfl (hL.1 3 (5, 14) rfl) rfl hsp1.2.2.2.2.1 ?_
    refine w_ic_ge (pc' := 154) k60_151 rfl (fun c_151 => ?_) (fun c_151 => absurd c_151 (by omega))
    refine w_iload (pc' := 184) k60_182 rfl rfl ?_
    exact w_reti k60_184 ⟨by rw [show S.toNat = n by omega], _, rfl, h1, h3⟩
  | succ k ih =>
    rintro n i z v6 hk rfl rfl
    have hn9 : (0 : Int) ≤ (n : Int) ∧ (n : Int) < S := by omega
    have hx := ix_r hK hl hn9
    have hcn := cnt_le (fun n => decide (tk1 H E L (aAg A) (fun n => aMk A n l) n ≠ aMk A n l)) n
    have h39 := h3 n l hn9.1 hn9.2 hl.1 hl.2
    rw [if_pos rfl] at h39
    refine w_iload (pc' := 144) k60_142 rfl rfl ?_
    refine w_aload (pc' := 145) k60_144 rfl rfl ?_
    refine w_getR (pc' := 148) (v := 3) k60_145 rfl (hL.1 15 (8, 2) rfl) (hL.2 15 0 3 rfl) ?_
    refine w_getI (pc' := 151) (ki := 4) (v := S) k60_148 rfl (hL.1 3 (5, 14) rfl) rfl hsp1.2.2.2.2.1 ?_
    refine w_ic_ge (pc' := 154) k60_151 rfl (fun c_151 => absurd c_151 (by omega)) (fun c_151 => ?_)
    refine w_aload (pc' := 155) k60_154 rfl rfl ?_
    refine w_getR (pc' := 158) (v := g_s) k60_155 rfl (hL.s0 h_s) m_s ?_
    refine w_iload (pc' := 159) k60_158 rfl rfl ?_
    refine w_iload (pc' := 161) k60_159 rfl rfl ?_
    refine w_iadd (pc' := 162) k60_161 rfl (by omega) ?_
    refine w_iald (pc' := 163) (v := tk1 H E L (aAg A) (fun n => aMk A n l) n) k60_162 rfl n_s (by omega) h39 ?_
    refine w_aload (pc' := 164) k60_163 rfl rfl ?_
    refine w_getR (pc' := 167) (v := 16) k60_164 rfl (hL.1 15 (8, 2) rfl) (hL.2 15 1 16 rfl) ?_
    refine w_iload (pc' := 169) k60_167 rfl rfl ?_
    refine w_iald (pc' := 170) (v := aMk A n l) k60_169 rfl (hL.1 16 (0, 45) rfl) (by omega) (h2 n hn9.1 hn9.2) ?_
    refine w_ic_eq (pc' := 173) k60_170 rfl (fun c_170 => ?_) (fun c_170 => ?_)
    · refine w_iinc (pc' := 179) (ls' := [_, _, _, _, _, _, _]) k60_176 rfl rfl (by omega) rfl ?_
      refine w_goto k60_179 ?_
      exact ih (n + 1) _ _ _ (by omega) (by omega) (by rw [cnt_f (by simpa using c_170)])
    · refine w_iinc (pc' := 176) (ls' := [_, _, _, _, _, _, _]) k60_173 rfl rfl (by omega) rfl ?_
      refine w_iinc (pc' := 179) (ls' := [_, _, _, _, _, _, _]) k60_176 rfl rfl (by omega) rfl ?_
      refine w_goto k60_179 ?_
      exact ih (n + 1) _ _ _ (by omega) (by omega) (by rw [cnt_t (by simpa using c_170)])
theorem m60l (hF : CF sh R I K H E HO S L B s g_s M_s A) {l : Int} (hl : 0 ≤ l ∧ l < L) {N : Nat} (hN : L = (N : Int)) : ∀ (k n : Nat) (i : Int) (v5 v6 : VV) (I1 : Nat → Int → Int), n + k = N → i = (n : Int) → (∀ a, a ≠ g_s → a ≠ 16 → I1 a = I a) → (∀ n, 0 ≤ n → n < S → I1 16 n = aMk A n l) → (∀ a j, 0 ≤ a → a < S → 0 ≤ j → j < L → I1 g_s (j * S + a) = if j = l then tkF H E (aAg A) (fun n => aMk A n l) n a else aMk A a j) → WP X (d + 2) 60 29 [.inr (some 15), .inr (some s), .inl l, .inl (l * S), .inl i, v5, v6] [] (sh, R, I1) 0 0 (fun r h' => r = .inl (cnt (fun n => decide (tk1 H E L (aAg A) (fun n => aMk A n l) n ≠ aMk A n l)) S.toNat) ∧ ∃ I', h' = (sh, R, I') ∧ (∀ a, a ≠ g_s → a ≠ 16 → I' a = I a) ∧ (∀ n j, 0 ≤ n → n < S → 0 ≤ j → j < L → I' g_s (j * S + n) = if j = l then tk1 H E L (aAg A) (fun n => aMk A n l) n else aMk A n j)) := by
  have hF0 := hF
  obtain ⟨hL, hK, hsp, h_s, m_s, n_s, hg, hM, hLS, hcs, hab, hB⟩ := hF
  have hr := hK.r
  have hsg : s + 5 < g_s ∧ 25 ≤ s := by rcases h_s with rfl | rfl | rfl | rfl <;> omega
  have hls : 0 ≤ l * S ∧ l * S ≤ 4860 ∧ 0 ≤ L * S := by
    rcases hK with ⟨rfl, rfl, rfl, rfl, rfl, rfl⟩ | ⟨rfl, rfl, rfl, rfl, rfl, rfl⟩ | ⟨rfl, rfl, rfl, rfl, rfl, rfl⟩ <;> omega
  have hm0 : ∀ n, 0 ≤ n → n < S → 0 ≤ aMk A n l ∧ aMk A n l ≤ B := fun n h1 h2 => hab.2.1 n l h1 h2 hl.1 hl.2
  intro k
  induction k with
  | zero =>
    rintro n i v5 v6 I1 hk rfl h1 h2 h3
    have hsp1 : SP I1 K H E HO S L := hsp.keep (fun a q1 q2 => h1 a (by omega) (by omega))
    have e9 : n = N := by omega
    subst e9
    refine w_iload (pc' := 31) k60_29 rfl rfl ?_
    refine w_aload (pc' := 32) k60_31 rfl rfl ?_
    refine w_getR (pc' := 35) (v := 3) k60_32 rfl (hL.1 15 (8, 2) rfl) (hL.2 15 0 3 rfl) ?_
    refine w_getI (pc' := 38) (ki := 5) (v := L) k60_35 rfl (hL.1 3 (5, 14) rfl) rfl hsp1.2.2.2.2.2.1 ?_
    refine w_ic_ge (pc' := 41) k60_38 rfl (fun c_38 => ?_) (fun c_38 => absurd c_38 (by omega))
    refine w_c1 (pc' := 137) k60_136 rfl ?_
    refine w_istore (pc' := 139) (ls' := [_, _, _, _, _, _, _]) k60_137 rfl rfl rfl ?_
    refine w_c1 (pc' := 140) k60_139 rfl ?_
    refine w_istore (pc' := 142) (ls' := [_, _, _, _, _, _, _]) k60_140 rfl rfl rfl ?_
    exact m60c hF0 hl (N := S.toNat) (by omega) h1 h2 (fun a j q1 q2 q3 q4 => by unfold tk1; rw [show L.toNat = n by omega]; exact h3 a j q1 q2 q3 q4) S.toNat 0 _ _ _ (by omega) rfl rfl
  | succ k ih =>
    rintro n i v5 v6 I1 hk rfl h1 h2 h3
    have hsp1 : SP I1 K H E HO S L := hsp.keep (fun a q1 q2 => h1 a (by omega) (by omega))
    have hl9 : (0 : Int) ≤ (n : Int) ∧ (n : Int) < L := by omega
    have hu := up_ne hK hl9
    have hx1 := ix_r hK hl hu.2.1
    have hx2 := ix_r hK hl hu.2.2
    have hpo : SP I1 K H E HO S L := hsp1
    have t1 := tkF_r (ag := aAg A) hK hm0 n (by omega) _ hu.2.1.1 hu.2.1.2
    have t2 := tkF_r (ag := aAg A) hK hm0 n (by omega) _ hu.2.2.1 hu.2.2.2
    have r1 := h3 _ l hu.2.1.1 hu.2.1.2 hl.1 hl.2
    have r2 := h3 _ l hu.2.2.1 hu.2.2.2 hl.1 hl.2
    rw [if_pos rfl] at r1 r2
    have ha1 := h2 _ hu.2.1.1 hu.2.1.2
    have ha2 := h2 _ hu.2.2.1 hu.2.2.2
    have hcs1 : I1 (s + 1) n = aAg A n := by rw [h1 _ (by omega) (by omega)]; exact hcs.2.2.2.1 n hl9.1 hl9.2
    have han := hab.1 n hl9.1 hl9.2
    have hwh : ∀ {d : Nat}, BV X (d + 1) 49 [.inr (some s), .inl (n : Int)] (sh, R, I1) (ev (aAg A n) = true) := by
      intro d
      show WP X (d + 1) 49 0 [.inr (some s), .inl (n : Int)] [] (sh, R, I1) 0 0 _
      refine w_aload (pc' := 1) k49_0 rfl rfl ?_
      refine w_getR (pc' := 4) (v := (s + 1)) k49_1 rfl (hL.s0 h_s) (hL.r0 h_s) ?_
      refine w_iload (pc' := 5) k49_4 rfl rfl ?_
      refine w_iald (pc' := 6) (v := aAg A n) k49_5 rfl (hL.s1 h_s) (by omega) hcs1 ?_
      refine w_c1 (pc' := 7) k49_6 rfl ?_
      refine w_irem (pc' := 8) k49_7 rfl (by omega) ?_
      refine w_if_ne (pc' := 11) k49_8 rfl (fun c_8 => ?_) (fun c_8 => ?_)
      · refine w_c1 (pc' := 16) k49_15 rfl ?_
        exact w_retz k49_16 (Or.inl rfl) ⟨rfl, Or.inr ⟨rfl, by rw [ev_t]; omega⟩⟩
      · refine w_c1 (pc' := 12) k49_11 rfl ?_
        refine w_goto k49_12 ?_
        exact w_retz k49_16 (Or.inr rfl) ⟨rfl, Or.inl ⟨rfl, by rw [ev_t]; omega⟩⟩
    refine w_iload (pc' := 31) k60_29 rfl rfl ?_
    refine w_aload (pc' := 32) k60_31 rfl rfl ?_
    refine w_getR (pc' := 35) (v := 3) k60_32 rfl (hL.1 15 (8, 2) rfl) (hL.2 15 0 3 rfl) ?_
    refine w_getI (pc' := 38) (ki := 5) (v := L) k60_35 rfl (hL.1 3 (5, 14) rfl) rfl hsp1.2.2.2.2.2.1 ?_
    refine w_ic_ge (pc' := 41) k60_38 rfl (fun c_38 => absurd c_38 (by omega)) (fun c_38 => ?_)
    refine w_aload (pc' := 42) k60_41 rfl rfl ?_
    refine w_iload (pc' := 44) k60_42 rfl rfl ?_
    refine w_callB (pc' := 47) (as := [.inr (some s), .inl _]) k60_44 rfl rfl (co_v rfl rfl (hL.s0 h_s)) (by decide) (hwh) (fun q_44 => ?_) (fun q_44 => ?_)
    · refine w_if_eq (pc' := 50) k60_47 rfl (fun c_47 => absurd c_47 (by decide)) (fun _ => ?_)
      refine w_aload (pc' := 51) k60_50 rfl rfl ?_
      refine w_getR (pc' := 54) (v := 3) k60_51 rfl (hL.1 15 (8, 2) rfl) (hL.2 15 0 3 rfl) ?_
      refine w_getR (pc' := 57) (v := 8) k60_54 rfl (hL.1 3 (5, 14) rfl) (hL.2 3 10 8 rfl) ?_
      refine w_iload (pc' := 59) k60_57 rfl rfl ?_
      refine w_iald (pc' := 60) (v := (n : Int) / H) k60_59 rfl (hL.1 8 (0, 108) rfl) (by omega) (hsp1.2.2.2.2.2.2.2.1 _ hl9.1 hl9.2).1 ?_
      refine w_istore (pc' := 62) (ls' := [_, _, _, _, _, _, _]) k60_60 rfl rfl rfl ?_
      refine w_aload (pc' := 63) k60_62 rfl rfl ?_
      refine w_getR (pc' := 66) (v := 3) k60_63 rfl (hL.1 15 (8, 2) rfl) (hL.2 15 0 3 rfl) ?_
      refine w_getR (pc' := 69) (v := 9) k60_66 rfl (hL.1 3 (5, 14) rfl) (hL.2 3 11 9 rfl) ?_
      refine w_iload (pc' := 71) k60_69 rfl rfl ?_
      refine w_iald (pc' := 72) (v := upS H E n) k60_71 rfl (hL.1 9 (0, 108) rfl) (by omega) (hsp1.2.2.2.2.2.2.2.1 _ hl9.1 hl9.2).2 ?_
      refine w_istore (pc' := 74) (ls' := [_, _, _, _, _, _, _]) k60_72 rfl rfl rfl ?_
      refine w_aload (pc' := 75) k60_74 rfl rfl ?_
      refine w_getR (pc' := 78) (v := g_s) k60_75 rfl (hL.s0 h_s) m_s ?_
      refine w_iload (pc' := 79) k60_78 rfl rfl ?_
      refine w_iload (pc' := 81) k60_79 rfl rfl ?_
      refine w_iadd (pc' := 82) k60_81 rfl (by omega) ?_
      refine w_aload (pc' := 83) k60_82 rfl rfl ?_
      refine w_getR (pc' := 86) (v := g_s) k60_83 rfl (hL.s0 h_s) m_s ?_
      refine w_iload (pc' := 87) k60_86 rfl rfl ?_
      refine w_iload (pc' := 89) k60_87 rfl rfl ?_
      refine w_iadd (pc' := 90) k60_89 rfl (by omega) ?_
      refine w_iald (pc' := 91) (v := tkF H E (aAg A) (fun n => aMk A n l) n ((n : Int) / H)) k60_90 rfl n_s (by omega) r1 ?_
      refine w_aload (pc' := 92) k60_91 rfl rfl ?_
      refine w_getR (pc' := 95) (v := 16) k60_92 rfl (hL.1 15 (8, 2) rfl) (hL.2 15 1 16 rfl) ?_
      refine w_iload (pc' := 97) k60_95 rfl rfl ?_
      refine w_iald (pc' := 98) (v := aMk A (upS H E n) l) k60_97 rfl (hL.1 16 (0, 45) rfl) (by omega) ha2 ?_
      refine w_mx (pc' := 101) k60_98 rfl rfl ?_
      refine w_iast (pc' := 102) k60_101 rfl n_s (by omega) ?_
      refine w_aload (pc' := 103) k60_102 rfl rfl ?_
      refine w_getR (pc' := 106) (v := g_s) k60_103 rfl (hL.s0 h_s) m_s ?_
      refine w_iload (pc' := 107) k60_106 rfl rfl ?_
      refine w_iload (pc' := 109) k60_107 rfl rfl ?_
      refine w_iadd (pc' := 110) k60_109 rfl (by omega) ?_
      refine w_aload (pc' := 111) k60_110 rfl rfl ?_
      refine w_getR (pc' := 114) (v := g_s) k60_111 rfl (hL.s0 h_s) m_s ?_
      refine w_iload (pc' := 115) k60_114 rfl rfl ?_
      refine w_iload (pc' := 117) k60_115 rfl rfl ?_
      refine w_iadd (pc' := 118) k60_117 rfl (by omega) ?_
      refine w_iald (pc' := 119) (v := tkF H E (aAg A) (fun n => aMk A n l) n (upS H E n)) k60_118 rfl n_s (by omega) (by rw [upA_s, upF_n (by omega)]; exact r2) ?_
      refine w_aload (pc' := 120) k60_119 rfl rfl ?_
      refine w_getR (pc' := 123) (v := 16) k60_120 rfl (hL.1 15 (8, 2) rfl) (hL.2 15 1 16 rfl) ?_
      refine w_iload (pc' := 125) k60_123 rfl rfl ?_
      refine w_iald (pc' := 126) (v := aMk A ((n : Int) / H) l) k60_125 rfl (hL.1 16 (0, 45) rfl) (by omega) (by rw [upA_n (by omega)]; exact ha1) ?_
      refine w_mx (pc' := 129) k60_126 rfl rfl ?_
      refine w_iast (pc' := 130) k60_129 rfl n_s (by omega) ?_
      refine w_iinc (pc' := 133) (ls' := [_, _, _, _, _, _, _]) k60_130 rfl rfl (by omega) rfl ?_
      refine w_goto k60_133 ?_
      refine ih (n + 1) _ _ _ _ (by omega) (by omega) (fun a q1 q2 => by rw [upA_n q1, upA_n q1]; exact h1 a q1 q2) (fun a q1 q2 => by rw [upA_n (by omega), upA_n (by omega)]; exact h2 a q1 q2) (fun a j q1 q2 q3 q4 => ?_)
      rw [upA_s, upA_s]
      have h39 := h3 a j q1 q2 q3 q4
      rw [tkF, if_pos q_44]
      by_cases e1 : j * S + a = l * S + upS H E n
      · have e2 := ix_inj hK ⟨q1, q2⟩ hu.2.2 e1
        rw [e1, upF_s, if_pos e2.1, e2.2, upF_s]
      · rw [upF_n e1]
        by_cases e3 : j * S + a = l * S + (n : Int) / H
        · have e2 := ix_inj hK ⟨q1, q2⟩ hu.2.1 e3
          rw [e3, upF_s, if_pos e2.1, e2.2, upF_n hu.1, upF_s]
        · rw [upF_n e3, h39]
          by_cases e4 : j = l
          · subst e4; rw [if_pos rfl, if_pos rfl, upF_n (fun z => e1 (by rw [z])), upF_n (fun z => e3 (by rw [z]))]
          · rw [if_neg e4, if_neg e4]
    · refine w_if_eq (pc' := 50) k60_47 rfl (fun _ => ?_) (fun c_47 => absurd c_47 (by decide))
      refine w_iinc (pc' := 133) (ls' := [_, _, _, _, _, _, _]) k60_130 rfl rfl (by omega) rfl ?_
      refine w_goto k60_133 ?_
      exact ih (n + 1) _ _ _ _ (by omega) (by omega) h1 h2 (fun a j q1 q2 q3 q4 => by rw [h3 a j q1 q2 q3 q4, tkF, if_neg q_44])
theorem m50 (hF : CF sh R I K H E HO S L B s g_s M_s A) {l : Int} (hl : 0 ≤ l ∧ l < L) : RV X (d + 1) 50 [.inr (some s), .inl l] (sh, R, I) (l * S) := by
  have hF0 := hF
  obtain ⟨hL, hK, hsp, h_s, m_s, n_s, hg, hM, hLS, hcs, hab, hB⟩ := hF
  show WP X (d + 1) 50 0 [.inr (some s), .inl l] [] (sh, R, I) 0 0 _
  refine w_iload (pc' := 1) k50_0 rfl rfl ?_
  refine w_aload (pc' := 2) k50_1 rfl rfl ?_
  refine w_getI (pc' := 5) (ki := 8) (v := S) k50_2 rfl (hL.s0 h_s) rfl hcs.2.2.1 ?_
  refine w_imul (pc' := 6) k50_5 rfl (by first | omega | (rcases hK with ⟨rfl, rfl, rfl, rfl, rfl, rfl⟩ | ⟨rfl, rfl, rfl, rfl, rfl, rfl⟩ | ⟨rfl, rfl, rfl, rfl, rfl, rfl⟩ <;> omega)) ?_
  exact w_reti k50_6 ⟨rfl, rfl⟩
theorem m60 (hF : CF sh R I K H E HO S L B s g_s M_s A) {l : Int} (hl : 0 ≤ l ∧ l < L) : WPM X (d + 2) 60 [.inr (some 15), .inr (some s), .inl l] (sh, R, I) 0 0 (fun r h' => r = .inl (cnt (fun n => decide (tk1 H E L (aAg A) (fun n => aMk A n l) n ≠ aMk A n l)) S.toNat) ∧ ∃ I', h' = (sh, R, I') ∧ (∀ a, a ≠ g_s → a ≠ 16 → I' a = I a) ∧ (∀ n j, 0 ≤ n → n < S → 0 ≤ j → j < L → I' g_s (j * S + n) = if j = l then tk1 H E L (aAg A) (fun n => aMk A n l) n else aMk A n j)) := by
  have hF0 := hF
  obtain ⟨hL, hK, hsp, h_s, m_s, n_s, hg, hM, hLS, hcs, hab, hB⟩ := hF
  have hr := hK.r
  have hsg : s + 5 < g_s ∧ 25 ≤ s := by rcases h_s with rfl | rfl | rfl | rfl <;> omega
  have hls : 0 ≤ l * S ∧ l * S ≤ 4860 ∧ 0 ≤ L * S := by
    rcases hK with ⟨rfl, rfl, rfl, rfl, rfl, rfl⟩ | ⟨rfl, rfl, rfl, rfl, rfl, rfl⟩ | ⟨rfl, rfl, rfl, rfl, rfl, rfl⟩ <;> omega
  have hm0 : ∀ n, 0 ≤ n → n < S → 0 ≤ aMk A n l ∧ aMk A n l ≤ B := fun n h1 h2 => hab.2.1 n l h1 h2 hl.1 hl.2
  show WP X (d + 2) 60 0 [.inr (some 15), .inr (some s), .inl l, .inr none, .inr none, .inr none, .inr none] [] (sh, R, I) 0 0 _
  refine w_aload (pc' := 1) k60_0 rfl rfl ?_
  refine w_iload (pc' := 2) k60_1 rfl rfl ?_
  refine w_callE (pc' := 5) (as := [.inr (some s), .inl _]) k60_2 rfl rfl (co_v rfl rfl (hL.s0 h_s)) (by decide) (m50 hF0 hl) ?_
  refine w_istore (pc' := 6) (ls' := [_, _, _, _, _, _, _]) k60_5 rfl rfl rfl ?_
  refine w_aload (pc' := 7) k60_6 rfl rfl ?_
  refine w_getR (pc' := 10) (v := g_s) k60_7 rfl (hL.s0 h_s) m_s ?_
  refine w_iload (pc' := 11) k60_10 rfl rfl ?_
  refine w_aload (pc' := 12) k60_11 rfl rfl ?_
  refine w_getR (pc' := 15) (v := 16) k60_12 rfl (hL.1 15 (8, 2) rfl) (hL.2 15 1 16 rfl) ?_
  refine w_c1 (pc' := 16) k60_15 rfl ?_
  refine w_aload (pc' := 17) k60_16 rfl rfl ?_
  refine w_getR (pc' := 20) (v := 3) k60_17 rfl (hL.1 15 (8, 2) rfl) (hL.2 15 0 3 rfl) ?_
  refine w_getI (pc' := 23) (ki := 4) (v := S) k60_20 rfl (hL.1 3 (5, 14) rfl) rfl hsp.2.2.2.2.1 ?_
  refine w_cpy (pc' := 26) k60_23 rfl n_s (hL.1 16 (0, 45) rfl) (by first | omega | (have := ix_r hK hl (n := S - 1) (by omega); omega)) rfl ?_
  refine w_c1 (pc' := 27) k60_26 rfl ?_
  refine w_istore (pc' := 29) (ls' := [_, _, _, _, _, _, _]) k60_27 rfl rfl rfl ?_
  refine m60l hF0 hl (N := L.toNat) (by omega) L.toNat 0 _ _ _ _ (by omega) rfl (fun a q1 q2 => by rw [upA_n q2]) (fun n q1 q2 => ?_) (fun n j q1 q2 q3 q4 => ?_)
  · rw [upA_s]; unfold cpF; rw [if_pos (by omega), show l * S + (n - 0) = l * S + n by omega]; exact hcs.2.2.2.2.1 n l q1 q2 hl.1 hl.2
  · rw [upA_n (by omega), hcs.2.2.2.2.1 n j q1 q2 q3 q4]
    by_cases e : j = l
    · subst e; rw [if_pos rfl]; rfl
    · rw [if_neg e]
end C37
