/-! ===== CLASS: leaves ===== -/
section C20
variable {X : Nat × (Int → Int)} {d : Nat} {sh : List (Nat × Nat)} {R : Nat → Nat → Option Nat} {I : Nat → Int → Int} {s g_s M_s : Nat} {K H E HO S L B : Int} {A : AS}
theorem m29 (hF : CF sh R I K H E HO S L B s g_s M_s A) {p j : Int} (hp : 0 ≤ p ∧ p < K) (hj : 0 ≤ j ∧ j < H) : RV X (d + 1) 29 [.inr (some 3), .inl p, .inl j] (sh, R, I) (E + p * H + j) := by
  have hF0 := hF
  obtain ⟨hL, hK, hsp, h_s, m_s, n_s, hg, hM, hLS, hcs, hab, hB⟩ := hF
  show WP X (d + 1) 29 0 [.inr (some 3), .inl p, .inl j] [] (sh, R, I) 0 0 _
  refine w_aload (pc' := 1) k29_0 rfl rfl ?_
  refine w_getI (pc' := 4) (ki := 2) (v := E) k29_1 rfl (hL.1 3 (5, 14) rfl) rfl hsp.2.2.1 ?_
  refine w_iload (pc' := 5) k29_4 rfl rfl ?_
  refine w_aload (pc' := 6) k29_5 rfl rfl ?_
  refine w_getI (pc' := 9) (ki := 1) (v := H) k29_6 rfl (hL.1 3 (5, 14) rfl) rfl hsp.2.1 ?_
  refine w_imul (pc' := 10) k29_9 rfl (by first | omega | (rcases hK with ⟨rfl, rfl, rfl, rfl, rfl, rfl⟩ | ⟨rfl, rfl, rfl, rfl, rfl, rfl⟩ | ⟨rfl, rfl, rfl, rfl, rfl, rfl⟩ <;> omega)) ?_
  refine w_iadd (pc' := 11) k29_10 rfl (by first | omega | (rcases hK with ⟨rfl, rfl, rfl, rfl, rfl, rfl⟩ | ⟨rfl, rfl, rfl, rfl, rfl, rfl⟩ | ⟨rfl, rfl, rfl, rfl, rfl, rfl⟩ <;> omega)) ?_
  refine w_iload (pc' := 12) k29_11 rfl rfl ?_
  refine w_iadd (pc' := 13) k29_12 rfl (by first | omega | (rcases hK with ⟨rfl, rfl, rfl, rfl, rfl, rfl⟩ | ⟨rfl, rfl, rfl, rfl, rfl, rfl⟩ | ⟨rfl, rfl, rfl, rfl, rfl, rfl⟩ <;> omega)) ?_
  exact w_reti k29_13 ⟨rfl, rfl⟩
theorem m31 (hF : CF sh R I K H E HO S L B s g_s M_s A) {n x : Int} (hn : 0 ≤ n ∧ n < 2 * E) (hx : 0 ≤ x ∧ x < H) : RV X (d + 1) 31 [.inr (some 3), .inl n, .inl x] (sh, R, I) (n * H + x) := by
  have hF0 := hF
  obtain ⟨hL, hK, hsp, h_s, m_s, n_s, hg, hM, hLS, hcs, hab, hB⟩ := hF
  show WP X (d + 1) 31 0 [.inr (some 3), .inl n, .inl x] [] (sh, R, I) 0 0 _
  refine w_iload (pc' := 1) k31_0 rfl rfl ?_
  refine w_aload (pc' := 2) k31_1 rfl rfl ?_
  refine w_getI (pc' := 5) (ki := 1) (v := H) k31_2 rfl (hL.1 3 (5, 14) rfl) rfl hsp.2.1 ?_
  refine w_imul (pc' := 6) k31_5 rfl (by first | omega | (rcases hK with ⟨rfl, rfl, rfl, rfl, rfl, rfl⟩ | ⟨rfl, rfl, rfl, rfl, rfl, rfl⟩ | ⟨rfl, rfl, rfl, rfl, rfl, rfl⟩ <;> omega)) ?_
  refine w_iload (pc' := 7) k31_6 rfl rfl ?_
  refine w_iadd (pc' := 8) k31_7 rfl (by first | omega | (rcases hK with ⟨rfl, rfl, rfl, rfl, rfl, rfl⟩ | ⟨rfl, rfl, rfl, rfl, rfl, rfl⟩ | ⟨rfl, rfl, rfl, rfl, rfl, rfl⟩ <;> omega)) ?_
  exact w_reti k31_8 ⟨rfl, rfl⟩
theorem m32 (hF : CF sh R I K H E HO S L B s g_s M_s A) {v : Int} (hv : 0 ≤ v) : RV X (d + 1) 32 [.inr (some 3), .inl v] (sh, R, I) (v / H) := by
  have hF0 := hF
  obtain ⟨hL, hK, hsp, h_s, m_s, n_s, hg, hM, hLS, hcs, hab, hB⟩ := hF
  show WP X (d + 1) 32 0 [.inr (some 3), .inl v] [] (sh, R, I) 0 0 _
  refine w_aload (pc' := 1) k32_0 rfl rfl ?_
  refine w_getI (pc' := 4) (ki := 1) (v := H) k32_1 rfl (hL.1 3 (5, 14) rfl) rfl hsp.2.1 ?_
  refine w_if_le (pc' := 7) k32_4 rfl (fun c_4 => absurd c_4 (by first | omega | (rcases hK with ⟨rfl, rfl, rfl, rfl, rfl, rfl⟩ | ⟨rfl, rfl, rfl, rfl, rfl, rfl⟩ | ⟨rfl, rfl, rfl, rfl, rfl, rfl⟩ <;> omega))) (fun c_4 => ?_)
  refine w_iload (pc' := 8) k32_7 rfl rfl ?_
  refine w_aload (pc' := 9) k32_8 rfl rfl ?_
  refine w_getI (pc' := 12) (ki := 1) (v := H) k32_9 rfl (hL.1 3 (5, 14) rfl) rfl hsp.2.1 ?_
  refine w_idiv (pc' := 13) k32_12 rfl (by first | omega | (rcases hK with ⟨rfl, rfl, rfl, rfl, rfl, rfl⟩ | ⟨rfl, rfl, rfl, rfl, rfl, rfl⟩ | ⟨rfl, rfl, rfl, rfl, rfl, rfl⟩ <;> omega)) ?_
  refine w_goto k32_13 ?_
  exact w_reti k32_17 ⟨rfl, rfl⟩
theorem m33 (hF : CF sh R I K H E HO S L B s g_s M_s A) {v : Int} (hv : 0 ≤ v) : RV X (d + 1) 33 [.inr (some 3), .inl v] (sh, R, I) (v % H) := by
  have hF0 := hF
  obtain ⟨hL, hK, hsp, h_s, m_s, n_s, hg, hM, hLS, hcs, hab, hB⟩ := hF
  show WP X (d + 1) 33 0 [.inr (some 3), .inl v] [] (sh, R, I) 0 0 _
  refine w_aload (pc' := 1) k33_0 rfl rfl ?_
  refine w_getI (pc' := 4) (ki := 1) (v := H) k33_1 rfl (hL.1 3 (5, 14) rfl) rfl hsp.2.1 ?_
  refine w_if_le (pc' := 7) k33_4 rfl (fun c_4 => absurd c_4 (by first | omega | (rcases hK with ⟨rfl, rfl, rfl, rfl, rfl, rfl⟩ | ⟨rfl, rfl, rfl, rfl, rfl, rfl⟩ | ⟨rfl, rfl, rfl, rfl, rfl, rfl⟩ <;> omega))) (fun c_4 => ?_)
  refine w_iload (pc' := 8) k33_7 rfl rfl ?_
  refine w_aload (pc' := 9) k33_8 rfl rfl ?_
  refine w_getI (pc' := 12) (ki := 1) (v := H) k33_9 rfl (hL.1 3 (5, 14) rfl) rfl hsp.2.1 ?_
  refine w_irem (pc' := 13) k33_12 rfl (by first | omega | (rcases hK with ⟨rfl, rfl, rfl, rfl, rfl, rfl⟩ | ⟨rfl, rfl, rfl, rfl, rfl, rfl⟩ | ⟨rfl, rfl, rfl, rfl, rfl, rfl⟩ <;> omega)) ?_
  refine w_goto k33_13 ?_
  exact w_reti k33_17 ⟨rfl, rfl⟩
theorem m34 (hF : CF sh R I K H E HO S L B s g_s M_s A) {l n : Int} (hl : 0 ≤ l ∧ l < L) : RV X (d + 1) 34 [.inr (some 3), .inl l, .inl n] (sh, R, I) (otS H E l n) := by
  have hF0 := hF
  obtain ⟨hL, hK, hsp, h_s, m_s, n_s, hg, hM, hLS, hcs, hab, hB⟩ := hF
  show WP X (d + 1) 34 0 [.inr (some 3), .inl l, .inl n] [] (sh, R, I) 0 0 _
  refine w_aload (pc' := 1) k34_0 rfl rfl ?_
  refine w_getR (pc' := 4) (v := 8) k34_1 rfl (hL.1 3 (5, 14) rfl) (hL.2 3 10 8 rfl) ?_
  refine w_iload (pc' := 5) k34_4 rfl rfl ?_
  refine w_iald (pc' := 6) (v := l / H) k34_5 rfl (hL.1 8 (0, 108) rfl) (by first | omega | (rcases hK with ⟨rfl, rfl, rfl, rfl, rfl, rfl⟩ | ⟨rfl, rfl, rfl, rfl, rfl, rfl⟩ | ⟨rfl, rfl, rfl, rfl, rfl, rfl⟩ <;> omega)) (hsp.2.2.2.2.2.2.2.1 l hl.1 hl.2).1 ?_
  refine w_iload (pc' := 7) k34_6 rfl rfl ?_
  refine w_ic_ne (pc' := 10) k34_7 rfl (fun c_7 => ?_) (fun c_7 => ?_)
  · refine w_aload (pc' := 20) k34_19 rfl rfl ?_
    refine w_getR (pc' := 23) (v := 8) k34_20 rfl (hL.1 3 (5, 14) rfl) (hL.2 3 10 8 rfl) ?_
    refine w_iload (pc' := 24) k34_23 rfl rfl ?_
    refine w_iald (pc' := 25) (v := l / H) k34_24 rfl (hL.1 8 (0, 108) rfl) (by first | omega | (rcases hK with ⟨rfl, rfl, rfl, rfl, rfl, rfl⟩ | ⟨rfl, rfl, rfl, rfl, rfl, rfl⟩ | ⟨rfl, rfl, rfl, rfl, rfl, rfl⟩ <;> omega)) (hsp.2.2.2.2.2.2.2.1 l hl.1 hl.2).1 ?_
    exact w_reti k34_25 ⟨by unfold otS; first | rw [if_pos c_7] | rw [if_neg c_7], rfl⟩
  · refine w_aload (pc' := 11) k34_10 rfl rfl ?_
    refine w_getR (pc' := 14) (v := 9) k34_11 rfl (hL.1 3 (5, 14) rfl) (hL.2 3 11 9 rfl) ?_
    refine w_iload (pc' := 15) k34_14 rfl rfl ?_
    refine w_iald (pc' := 16) (v := upS H E l) k34_15 rfl (hL.1 9 (0, 108) rfl) (by first | omega | (rcases hK with ⟨rfl, rfl, rfl, rfl, rfl, rfl⟩ | ⟨rfl, rfl, rfl, rfl, rfl, rfl⟩ | ⟨rfl, rfl, rfl, rfl, rfl, rfl⟩ <;> omega)) (hsp.2.2.2.2.2.2.2.1 l hl.1 hl.2).2 ?_
    refine w_goto k34_16 ?_
    exact w_reti k34_25 ⟨by unfold otS; first | rw [if_pos c_7] | rw [if_neg c_7], rfl⟩
theorem m49 (hF : CF sh R I K H E HO S L B s g_s M_s A) {l : Int} (hl : 0 ≤ l ∧ l < L) : BV X (d + 1) 49 [.inr (some s), .inl l] (sh, R, I) (ev (aAg A l) = true) := by
  have hF0 := hF
  obtain ⟨hL, hK, hsp, h_s, m_s, n_s, hg, hM, hLS, hcs, hab, hB⟩ := hF
  have ha := hab.1 l hl.1 hl.2
  show WP X (d + 1) 49 0 [.inr (some s), .inl l] [] (sh, R, I) 0 0 _
  refine w_aload (pc' := 1) k49_0 rfl rfl ?_
  refine w_getR (pc' := 4) (v := (s + 1)) k49_1 rfl (hL.s0 h_s) (hL.r0 h_s) ?_
  refine w_iload (pc' := 5) k49_4 rfl rfl ?_
  refine w_iald (pc' := 6) (v := aAg A l) k49_5 rfl (hL.s1 h_s) (by first | omega | (rcases hK with ⟨rfl, rfl, rfl, rfl, rfl, rfl⟩ | ⟨rfl, rfl, rfl, rfl, rfl, rfl⟩ | ⟨rfl, rfl, rfl, rfl, rfl, rfl⟩ <;> omega)) (hcs.2.2.2.1 l hl.1 hl.2) ?_
  refine w_c1 (pc' := 7) k49_6 rfl ?_
  refine w_irem (pc' := 8) k49_7 rfl (by first | omega | (rcases hK with ⟨rfl, rfl, rfl, rfl, rfl, rfl⟩ | ⟨rfl, rfl, rfl, rfl, rfl, rfl⟩ | ⟨rfl, rfl, rfl, rfl, rfl, rfl⟩ <;> omega)) ?_
  refine w_if_ne (pc' := 11) k49_8 rfl (fun c_8 => ?_) (fun c_8 => ?_)
  · refine w_c1 (pc' := 16) k49_15 rfl ?_
    exact w_retz k49_16 (Or.inl rfl) ⟨rfl, Or.inr ⟨rfl, by rw [ev_t]; omega⟩⟩
  · refine w_c1 (pc' := 12) k49_11 rfl ?_
    refine w_goto k49_12 ?_
    exact w_retz k49_16 (Or.inr rfl) ⟨rfl, Or.inl ⟨rfl, by rw [ev_t]; omega⟩⟩
theorem m51 (hF : CF sh R I K H E HO S L B s g_s M_s A) {n l : Int} (hn : 0 ≤ n ∧ n < S) (hl : 0 ≤ l ∧ l < L) : RV X (d + 1) 51 [.inr (some s), .inl n, .inl l] (sh, R, I) (aMk A n l) := by
  have hF0 := hF
  obtain ⟨hL, hK, hsp, h_s, m_s, n_s, hg, hM, hLS, hcs, hab, hB⟩ := hF
  have ha := hab.2.1 n l hn.1 hn.2 hl.1 hl.2
  have hb : 0 ≤ l * S ∧ l * S + n < M_s := by
    rcases hK with ⟨rfl, rfl, rfl, rfl, rfl, rfl⟩ | ⟨rfl, rfl, rfl, rfl, rfl, rfl⟩ | ⟨rfl, rfl, rfl, rfl, rfl, rfl⟩ <;> omega
  show WP X (d + 1) 51 0 [.inr (some s), .inl n, .inl l] [] (sh, R, I) 0 0 _
  refine w_aload (pc' := 1) k51_0 rfl rfl ?_
  refine w_getR (pc' := 4) (v := g_s) k51_1 rfl (hL.s0 h_s) m_s ?_
  refine w_iload (pc' := 5) k51_4 rfl rfl ?_
  refine w_aload (pc' := 6) k51_5 rfl rfl ?_
  refine w_getI (pc' := 9) (ki := 8) (v := S) k51_6 rfl (hL.s0 h_s) rfl hcs.2.2.1 ?_
  refine w_imul (pc' := 10) k51_9 rfl (by omega) ?_
  refine w_iload (pc' := 11) k51_10 rfl rfl ?_
  refine w_iadd (pc' := 12) k51_11 rfl (by omega) ?_
  refine w_iald (pc' := 13) (v := aMk A n l) k51_12 rfl n_s (by omega) (hcs.2.2.2.2.1 n l hn.1 hn.2 hl.1 hl.2) ?_
  exact w_reti k51_13 ⟨rfl, rfl⟩
theorem m52 (hF : CF sh R I K H E HO S L B s g_s M_s A) {n l : Int} (hn : 0 ≤ n ∧ n < S) (hl : 0 ≤ l ∧ l < L) : BV X (d + 1) 52 [.inr (some s), .inl n, .inl l] (sh, R, I) (ev (aMk A n l) = true) := by
  have hF0 := hF
  obtain ⟨hL, hK, hsp, h_s, m_s, n_s, hg, hM, hLS, hcs, hab, hB⟩ := hF
  have ha := hab.2.1 n l hn.1 hn.2 hl.1 hl.2
  have hb : 0 ≤ l * S ∧ l * S + n < M_s := by
    rcases hK with ⟨rfl, rfl, rfl, rfl, rfl, rfl⟩ | ⟨rfl, rfl, rfl, rfl, rfl, rfl⟩ | ⟨rfl, rfl, rfl, rfl, rfl, rfl⟩ <;> omega
  show WP X (d + 1) 52 0 [.inr (some s), .inl n, .inl l] [] (sh, R, I) 0 0 _
  refine w_aload (pc' := 1) k52_0 rfl rfl ?_
  refine w_getR (pc' := 4) (v := g_s) k52_1 rfl (hL.s0 h_s) m_s ?_
  refine w_iload (pc' := 5) k52_4 rfl rfl ?_
  refine w_aload (pc' := 6) k52_5 rfl rfl ?_
  refine w_getI (pc' := 9) (ki := 8) (v := S) k52_6 rfl (hL.s0 h_s) rfl hcs.2.2.1 ?_
  refine w_imul (pc' := 10) k52_9 rfl (by omega) ?_
  refine w_iload (pc' := 11) k52_10 rfl rfl ?_
  refine w_iadd (pc' := 12) k52_11 rfl (by omega) ?_
  refine w_iald (pc' := 13) (v := aMk A n l) k52_12 rfl n_s (by omega) (hcs.2.2.2.2.1 n l hn.1 hn.2 hl.1 hl.2) ?_
  refine w_c1 (pc' := 14) k52_13 rfl ?_
  refine w_irem (pc' := 15) k52_14 rfl (by omega) ?_
  refine w_if_ne (pc' := 18) k52_15 rfl (fun c_15 => ?_) (fun c_15 => ?_)
  · refine w_c1 (pc' := 23) k52_22 rfl ?_
    exact w_retz k52_23 (Or.inl rfl) ⟨rfl, Or.inr ⟨rfl, by rw [ev_t]; omega⟩⟩
  · refine w_c1 (pc' := 19) k52_18 rfl ?_
    refine w_goto k52_19 ?_
    exact w_retz k52_23 (Or.inr rfl) ⟨rfl, Or.inl ⟨rfl, by rw [ev_t]; omega⟩⟩
theorem m55l (hF : CF sh R I K H E HO S L B s g_s M_s A) {l : Int} (hl : 0 ≤ l ∧ l < L) {N : Nat} (hN : S = (N : Int)) : ∀ (k n : Nat) (c i : Int), n + k = N → c = cnt (fun j => decide (aMk A j l ≠ aAg A l)) n → i = (n : Int) → WP X (d + 1) 55 4 [.inr (some s), .inl l, .inl c, .inl i] [] (sh, R, I) 0 0 (fun r h' => r = .inl (cnt (fun j => decide (aMk A j l ≠ aAg A l)) N) ∧ h' = (sh, R, I)) := by
  have hF0 := hF
  obtain ⟨hL, hK, hsp, h_s, m_s, n_s, hg, hM, hLS, hcs, hab, hB⟩ := hF
  intro k
  induction k with
  | zero =>
    rintro n c i hk rfl rfl
    have e : n = N := by omega
    subst e
    refine w_iload (pc' := 5) k55_4 rfl rfl ?_
    refine w_aload (pc' := 6) k55_5 rfl rfl ?_
    refine w_getI (pc' := 9) (ki := 8) (v := S) k55_6 rfl (hL.s0 h_s) rfl hcs.2.2.1 ?_
    refine w_ic_ge (pc' := 12) k55_9 rfl (fun c_9 => ?_) (fun c_9 => absurd c_9 (by omega))
    refine w_iload (pc' := 44) k55_43 rfl rfl ?_
    exact w_reti k55_44 ⟨rfl, rfl⟩
  | succ k ih =>
    rintro n c i hk rfl rfl
    have hc := cnt_le (fun j => decide (aMk A j l ≠ aAg A l)) n
    have hn : (0 : Int) ≤ (n : Int) ∧ (n : Int) < S := by omega
    have hb : 0 ≤ l * S ∧ l * S + n < M_s := by
      clear ih hc
      rcases hK with ⟨rfl, rfl, rfl, rfl, rfl, rfl⟩ | ⟨rfl, rfl, rfl, rfl, rfl, rfl⟩ | ⟨rfl, rfl, rfl, rfl, rfl, rfl⟩ <;> omega
    have hS45 : S ≤ 45 ∧ L ≤ 108 := by
      clear ih hc hb
      rcases hK with ⟨rfl, rfl, rfl, rfl, rfl, rfl⟩ | ⟨rfl, rfl, rfl, rfl, rfl, rfl⟩ | ⟨rfl, rfl, rfl, rfl, rfl, rfl⟩ <;> omega
    refine w_iload (pc' := 5) k55_4 rfl rfl ?_
    refine w_aload (pc' := 6) k55_5 rfl rfl ?_
    refine w_getI (pc' := 9) (ki := 8) (v := S) k55_6 rfl (hL.s0 h_s) rfl hcs.2.2.1 ?_
    refine w_ic_ge (pc' := 12) k55_9 rfl (fun c_9 => absurd c_9 (by omega)) (fun c_9 => ?_)
    refine w_aload (pc' := 13) k55_12 rfl rfl ?_
    refine w_getR (pc' := 16) (v := g_s) k55_13 rfl (hL.s0 h_s) m_s ?_
    refine w_iload (pc' := 17) k55_16 rfl rfl ?_
    refine w_aload (pc' := 18) k55_17 rfl rfl ?_
    refine w_getI (pc' := 21) (ki := 8) (v := S) k55_18 rfl (hL.s0 h_s) rfl hcs.2.2.1 ?_
    refine w_imul (pc' := 22) k55_21 rfl (by omega) ?_
    refine w_iload (pc' := 23) k55_22 rfl rfl ?_
    refine w_iadd (pc' := 24) k55_23 rfl (by omega) ?_
    refine w_iald (pc' := 25) (v := aMk A n l) k55_24 rfl n_s (by omega) (hcs.2.2.2.2.1 n l hn.1 hn.2 hl.1 hl.2) ?_
    refine w_aload (pc' := 26) k55_25 rfl rfl ?_
    refine w_getR (pc' := 29) (v := (s + 1)) k55_26 rfl (hL.s0 h_s) (hL.r0 h_s) ?_
    refine w_iload (pc' := 30) k55_29 rfl rfl ?_
    refine w_iald (pc' := 31) (v := aAg A l) k55_30 rfl (hL.s1 h_s) (by omega) (hcs.2.2.2.1 l hl.1 hl.2) ?_
    refine w_ic_eq (pc' := 34) k55_31 rfl (fun c_31 => ?_) (fun c_31 => ?_)
    · refine w_iinc (pc' := 40) (ls' := [_, _, _, _]) k55_37 rfl rfl (by omega) rfl ?_
      refine w_goto k55_40 ?_
      exact ih (n + 1) _ _ (by omega) (by first | rw [cnt_f (by simpa using c_31)] | rw [cnt_t (by simpa using c_31)]) (by omega)
    · refine w_iinc (pc' := 37) (ls' := [_, _, _, _]) k55_34 rfl rfl (by omega) rfl ?_
      refine w_iinc (pc' := 40) (ls' := [_, _, _, _]) k55_37 rfl rfl (by omega) rfl ?_
      refine w_goto k55_40 ?_
      exact ih (n + 1) _ _ (by omega) (by first | rw [cnt_f (by simpa using c_31)] | rw [cnt_t (by simpa using c_31)]) (by omega)
theorem m55 (hF : CF sh R I K H E HO S L B s g_s M_s A) {l : Int} (hl : 0 ≤ l ∧ l < L) : RV X (d + 1) 55 [.inr (some s), .inl l] (sh, R, I) (cnt (fun j => decide (aMk A j l ≠ aAg A l)) S.toNat) := by
  have hF0 := hF
  obtain ⟨hL, hK, hsp, h_s, m_s, n_s, hg, hM, hLS, hcs, hab, hB⟩ := hF
  show WP X (d + 1) 55 0 [.inr (some s), .inl l, .inr none, .inr none] [] (sh, R, I) 0 0 _
  refine w_c1 (pc' := 1) k55_0 rfl ?_
  refine w_istore (pc' := 2) (ls' := [_, _, _, _]) k55_1 rfl rfl rfl ?_
  refine w_c1 (pc' := 3) k55_2 rfl ?_
  refine w_istore (pc' := 4) (ls' := [_, _, _, _]) k55_3 rfl rfl rfl ?_
  exact m55l hF0 hl (N := S.toNat) (by first | omega | (rcases hK with ⟨rfl, rfl, rfl, rfl, rfl, rfl⟩ | ⟨rfl, rfl, rfl, rfl, rfl, rfl⟩ | ⟨rfl, rfl, rfl, rfl, rfl, rfl⟩ <;> omega)) S.toNat 0 _ _ (by omega) rfl rfl
theorem m99 (hF : CF sh R I K H E HO S L B s g_s M_s A)  {n : Int} : BV X (d + 1) 99 [.inr (some 0), .inl n] (sh, R, I) (0 ≤ n ∧ n < S) := by
  have hF0 := hF
  obtain ⟨hL, hK, hsp, h_s, m_s, n_s, hg, hM, hLS, hcs, hab, hB⟩ := hF
  show WP X (d + 1) 99 0 [.inr (some 0), .inl n] [] (sh, R, I) 0 0 _
  refine w_iload (pc' := 1) k99_0 rfl rfl ?_
  refine w_if_lt (pc' := 4) k99_1 rfl (fun c_1 => ?_) (fun c_1 => ?_)
  · refine w_c1 (pc' := 20) k99_19 rfl ?_
    exact w_retz k99_20 (Or.inl rfl) ⟨rfl, Or.inr ⟨rfl, by omega⟩⟩
  · refine w_iload (pc' := 5) k99_4 rfl rfl ?_
    refine w_aload (pc' := 6) k99_5 rfl rfl ?_
    refine w_getR (pc' := 9) (v := 3) k99_6 rfl (hL.1 0 (10, 12) rfl) (hL.2 0 1 3 rfl) ?_
    refine w_getI (pc' := 12) (ki := 4) (v := S) k99_9 rfl (hL.1 3 (5, 14) rfl) rfl hsp.2.2.2.2.1 ?_
    refine w_ic_ge (pc' := 15) k99_12 rfl (fun c_12 => ?_) (fun c_12 => ?_)
    · refine w_c1 (pc' := 20) k99_19 rfl ?_
      exact w_retz k99_20 (Or.inl rfl) ⟨rfl, Or.inr ⟨rfl, by omega⟩⟩
    · refine w_c1 (pc' := 16) k99_15 rfl ?_
      refine w_goto k99_16 ?_
      exact w_retz k99_20 (Or.inr rfl) ⟨rfl, Or.inl ⟨rfl, by omega⟩⟩
theorem m100 (hF : CF sh R I K H E HO S L B s g_s M_s A)  {n : Int} : BV X (d + 1) 100 [.inr (some 0), .inl n] (sh, R, I) (0 ≤ n ∧ n < L) := by
  have hF0 := hF
  obtain ⟨hL, hK, hsp, h_s, m_s, n_s, hg, hM, hLS, hcs, hab, hB⟩ := hF
  show WP X (d + 1) 100 0 [.inr (some 0), .inl n] [] (sh, R, I) 0 0 _
  refine w_iload (pc' := 1) k100_0 rfl rfl ?_
  refine w_if_lt (pc' := 4) k100_1 rfl (fun c_1 => ?_) (fun c_1 => ?_)
  · refine w_c1 (pc' := 20) k100_19 rfl ?_
    exact w_retz k100_20 (Or.inl rfl) ⟨rfl, Or.inr ⟨rfl, by omega⟩⟩
  · refine w_iload (pc' := 5) k100_4 rfl rfl ?_
    refine w_aload (pc' := 6) k100_5 rfl rfl ?_
    refine w_getR (pc' := 9) (v := 3) k100_6 rfl (hL.1 0 (10, 12) rfl) (hL.2 0 1 3 rfl) ?_
    refine w_getI (pc' := 12) (ki := 5) (v := L) k100_9 rfl (hL.1 3 (5, 14) rfl) rfl hsp.2.2.2.2.2.1 ?_
    refine w_ic_ge (pc' := 15) k100_12 rfl (fun c_12 => ?_) (fun c_12 => ?_)
    · refine w_c1 (pc' := 20) k100_19 rfl ?_
      exact w_retz k100_20 (Or.inl rfl) ⟨rfl, Or.inr ⟨rfl, by omega⟩⟩
    · refine w_c1 (pc' := 16) k100_15 rfl ?_
      refine w_goto k100_16 ?_
      exact w_retz k100_20 (Or.inr rfl) ⟨rfl, Or.inl ⟨rfl, by omega⟩⟩
theorem m101 (hF : CF sh R I K H E HO S L B s g_s M_s A)  {n : Int} : BV X (d + 1) 101 [.inr (some 0), .inl n] (sh, R, I) (0 ≤ n ∧ n < HO) := by
  have hF0 := hF
  obtain ⟨hL, hK, hsp, h_s, m_s, n_s, hg, hM, hLS, hcs, hab, hB⟩ := hF
  show WP X (d + 1) 101 0 [.inr (some 0), .inl n] [] (sh, R, I) 0 0 _
  refine w_iload (pc' := 1) k101_0 rfl rfl ?_
  refine w_if_lt (pc' := 4) k101_1 rfl (fun c_1 => ?_) (fun c_1 => ?_)
  · refine w_c1 (pc' := 20) k101_19 rfl ?_
    exact w_retz k101_20 (Or.inl rfl) ⟨rfl, Or.inr ⟨rfl, by omega⟩⟩
  · refine w_iload (pc' := 5) k101_4 rfl rfl ?_
    refine w_aload (pc' := 6) k101_5 rfl rfl ?_
    refine w_getR (pc' := 9) (v := 3) k101_6 rfl (hL.1 0 (10, 12) rfl) (hL.2 0 1 3 rfl) ?_
    refine w_getI (pc' := 12) (ki := 3) (v := HO) k101_9 rfl (hL.1 3 (5, 14) rfl) rfl hsp.2.2.2.1 ?_
    refine w_ic_ge (pc' := 15) k101_12 rfl (fun c_12 => ?_) (fun c_12 => ?_)
    · refine w_c1 (pc' := 20) k101_19 rfl ?_
      exact w_retz k101_20 (Or.inl rfl) ⟨rfl, Or.inr ⟨rfl, by omega⟩⟩
    · refine w_c1 (pc' := 16) k101_15 rfl ?_
      refine w_goto k101_16 ?_
      exact w_retz k101_20 (Or.inr rfl) ⟨rfl, Or.inl ⟨rfl, by omega⟩⟩
theorem m103 (hF : CF sh R I K H E HO S L B s g_s M_s A)  {n : Int} : BV X (d + 1) 103 [.inr (some 0), .inl n] (sh, R, I) (0 ≤ n ∧ n < H * H) := by
  have hF0 := hF
  obtain ⟨hL, hK, hsp, h_s, m_s, n_s, hg, hM, hLS, hcs, hab, hB⟩ := hF
  show WP X (d + 1) 103 0 [.inr (some 0), .inl n] [] (sh, R, I) 0 0 _
  refine w_iload (pc' := 1) k103_0 rfl rfl ?_
  refine w_if_lt (pc' := 4) k103_1 rfl (fun c_1 => ?_) (fun c_1 => ?_)
  · refine w_c1 (pc' := 28) k103_27 rfl ?_
    exact w_retz k103_28 (Or.inl rfl) ⟨rfl, Or.inr ⟨rfl, by omega⟩⟩
  · refine w_iload (pc' := 5) k103_4 rfl rfl ?_
    refine w_aload (pc' := 6) k103_5 rfl rfl ?_
    refine w_getR (pc' := 9) (v := 3) k103_6 rfl (hL.1 0 (10, 12) rfl) (hL.2 0 1 3 rfl) ?_
    refine w_getI (pc' := 12) (ki := 1) (v := H) k103_9 rfl (hL.1 3 (5, 14) rfl) rfl hsp.2.1 ?_
    refine w_aload (pc' := 13) k103_12 rfl rfl ?_
    refine w_getR (pc' := 16) (v := 3) k103_13 rfl (hL.1 0 (10, 12) rfl) (hL.2 0 1 3 rfl) ?_
    refine w_getI (pc' := 19) (ki := 1) (v := H) k103_16 rfl (hL.1 3 (5, 14) rfl) rfl hsp.2.1 ?_
    refine w_imul (pc' := 20) k103_19 rfl (by first | omega | (rcases hK with ⟨rfl, rfl, rfl, rfl, rfl, rfl⟩ | ⟨rfl, rfl, rfl, rfl, rfl, rfl⟩ | ⟨rfl, rfl, rfl, rfl, rfl, rfl⟩ <;> omega)) ?_
    refine w_ic_ge (pc' := 23) k103_20 rfl (fun c_20 => ?_) (fun c_20 => ?_)
    · refine w_c1 (pc' := 28) k103_27 rfl ?_
      exact w_retz k103_28 (Or.inl rfl) ⟨rfl, Or.inr ⟨rfl, by omega⟩⟩
    · refine w_c1 (pc' := 24) k103_23 rfl ?_
      refine w_goto k103_24 ?_
      exact w_retz k103_28 (Or.inr rfl) ⟨rfl, Or.inl ⟨rfl, by omega⟩⟩
theorem m104 (hF : CF sh R I K H E HO S L B s g_s M_s A) (t7 : R 0 7 = some s) {n : Int} : BV X (d + 1) 104 [.inr (some 0), .inl n] (sh, R, I) (0 ≤ n ∧ n < aNf A) := by
  have hF0 := hF
  obtain ⟨hL, hK, hsp, h_s, m_s, n_s, hg, hM, hLS, hcs, hab, hB⟩ := hF
  show WP X (d + 1) 104 0 [.inr (some 0), .inl n] [] (sh, R, I) 0 0 _
  refine w_iload (pc' := 1) k104_0 rfl rfl ?_
  refine w_if_lt (pc' := 4) k104_1 rfl (fun c_1 => ?_) (fun c_1 => ?_)
  · refine w_c1 (pc' := 20) k104_19 rfl ?_
    exact w_retz k104_20 (Or.inl rfl) ⟨rfl, Or.inr ⟨rfl, by omega⟩⟩
  · refine w_iload (pc' := 5) k104_4 rfl rfl ?_
    refine w_aload (pc' := 6) k104_5 rfl rfl ?_
    refine w_getR (pc' := 9) (v := s) k104_6 rfl (hL.1 0 (10, 12) rfl) t7 ?_
    refine w_getI (pc' := 12) (ki := 5) (v := aNf A) k104_9 rfl (hL.s0 h_s) rfl hcs.1 ?_
    refine w_ic_ge (pc' := 15) k104_12 rfl (fun c_12 => ?_) (fun c_12 => ?_)
    · refine w_c1 (pc' := 20) k104_19 rfl ?_
      exact w_retz k104_20 (Or.inl rfl) ⟨rfl, Or.inr ⟨rfl, by omega⟩⟩
    · refine w_c1 (pc' := 16) k104_15 rfl ?_
      refine w_goto k104_16 ?_
      exact w_retz k104_20 (Or.inr rfl) ⟨rfl, Or.inl ⟨rfl, by omega⟩⟩
theorem m102 (hF : CF sh R I K H E HO S L B s g_s M_s A) {a b : Int} : BV X (d + 2) 102 [.inr (some 0), .inl a, .inl b] (sh, R, I) ((0 ≤ a ∧ a < HO) ∧ (0 ≤ b ∧ b < HO) ∧ a ≠ b) := by
  have hF0 := hF
  obtain ⟨hL, hK, hsp, h_s, m_s, n_s, hg, hM, hLS, hcs, hab, hB⟩ := hF
  show WP X (d + 2) 102 0 [.inr (some 0), .inl a, .inl b] [] (sh, R, I) 0 0 _
  refine w_aload (pc' := 1) k102_0 rfl rfl ?_
  refine w_iload (pc' := 2) k102_1 rfl rfl ?_
  refine w_callB (pc' := 5) (as := [.inr (some 0), .inl _]) k102_2 rfl rfl (co_v rfl rfl (hL.1 0 (10, 12) rfl)) (by decide) (m101 hF0) (fun q_2 => ?_) (fun q_2 => ?_)
  · refine w_if_eq (pc' := 8) k102_5 rfl (fun c_5 => absurd c_5 (by decide)) (fun _ => ?_)
    refine w_aload (pc' := 9) k102_8 rfl rfl ?_
    refine w_iload (pc' := 10) k102_9 rfl rfl ?_
    refine w_callB (pc' := 13) (as := [.inr (some 0), .inl _]) k102_10 rfl rfl (co_v rfl rfl (hL.1 0 (10, 12) rfl)) (by decide) (m101 hF0) (fun q_10 => ?_) (fun q_10 => ?_)
    · refine w_if_eq (pc' := 16) k102_13 rfl (fun c_13 => absurd c_13 (by decide)) (fun _ => ?_)
      refine w_iload (pc' := 17) k102_16 rfl rfl ?_
      refine w_iload (pc' := 18) k102_17 rfl rfl ?_
      refine w_ic_eq (pc' := 21) k102_18 rfl (fun c_18 => ?_) (fun c_18 => ?_)
      · refine w_c1 (pc' := 26) k102_25 rfl ?_
        exact w_retz k102_26 (Or.inl rfl) ⟨rfl, Or.inr ⟨rfl, by omega⟩⟩
      · refine w_c1 (pc' := 22) k102_21 rfl ?_
        refine w_goto k102_22 ?_
        exact w_retz k102_26 (Or.inr rfl) ⟨rfl, Or.inl ⟨rfl, by omega⟩⟩
    · refine w_if_eq (pc' := 16) k102_13 rfl (fun _ => ?_) (fun c_13 => absurd c_13 (by decide))
      refine w_c1 (pc' := 26) k102_25 rfl ?_
      exact w_retz k102_26 (Or.inl rfl) ⟨rfl, Or.inr ⟨rfl, by omega⟩⟩
  · refine w_if_eq (pc' := 8) k102_5 rfl (fun _ => ?_) (fun c_5 => absurd c_5 (by decide))
    refine w_c1 (pc' := 26) k102_25 rfl ?_
    exact w_retz k102_26 (Or.inl rfl) ⟨rfl, Or.inr ⟨rfl, by omega⟩⟩
theorem m110 (hF : CF sh R I K H E HO S L B s g_s M_s A) {n l : Int} (hl : 0 ≤ l ∧ l < L) : BV X (d + 1) 110 [.inr (some 0), .inl n, .inl l] (sh, R, I) (l / H = n ∨ upS H E l = n) := by
  have hF0 := hF
  obtain ⟨hL, hK, hsp, h_s, m_s, n_s, hg, hM, hLS, hcs, hab, hB⟩ := hF
  show WP X (d + 1) 110 0 [.inr (some 0), .inl n, .inl l] [] (sh, R, I) 0 0 _
  refine w_aload (pc' := 1) k110_0 rfl rfl ?_
  refine w_getR (pc' := 4) (v := 3) k110_1 rfl (hL.1 0 (10, 12) rfl) (hL.2 0 1 3 rfl) ?_
  refine w_getR (pc' := 7) (v := 8) k110_4 rfl (hL.1 3 (5, 14) rfl) (hL.2 3 10 8 rfl) ?_
  refine w_iload (pc' := 8) k110_7 rfl rfl ?_
  refine w_iald (pc' := 9) (v := l / H) k110_8 rfl (hL.1 8 (0, 108) rfl) (by first | omega | (rcases hK with ⟨rfl, rfl, rfl, rfl, rfl, rfl⟩ | ⟨rfl, rfl, rfl, rfl, rfl, rfl⟩ | ⟨rfl, rfl, rfl, rfl, rfl, rfl⟩ <;> omega)) (hsp.2.2.2.2.2.2.2.1 l hl.1 hl.2).1 ?_
  refine w_iload (pc' := 10) k110_9 rfl rfl ?_
  refine w_ic_eq (pc' := 13) k110_10 rfl (fun c_10 => ?_) (fun c_10 => ?_)
  · refine w_c1 (pc' := 27) k110_26 rfl ?_
    refine w_goto k110_27 ?_
    exact w_retz k110_31 (Or.inr rfl) ⟨rfl, Or.inl ⟨rfl, by omega⟩⟩
  · refine w_aload (pc' := 14) k110_13 rfl rfl ?_
    refine w_getR (pc' := 17) (v := 3) k110_14 rfl (hL.1 0 (10, 12) rfl) (hL.2 0 1 3 rfl) ?_
    refine w_getR (pc' := 20) (v := 9) k110_17 rfl (hL.1 3 (5, 14) rfl) (hL.2 3 11 9 rfl) ?_
    refine w_iload (pc' := 21) k110_20 rfl rfl ?_
    refine w_iald (pc' := 22) (v := upS H E l) k110_21 rfl (hL.1 9 (0, 108) rfl) (by first | omega | (rcases hK with ⟨rfl, rfl, rfl, rfl, rfl, rfl⟩ | ⟨rfl, rfl, rfl, rfl, rfl, rfl⟩ | ⟨rfl, rfl, rfl, rfl, rfl, rfl⟩ <;> omega)) (hsp.2.2.2.2.2.2.2.1 l hl.1 hl.2).2 ?_
    refine w_iload (pc' := 23) k110_22 rfl rfl ?_
    refine w_ic_ne (pc' := 26) k110_23 rfl (fun c_23 => ?_) (fun c_23 => ?_)
    · refine w_c1 (pc' := 31) k110_30 rfl ?_
      exact w_retz k110_31 (Or.inl rfl) ⟨rfl, Or.inr ⟨rfl, by omega⟩⟩
    · refine w_c1 (pc' := 27) k110_26 rfl ?_
      refine w_goto k110_27 ?_
      exact w_retz k110_31 (Or.inr rfl) ⟨rfl, Or.inl ⟨rfl, by omega⟩⟩
theorem m64 (hF : CF sh R I K H E HO S L B s g_s M_s A) {l w : Int} (hl : 0 ≤ l ∧ l < L) : BV X (d + 2) 64 [.inr (some 17), .inr (some s), .inl l, .inl w] (sh, R, I) (l ≠ w ∧ ev (aAg A l) = true) := by
  have hF0 := hF
  obtain ⟨hL, hK, hsp, h_s, m_s, n_s, hg, hM, hLS, hcs, hab, hB⟩ := hF
  show WP X (d + 2) 64 0 [.inr (some 17), .inr (some s), .inl l, .inl w] [] (sh, R, I) 0 0 _
  refine w_iload (pc' := 1) k64_0 rfl rfl ?_
  refine w_iload (pc' := 2) k64_1 rfl rfl ?_
  refine w_ic_eq (pc' := 5) k64_2 rfl (fun c_2 => ?_) (fun c_2 => ?_)
  · refine w_c1 (pc' := 18) k64_17 rfl ?_
    exact w_retz k64_18 (Or.inl rfl) ⟨rfl, Or.inr ⟨rfl, fun z => by first | exact q_7 z.2 | exact z.1 c_2⟩⟩
  · refine w_aload (pc' := 6) k64_5 rfl rfl ?_
    refine w_iload (pc' := 7) k64_6 rfl rfl ?_
    refine w_callB (pc' := 10) (as := [.inr (some s), .inl _]) k64_7 rfl rfl (co_v rfl rfl (hL.s0 h_s)) (by decide) (m49 hF0 hl) (fun q_7 => ?_) (fun q_7 => ?_)
    · refine w_if_eq (pc' := 13) k64_10 rfl (fun c_10 => absurd c_10 (by decide)) (fun _ => ?_)
      refine w_c1 (pc' := 14) k64_13 rfl ?_
      refine w_goto k64_14 ?_
      exact w_retz k64_18 (Or.inr rfl) ⟨rfl, Or.inl ⟨rfl, ⟨c_2, q_7⟩⟩⟩
    · refine w_if_eq (pc' := 13) k64_10 rfl (fun _ => ?_) (fun c_10 => absurd c_10 (by decide))
      refine w_c1 (pc' := 18) k64_17 rfl ?_
      exact w_retz k64_18 (Or.inl rfl) ⟨rfl, Or.inr ⟨rfl, fun z => by first | exact q_7 z.2 | exact z.1 c_2⟩⟩
theorem m65 (hF : CF sh R I K H E HO S L B s g_s M_s A) {a b : Int} : RV X (d + 1) 65 [.inr (some 17), .inl a, .inl b] (sh, R, I) (H * (if a = b then H - 1 else H)) := by
  have hF0 := hF
  obtain ⟨hL, hK, hsp, h_s, m_s, n_s, hg, hM, hLS, hcs, hab, hB⟩ := hF
  show WP X (d + 1) 65 0 [.inr (some 17), .inl a, .inl b] [] (sh, R, I) 0 0 _
  refine w_aload (pc' := 1) k65_0 rfl rfl ?_
  refine w_getR (pc' := 4) (v := 3) k65_1 rfl (hL.1 17 (9, 3) rfl) (hL.2 17 0 3 rfl) ?_
  refine w_getI (pc' := 7) (ki := 1) (v := H) k65_4 rfl (hL.1 3 (5, 14) rfl) rfl hsp.2.1 ?_
  refine w_iload (pc' := 8) k65_7 rfl rfl ?_
  refine w_iload (pc' := 9) k65_8 rfl rfl ?_
  refine w_ic_ne (pc' := 12) k65_9 rfl (fun c_9 => ?_) (fun c_9 => ?_)
  · refine w_aload (pc' := 25) k65_24 rfl rfl ?_
    refine w_getR (pc' := 28) (v := 3) k65_25 rfl (hL.1 17 (9, 3) rfl) (hL.2 17 0 3 rfl) ?_
    refine w_getI (pc' := 31) (ki := 1) (v := H) k65_28 rfl (hL.1 3 (5, 14) rfl) rfl hsp.2.1 ?_
    refine w_imul (pc' := 32) k65_31 rfl (by first | omega | (rcases hK with ⟨rfl, rfl, rfl, rfl, rfl, rfl⟩ | ⟨rfl, rfl, rfl, rfl, rfl, rfl⟩ | ⟨rfl, rfl, rfl, rfl, rfl, rfl⟩ <;> omega)) ?_
    exact w_reti k65_32 ⟨by first | rw [if_pos c_9] | rw [if_neg c_9], rfl⟩
  · refine w_aload (pc' := 13) k65_12 rfl rfl ?_
    refine w_getR (pc' := 16) (v := 3) k65_13 rfl (hL.1 17 (9, 3) rfl) (hL.2 17 0 3 rfl) ?_
    refine w_getI (pc' := 19) (ki := 1) (v := H) k65_16 rfl (hL.1 3 (5, 14) rfl) rfl hsp.2.1 ?_
    refine w_c1 (pc' := 20) k65_19 rfl ?_
    refine w_isub (pc' := 21) k65_20 rfl (by first | omega | (rcases hK with ⟨rfl, rfl, rfl, rfl, rfl, rfl⟩ | ⟨rfl, rfl, rfl, rfl, rfl, rfl⟩ | ⟨rfl, rfl, rfl, rfl, rfl, rfl⟩ <;> omega)) ?_
    refine w_goto k65_21 ?_
    refine w_imul (pc' := 32) k65_31 rfl (by first | omega | (rcases hK with ⟨rfl, rfl, rfl, rfl, rfl, rfl⟩ | ⟨rfl, rfl, rfl, rfl, rfl, rfl⟩ | ⟨rfl, rfl, rfl, rfl, rfl, rfl⟩ <;> omega)) ?_
    exact w_reti k65_32 ⟨by first | rw [if_pos c_9] | rw [if_neg c_9], rfl⟩
end C20
