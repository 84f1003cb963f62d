/-! ===== CLASS: State, changes ===== -/
section C36
variable {X : Nat × (Int → Int)} {d : Nat} {sh : List (Nat × Nat)} {R : Nat → Nat → Option Nat} {I : Nat → Int → Int} {s g_s M_s : Nat} {K H E HO S L B : Int} {A : AS}
/-- only a State's own cells may have changed -/
def OnlyS (I I' : Nat → Int → Int) (s g : Nat) : Prop := ∀ a, (a < s ∨ s + 5 < a) → a ≠ g → I' a = I a
theorem m53 (hF : CF sh R I K H E HO S L B s g_s M_s A) {l : Int} (hl : 0 ≤ l ∧ l < L) : WPM X (d + 1) 53 [.inr (some s), .inl l, .inl (l / H), .inl (upS H E l)] (sh, R, I) 0 0 (fun _ h' => ∃ I', h' = (sh, R, I') ∧ OnlyS I I' s g_s ∧ CS I' s g_s S L (turnA H E A l)) := by
  have hF0 := hF
  obtain ⟨hL, hK, hsp, h_s, m_s, n_s, hg, hM, hLS, hcs, hab, hB⟩ := hF
  have hr := hK.r
  have hu := up_ne hK hl
  have hx1 := ix_r hK hl hu.2.1
  have hx2 := ix_r hK hl hu.2.2
  have ha := hab.1 l hl.1 hl.2
  have hsg : s + 1 ≠ g_s ∧ s ≠ g_s ∧ s + 2 ≠ g_s ∧ s + 3 ≠ g_s ∧ s + 4 ≠ g_s ∧ s + 5 ≠ g_s := by rcases h_s with rfl | rfl | rfl | rfl <;> omega
  show WP X (d + 1) 53 0 [.inr (some s), .inl l, .inl (l / H), .inl (upS H E l)] [] (sh, R, I) 0 0 _
  refine w_aload (pc' := 1) k53_0 rfl rfl ?_
  refine w_getR (pc' := 4) (v := (s + 1)) k53_1 rfl (hL.s0 h_s) (hL.r0 h_s) ?_
  refine w_iload (pc' := 5) k53_4 rfl rfl ?_
  refine w_dup2 (pc' := 6) k53_5 rfl ?_
  refine w_iald (pc' := 7) (v := aAg A l) k53_6 rfl (hL.s1 h_s) (by omega) (hcs.2.2.2.1 l hl.1 hl.2) ?_
  refine w_c1 (pc' := 8) k53_7 rfl ?_
  refine w_iadd (pc' := 9) k53_8 rfl (by omega) ?_
  refine w_iast (pc' := 10) k53_9 rfl (hL.s1 h_s) (by omega) ?_
  refine w_aload (pc' := 11) k53_10 rfl rfl ?_
  refine w_getR (pc' := 14) (v := g_s) k53_11 rfl (hL.s0 h_s) m_s ?_
  refine w_iload (pc' := 15) k53_14 rfl rfl ?_
  refine w_aload (pc' := 16) k53_15 rfl rfl ?_
  refine w_getI (pc' := 19) (ki := 8) (v := S) k53_16 rfl (hL.s0 h_s) rfl (by rw [upA_n (by omega)]; exact hcs.2.2.1) ?_
  refine w_imul (pc' := 20) k53_19 rfl (by omega) ?_
  refine w_iload (pc' := 21) k53_20 rfl rfl ?_
  refine w_iadd (pc' := 22) k53_21 rfl (by omega) ?_
  refine w_aload (pc' := 23) k53_22 rfl rfl ?_
  refine w_getR (pc' := 26) (v := (s + 1)) k53_23 rfl (hL.s0 h_s) (hL.r0 h_s) ?_
  refine w_iload (pc' := 27) k53_26 rfl rfl ?_
  refine w_iald (pc' := 28) (v := aAg A l + 1) k53_27 rfl (hL.s1 h_s) (by omega) (by rw [upA_s, upF_s]) ?_
  refine w_iast (pc' := 29) k53_28 rfl n_s (by omega) ?_
  refine w_aload (pc' := 30) k53_29 rfl rfl ?_
  refine w_getR (pc' := 33) (v := g_s) k53_30 rfl (hL.s0 h_s) m_s ?_
  refine w_iload (pc' := 34) k53_33 rfl rfl ?_
  refine w_aload (pc' := 35) k53_34 rfl rfl ?_
  refine w_getI (pc' := 38) (ki := 8) (v := S) k53_35 rfl (hL.s0 h_s) rfl (by rw [upA_n (by omega), upA_n (by omega)]; exact hcs.2.2.1) ?_
  refine w_imul (pc' := 39) k53_38 rfl (by omega) ?_
  refine w_iload (pc' := 40) k53_39 rfl rfl ?_
  refine w_iadd (pc' := 41) k53_40 rfl (by omega) ?_
  refine w_aload (pc' := 42) k53_41 rfl rfl ?_
  refine w_getR (pc' := 45) (v := (s + 1)) k53_42 rfl (hL.s0 h_s) (hL.r0 h_s) ?_
  refine w_iload (pc' := 46) k53_45 rfl rfl ?_
  refine w_iald (pc' := 47) (v := aAg A l + 1) k53_46 rfl (hL.s1 h_s) (by omega) (by rw [upA_n hsg.1, upA_s, upF_s]) ?_
  refine w_iast (pc' := 48) k53_47 rfl n_s (by omega) ?_
  refine w_retv k53_48 ⟨_, rfl, fun a h1 h2 => by rw [upA_n h2, upA_n h2, upA_n (by omega)], ?_, ?_, ?_, fun k h1 h2 => ?_, fun n k h1 h2 h3 h4 => ?_, fun f h1 h2 => ?_⟩
  · rw [upA_n hsg.2.1, upA_n hsg.2.1, upA_n (by omega)]; exact hcs.1
  · rw [upA_n hsg.2.1, upA_n hsg.2.1, upA_n (by omega)]; exact hcs.2.1
  · rw [upA_n hsg.2.1, upA_n hsg.2.1, upA_n (by omega)]; exact hcs.2.2.1
  · rw [upA_n hsg.1, upA_n hsg.1, upA_s]
    show upF (I (s + 1)) l (aAg A l + 1) k = upF (aAg A) l (aAg A l + 1) k
    by_cases e9 : k = l
    · subst e9; rw [upF_s, upF_s]
    · rw [upF_n e9, upF_n e9]; exact hcs.2.2.2.1 k h1 h2
  · rw [upA_s, upA_s, upA_n (Ne.symm hsg.1)]
    show _ = if k = l ∧ (n = l / H ∨ n = upS H E l) then aAg A l + 1 else aMk A n k
    by_cases e1 : k * S + n = l * S + upS H E l
    · have e2 := ix_inj hK ⟨h1, h2⟩ hu.2.2 e1
      rw [e1, upF_s, if_pos ⟨e2.1, Or.inr e2.2⟩]
    · rw [upF_n e1]
      by_cases e3 : k * S + n = l * S + l / H
      · have e2 := ix_inj hK ⟨h1, h2⟩ hu.2.1 e3
        rw [e3, upF_s, if_pos ⟨e2.1, Or.inl e2.2⟩]
      · rw [upF_n e3, if_neg (by rintro ⟨rfl, rfl | rfl⟩; exact e3 rfl; exact e1 rfl)]; exact hcs.2.2.2.2.1 n k h1 h2 h3 h4
  · rw [upA_n hsg.2.2.1, upA_n hsg.2.2.1, upA_n (by omega), upA_n hsg.2.2.2.1, upA_n hsg.2.2.2.1, upA_n (by omega), upA_n hsg.2.2.2.2.1, upA_n hsg.2.2.2.2.1, upA_n (by omega), upA_n hsg.2.2.2.2.2, upA_n hsg.2.2.2.2.2, upA_n (by omega)]
    exact hcs.2.2.2.2.2 f h1 h2
theorem m47 (hL : LC sh R) (h_s : isS s) : WPM X (d + 2) 47 [.inr (some s)] (sh, R, I) 0 0 (fun _ h' => ∃ I', h' = (sh, R, I') ∧ (∀ a, a ≠ s → a ≠ s + 1 → I' a = I a) ∧ (∀ j : Int, 0 ≤ j → j < 108 → I' (s + 1) j = 0) ∧ I' s = upF (I s) 5 0) := by
  show WP X (d + 2) 47 0 [.inr (some s)] [] (sh, R, I) 0 0 _
  refine w_aload (pc' := 1) k47_0 rfl rfl ?_
  refine w_getR (pc' := 4) (v := (s + 1)) k47_1 rfl (hL.s0 h_s) (hL.r0 h_s) ?_
  refine w_c1 (pc' := 5) k47_4 rfl ?_
  refine w_callV (pc' := 8) (as := [.inr (some (s + 1)), .inl _]) k47_5 rfl rfl (co_s (Or.inl rfl) rfl rfl rfl) (by decide) (m189 (hL.s1 h_s) (by decide)) (fun r_5 h_5 hq => ?_)
  obtain ⟨I1, rfl, f1, f2⟩ := hq
  refine w_aload (pc' := 9) k47_8 rfl rfl ?_
  refine w_c1 (pc' := 10) k47_9 rfl ?_
  refine w_putI (pc' := 13) (ki := 5) k47_10 rfl (hL.s0 h_s) rfl ?_
  exact w_retv k47_13 ⟨_, rfl, fun a h1 h2 => by rw [upA_n h1]; exact f1 a h2, fun j h1 h2 => by rw [upA_n (by omega)]; exact f2 j h1 h2, by rw [upA_s, f1 s (by omega)]⟩
theorem m56 (hL : LC sh R) (h_s : isS s) {n a b z : Int} (hn : I s 5 = n) (hn0 : 0 ≤ n) : WPM X (d + 1) 56 [.inr (some s), .inl a, .inl b, .inl z] (sh, R, I) 0 0 (fun r h' => (16 ≤ n ∧ r = .inl 0 ∧ h' = (sh, R, I)) ∨ (n < 16 ∧ r = .inl 1 ∧ ∃ I', h' = (sh, R, I') ∧ (∀ x, x ≠ s → (x < s + 2 ∨ s + 5 < x) → I' x = I x) ∧ I' s = upF (I s) 5 (n + 1) ∧ I' (s + 2) = upF (I (s + 2)) n a ∧ I' (s + 3) = upF (I (s + 3)) n b ∧ I' (s + 4) = upF (I (s + 4)) n z ∧ I' (s + 5) = upF (I (s + 5)) n 0)) := by
  show WP X (d + 1) 56 0 [.inr (some s), .inl a, .inl b, .inl z] [] (sh, R, I) 0 0 _
  refine w_aload (pc' := 1) k56_0 rfl rfl ?_
  refine w_getI (pc' := 4) (ki := 5) (v := n) k56_1 rfl (hL.s0 h_s) rfl (by exact hn) ?_
  refine w_c2 (pc' := 6) k56_4 rfl ?_
  refine w_ic_lt (pc' := 9) k56_6 rfl (fun c_6 => ?_) (fun c_6 => ?_)
  · refine w_aload (pc' := 12) k56_11 rfl rfl ?_
    refine w_getR (pc' := 15) (v := (s + 2)) k56_12 rfl (hL.s0 h_s) (hL.r1 h_s) ?_
    refine w_aload (pc' := 16) k56_15 rfl rfl ?_
    refine w_getI (pc' := 19) (ki := 5) (v := n) k56_16 rfl (hL.s0 h_s) rfl (by exact hn) ?_
    refine w_iload (pc' := 20) k56_19 rfl rfl ?_
    refine w_iast (pc' := 21) k56_20 rfl (hL.s2 h_s) (by omega) ?_
    refine w_aload (pc' := 22) k56_21 rfl rfl ?_
    refine w_getR (pc' := 25) (v := (s + 3)) k56_22 rfl (hL.s0 h_s) (hL.r2 h_s) ?_
    refine w_aload (pc' := 26) k56_25 rfl rfl ?_
    refine w_getI (pc' := 29) (ki := 5) (v := n) k56_26 rfl (hL.s0 h_s) rfl (by rw [upA_n (by omega)]; exact hn) ?_
    refine w_iload (pc' := 30) k56_29 rfl rfl ?_
    refine w_iast (pc' := 31) k56_30 rfl (hL.s3 h_s) (by omega) ?_
    refine w_aload (pc' := 32) k56_31 rfl rfl ?_
    refine w_getR (pc' := 35) (v := (s + 4)) k56_32 rfl (hL.s0 h_s) (hL.r3 h_s) ?_
    refine w_aload (pc' := 36) k56_35 rfl rfl ?_
    refine w_getI (pc' := 39) (ki := 5) (v := n) k56_36 rfl (hL.s0 h_s) rfl (by rw [upA_n (by omega), upA_n (by omega)]; exact hn) ?_
    refine w_iload (pc' := 40) k56_39 rfl rfl ?_
    refine w_iast (pc' := 41) k56_40 rfl (hL.s4 h_s) (by omega) ?_
    refine w_aload (pc' := 42) k56_41 rfl rfl ?_
    refine w_getR (pc' := 45) (v := (s + 5)) k56_42 rfl (hL.s0 h_s) (hL.r4 h_s) ?_
    refine w_aload (pc' := 46) k56_45 rfl rfl ?_
    refine w_getI (pc' := 49) (ki := 5) (v := n) k56_46 rfl (hL.s0 h_s) rfl (by rw [upA_n (by omega), upA_n (by omega), upA_n (by omega)]; exact hn) ?_
    refine w_c1 (pc' := 50) k56_49 rfl ?_
    refine w_iast (pc' := 51) k56_50 rfl (hL.s5 h_s) (by omega) ?_
    refine w_aload (pc' := 52) k56_51 rfl rfl ?_
    refine w_dup (pc' := 53) k56_52 rfl ?_
    refine w_getI (pc' := 56) (ki := 5) (v := n) k56_53 rfl (hL.s0 h_s) rfl (by rw [upA_n (by omega), upA_n (by omega), upA_n (by omega), upA_n (by omega)]; exact hn) ?_
    refine w_c1 (pc' := 57) k56_56 rfl ?_
    refine w_iadd (pc' := 58) k56_57 rfl (by omega) ?_
    refine w_putI (pc' := 61) (ki := 5) k56_58 rfl (hL.s0 h_s) rfl ?_
    refine w_c1 (pc' := 62) k56_61 rfl ?_
    exact w_retz k56_62 (Or.inr rfl) (Or.inr ⟨c_6, rfl, _, rfl, fun x h1 h2 => by rw [upA_n h1, upA_n (by omega), upA_n (by omega), upA_n (by omega), upA_n (by omega)], by rw [upA_s, upA_n (by omega), upA_n (by omega), upA_n (by omega), upA_n (by omega)], by rw [upA_n (by omega), upA_n (by omega), upA_n (by omega), upA_n (by omega), upA_s], by rw [upA_n (by omega), upA_n (by omega), upA_n (by omega), upA_s, upA_n (by omega)], by rw [upA_n (by omega), upA_n (by omega), upA_s, upA_n (by omega), upA_n (by omega)], by rw [upA_n (by omega), upA_s, upA_n (by omega), upA_n (by omega), upA_n (by omega)]⟩)
  · refine w_c1 (pc' := 10) k56_9 rfl ?_
    exact w_retz k56_10 (Or.inl rfl) (Or.inl ⟨c_6, rfl, rfl⟩)
theorem add_CS (hF : CF sh R I K H E HO S L B s g_s M_s A) {a b z : Int} {I' : Nat → Int → Int} (h1 : ∀ x, x ≠ s → (x < s + 2 ∨ s + 5 < x) → I' x = I x) (h2 : I' s = upF (I s) 5 (aNf A + 1)) (h3 : I' (s + 2) = upF (I (s + 2)) (aNf A) a) (h4 : I' (s + 3) = upF (I (s + 3)) (aNf A) b) (h5 : I' (s + 4) = upF (I (s + 4)) (aNf A) z) (h6 : I' (s + 5) = upF (I (s + 5)) (aNf A) 0) : CS I' s g_s S L (addA A a b z) := by
  have hF0 := hF
  obtain ⟨hL, hK, hsp, h_s, m_s, n_s, hg, hM, hLS, hcs, hab, hB⟩ := hF
  have hsg : s + 5 < g_s := by rcases h_s with rfl | rfl | rfl | rfl <;> omega
  refine ⟨by rw [h2, upF_s]; rfl, by rw [h2, upF_n (by decide)]; exact hcs.2.1, by rw [h2, upF_n (by decide)]; exact hcs.2.2.1, fun l q1 q2 => by rw [h1 _ (by omega) (by omega)]; exact hcs.2.2.2.1 l q1 q2, fun n l q1 q2 q3 q4 => by rw [h1 _ (by omega) (by omega)]; exact hcs.2.2.2.2.1 n l q1 q2 q3 q4, fun f q1 q2 => ?_⟩
  have q2 : f < aNf A + 1 := q2
  rw [h3, h4, h5, h6]
  show upF (I (s + 2)) (aNf A) a f = upF (aFr A) (aNf A) a f ∧ upF (I (s + 3)) (aNf A) b f = upF (aTo A) (aNf A) b f ∧ upF (I (s + 4)) (aNf A) z f = upF (aSz A) (aNf A) z f ∧ upF (I (s + 5)) (aNf A) 0 f = upF (aSh A) (aNf A) 0 f
  by_cases e : f = aNf A
  · rw [e]; simp only [upF_s]; trivial
  · rw [upF_n e, upF_n e, upF_n e, upF_n e, upF_n e, upF_n e, upF_n e, upF_n e]; exact hcs.2.2.2.2.2 f q1 (by omega)
theorem m57l (hF : CF sh R I K H E HO S L B s g_s M_s A) {f : Int} (hf : 0 ≤ f ∧ f < aNf A) : ∀ (k : Nat) (i : Int) (I1 : Nat → Int → Int), i + k = aNf A → f + 1 ≤ i → (∀ x, (x < s + 2 ∨ s + 5 < x) → I1 x = I x) → (∀ j, 0 ≤ j → j < 16 → (I1 (s + 2) j = (if f ≤ j ∧ j + 1 < i then I (s + 2) (j + 1) else I (s + 2) j)) ∧ (I1 (s + 3) j = (if f ≤ j ∧ j + 1 < i then I (s + 3) (j + 1) else I (s + 3) j)) ∧ (I1 (s + 4) j = (if f ≤ j ∧ j + 1 < i then I (s + 4) (j + 1) else I (s + 4) j)) ∧ (I1 (s + 5) j = (if f ≤ j ∧ j + 1 < i then I (s + 5) (j + 1) else I (s + 5) j))) → WP X (d + 1) 57 4 [.inr (some s), .inl f, .inl i] [] (sh, R, I1) 0 0 (fun _ h' => ∃ I', h' = (sh, R, I') ∧ OnlyS I I' s g_s ∧ CS I' s g_s S L (dropA A f)) := by
  have hF0 := hF
  obtain ⟨hL, hK, hsp, h_s, m_s, n_s, hg, hM, hLS, hcs, hab, hB⟩ := hF
  have h16 := hab.2.2.1
  have hsg : s + 5 < g_s := by rcases h_s with rfl | rfl | rfl | rfl <;> omega
  intro k
  induction k with
  | zero =>
    rintro i I1 hk hi h1 h2
    have h5 : I1 s 5 = aNf A := by rw [h1 s (by omega)]; exact hcs.1
    have e9 : i = aNf A := by omega
    subst e9
    refine w_iload (pc' := 5) k57_4 rfl rfl ?_
    refine w_aload (pc' := 6) k57_5 rfl rfl ?_
    refine w_getI (pc' := 9) (ki := 5) (v := aNf A) k57_6 rfl (hL.s0 h_s) rfl h5 ?_
    refine w_ic_ge (pc' := 12) k57_9 rfl (fun c_9 => ?_) (fun c_9 => absurd c_9 (by omega))
    refine w_aload (pc' := 75) k57_74 rfl rfl ?_
    refine w_dup (pc' := 76) k57_75 rfl ?_
    refine w_getI (pc' := 79) (ki := 5) (v := aNf A) k57_76 rfl (hL.s0 h_s) rfl h5 ?_
    refine w_c1 (pc' := 80) k57_79 rfl ?_
    refine w_isub (pc' := 81) k57_80 rfl (by omega) ?_
    refine w_putI (pc' := 84) (ki := 5) k57_81 rfl (hL.s0 h_s) rfl ?_
    refine w_retv k57_84 ⟨_, rfl, fun a h3 h4 => by rw [upA_n (by omega)]; exact h1 a (by omega), by rw [upA_s, upF_s]; rfl, by rw [upA_s, upF_n (by decide), h1 s (by omega)]; exact hcs.2.1, by rw [upA_s, upF_n (by decide), h1 s (by omega)]; exact hcs.2.2.1, fun l q1 q2 => by rw [upA_n (by omega), h1 _ (by omega)]; exact hcs.2.2.2.1 l q1 q2, fun n l q1 q2 q3 q4 => by rw [upA_n (by omega), h1 _ (by omega)]; exact hcs.2.2.2.2.1 n l q1 q2 q3 q4, fun j q1 q2 => ?_⟩
    have q2 : j < aNf A - 1 := q2
    have h3 := h2 j q1 (by omega)
    rw [upA_n (by omega), upA_n (by omega), upA_n (by omega), upA_n (by omega), h3.1, h3.2.1, h3.2.2.1, h3.2.2.2]
    show _ = dnF (aFr A) f j ∧ _ = dnF (aTo A) f j ∧ _ = dnF (aSz A) f j ∧ _ = dnF (aSh A) f j
    unfold dnF
    by_cases e : j < f
    · simp only [if_neg (show ¬ (f ≤ j ∧ j + 1 < aNf A) by omega), if_pos e]; exact hcs.2.2.2.2.2 j q1 (by omega)
    · simp only [if_pos (show f ≤ j ∧ j + 1 < aNf A by omega), if_neg e]; exact hcs.2.2.2.2.2 (j + 1) (by omega) (by omega)
  | succ k ih =>
    rintro i I1 hk hi h1 h2
    have h5 : I1 s 5 = aNf A := by rw [h1 s (by omega)]; exact hcs.1
    have h2i := h2 i (by omega) (by omega)
    rw [if_neg (by omega), if_neg (by omega), if_neg (by omega), if_neg (by omega)] at h2i
    refine w_iload (pc' := 5) k57_4 rfl rfl ?_
    refine w_aload (pc' := 6) k57_5 rfl rfl ?_
    refine w_getI (pc' := 9) (ki := 5) (v := aNf A) k57_6 rfl (hL.s0 h_s) rfl h5 ?_
    refine w_ic_ge (pc' := 12) k57_9 rfl (fun c_9 => absurd c_9 (by omega)) (fun c_9 => ?_)
    refine w_aload (pc' := 13) k57_12 rfl rfl ?_
    refine w_getR (pc' := 16) (v := (s + 2)) k57_13 rfl (hL.s0 h_s) (hL.r1 h_s) ?_
    refine w_iload (pc' := 17) k57_16 rfl rfl ?_
    refine w_c1 (pc' := 18) k57_17 rfl ?_
    refine w_isub (pc' := 19) k57_18 rfl (by omega) ?_
    refine w_aload (pc' := 20) k57_19 rfl rfl ?_
    refine w_getR (pc' := 23) (v := (s + 2)) k57_20 rfl (hL.s0 h_s) (hL.r1 h_s) ?_
    refine w_iload (pc' := 24) k57_23 rfl rfl ?_
    refine w_iald (pc' := 25) (v := I (s + 2) i) k57_24 rfl (hL.s2 h_s) (by omega) (by exact h2i.1) ?_
    refine w_iast (pc' := 26) k57_25 rfl (hL.s2 h_s) (by omega) ?_
    refine w_aload (pc' := 27) k57_26 rfl rfl ?_
    refine w_getR (pc' := 30) (v := (s + 3)) k57_27 rfl (hL.s0 h_s) (hL.r2 h_s) ?_
    refine w_iload (pc' := 31) k57_30 rfl rfl ?_
    refine w_c1 (pc' := 32) k57_31 rfl ?_
    refine w_isub (pc' := 33) k57_32 rfl (by omega) ?_
    refine w_aload (pc' := 34) k57_33 rfl rfl ?_
    refine w_getR (pc' := 37) (v := (s + 3)) k57_34 rfl (hL.s0 h_s) (hL.r2 h_s) ?_
    refine w_iload (pc' := 38) k57_37 rfl rfl ?_
    refine w_iald (pc' := 39) (v := I (s + 3) i) k57_38 rfl (hL.s3 h_s) (by omega) (by rw [upA_n (by omega)]; exact h2i.2.1) ?_
    refine w_iast (pc' := 40) k57_39 rfl (hL.s3 h_s) (by omega) ?_
    refine w_aload (pc' := 41) k57_40 rfl rfl ?_
    refine w_getR (pc' := 44) (v := (s + 4)) k57_41 rfl (hL.s0 h_s) (hL.r3 h_s) ?_
    refine w_iload (pc' := 45) k57_44 rfl rfl ?_
    refine w_c1 (pc' := 46) k57_45 rfl ?_
    refine w_isub (pc' := 47) k57_46 rfl (by omega) ?_
    refine w_aload (pc' := 48) k57_47 rfl rfl ?_
    refine w_getR (pc' := 51) (v := (s + 4)) k57_48 rfl (hL.s0 h_s) (hL.r3 h_s) ?_
    refine w_iload (pc' := 52) k57_51 rfl rfl ?_
    refine w_iald (pc' := 53) (v := I (s + 4) i) k57_52 rfl (hL.s4 h_s) (by omega) (by rw [upA_n (by omega), upA_n (by omega)]; exact h2i.2.2.1) ?_
    refine w_iast (pc' := 54) k57_53 rfl (hL.s4 h_s) (by omega) ?_
    refine w_aload (pc' := 55) k57_54 rfl rfl ?_
    refine w_getR (pc' := 58) (v := (s + 5)) k57_55 rfl (hL.s0 h_s) (hL.r4 h_s) ?_
    refine w_iload (pc' := 59) k57_58 rfl rfl ?_
    refine w_c1 (pc' := 60) k57_59 rfl ?_
    refine w_isub (pc' := 61) k57_60 rfl (by omega) ?_
    refine w_aload (pc' := 62) k57_61 rfl rfl ?_
    refine w_getR (pc' := 65) (v := (s + 5)) k57_62 rfl (hL.s0 h_s) (hL.r4 h_s) ?_
    refine w_iload (pc' := 66) k57_65 rfl rfl ?_
    refine w_iald (pc' := 67) (v := I (s + 5) i) k57_66 rfl (hL.s5 h_s) (by omega) (by rw [upA_n (by omega), upA_n (by omega), upA_n (by omega)]; exact h2i.2.2.2) ?_
    refine w_iast (pc' := 68) k57_67 rfl (hL.s5 h_s) (by omega) ?_
    refine w_iinc (pc' := 71) (ls' := [_, _, _]) k57_68 rfl rfl (by omega) rfl ?_
    refine w_goto k57_71 ?_
    refine ih _ _ (by omega) (by omega) (fun x hx => by rw [upA_n (by omega), upA_n (by omega), upA_n (by omega), upA_n (by omega)]; exact h1 x hx) (fun j q1 q2 => ?_)
    have h3 := h2 j q1 q2
    rw [upA_n (a := s + 5) (b := s + 2) (by omega), upA_n (a := s + 4) (b := s + 2) (by omega), upA_n (a := s + 3) (b := s + 2) (by omega), upA_s, upA_n (a := s + 5) (b := s + 3) (by omega), upA_n (a := s + 4) (b := s + 3) (by omega), upA_s, upA_n (a := s + 2) (b := s + 3) (by omega), upA_n (a := s + 5) (b := s + 4) (by omega), upA_s, upA_n (a := s + 3) (b := s + 4) (by omega), upA_n (a := s + 2) (b := s + 4) (by omega), upA_s, upA_n (a := s + 4) (b := s + 5) (by omega), upA_n (a := s + 3) (b := s + 5) (by omega), upA_n (a := s + 2) (b := s + 5) (by omega)]
    by_cases e : j = i - 1
    · subst e
      rw [upF_s, upF_s, upF_s, upF_s, if_pos (by omega), if_pos (by omega), if_pos (by omega), if_pos (by omega), show i - 1 + 1 = i by omega]; exact ⟨rfl, rfl, rfl, rfl⟩
    · rw [upF_n e, upF_n e, upF_n e, upF_n e, h3.1, h3.2.1, h3.2.2.1, h3.2.2.2]
      by_cases e2 : f ≤ j ∧ j + 1 < i
      · rw [if_pos e2, if_pos e2, if_pos e2, if_pos e2, if_pos (by omega), if_pos (by omega), if_pos (by omega), if_pos (by omega)]; exact ⟨rfl, rfl, rfl, rfl⟩
      · rw [if_neg e2, if_neg e2, if_neg e2, if_neg e2, if_neg (by omega), if_neg (by omega), if_neg (by omega), if_neg (by omega)]; exact ⟨rfl, rfl, rfl, rfl⟩
theorem m57 (hF : CF sh R I K H E HO S L B s g_s M_s A) {f : Int} (hf : 0 ≤ f ∧ f < aNf A) : WPM X (d + 1) 57 [.inr (some s), .inl f] (sh, R, I) 0 0 (fun _ h' => ∃ I', h' = (sh, R, I') ∧ OnlyS I I' s g_s ∧ CS I' s g_s S L (dropA A f)) := by
  have hF0 := hF
  obtain ⟨hL, hK, hsp, h_s, m_s, n_s, hg, hM, hLS, hcs, hab, hB⟩ := hF
  have h16 := hab.2.2.1
  show WP X (d + 1) 57 0 [.inr (some s), .inl f, .inr none] [] (sh, R, I) 0 0 _
  refine w_iload (pc' := 1) k57_0 rfl rfl ?_
  refine w_c1 (pc' := 2) k57_1 rfl ?_
  refine w_iadd (pc' := 3) k57_2 rfl (by omega) ?_
  refine w_istore (pc' := 4) (ls' := [_, _, _]) k57_3 rfl rfl rfl ?_
  exact m57l hF0 hf (aNf A - f - 1).toNat _ _ (by omega) (by omega) (fun _ _ => rfl) (fun j _ _ => by rw [if_neg (by omega), if_neg (by omega), if_neg (by omega), if_neg (by omega)]; exact ⟨rfl, rfl, rfl, rfl⟩)
end C36
