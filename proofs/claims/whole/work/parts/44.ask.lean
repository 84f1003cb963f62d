/-! ===== CLASS: questions ===== -/
section C44
variable {X : Nat × (Int → Int)} {d : Nat} {sh : List (Nat × Nat)} {R : Nat → Nat → Option Nat} {I : Nat → Int → Int} {s g_s M_s : Nat} {K H E HO S L B : Int} {A : AS}
/-- a question: the answer, and nothing but scratch has changed -/
abbrev QQ (X : Nat × (Int → Int)) (d y : Nat) (as : List VV) (sh : List (Nat × Nat)) (R : Nat → Nat → Option Nat) (I : Nat → Int → Int) (v : Int) : Prop := WPM X d y as (sh, R, I) 0 0 (fun r h' => r = .inl v ∧ ∃ I', h' = (sh, R, I') ∧ ∀ a, a < 12 ∨ 24 < a → I' a = I a)
def lkP (H E : Int) (A : AS) (n w l : Int) : Bool := decide ((l / H = n ∨ upS H E l = n) ∧ (if ev (aAg A l) then (1 : Int) else 0) ≠ w)
def lkC (H E L : Int) (A : AS) (n w : Int) : Int := cnt (lkP H E A n w) L.toNat
def cuC (L : Int) (A : AS) : Int := cnt (fun l => !ev (aAg A l)) L.toNat
def laC (S L : Int) (A : AS) : Int := sumN (fun l => cnt (fun j => decide (aMk A j l ≠ aAg A l)) S.toNat) L.toNat
theorem bnE {b : Bool} (h : ¬ b = true) : (!b) = true := by cases b <;> simp at h ⊢
theorem bnF {b : Bool} (h : b = true) : (!b) = false := by cases b <;> simp at h ⊢
theorem m111l (hF : CF sh R I K H E HO S L B s g_s M_s A) (t7 : R 0 7 = some s) {n w : Int} {N : Nat} (hN : L = (N : Int)) : ∀ (k m : Nat) (c i : Int), m + k = N → c = cnt (lkP H E A n w) m → i = (m : Int) → WP X (d + 2) 111 5 [.inr (some 0), .inl n, .inl w, .inl c, .inl i] [] (sh, R, I) 0 0 (fun r h' => r = .inl (cnt (lkP H E A n w) N) ∧ h' = (sh, R, I)) := by
  have hF0 := hF
  obtain ⟨hL, hK, hsp, h_s, m_s, n_s, hg, hM, hLS, hcs, hab, hB⟩ := hF
  have hr := hK.r
  intro k
  induction k with
  | zero =>
    rintro m c i hk rfl rfl
    have e : m = N := by omega
    subst e
    refine w_iload (pc' := 7) k111_5 rfl rfl ?_
    refine w_aload (pc' := 8) k111_7 rfl rfl ?_
    refine w_getR (pc' := 11) (v := 3) k111_8 rfl (hL.1 0 (10, 12) rfl) (hL.2 0 1 3 rfl) ?_
    refine w_getI (pc' := 14) (ki := 5) (v := L) k111_11 rfl (hL.1 3 (5, 14) rfl) rfl hsp.2.2.2.2.2.1 ?_
    refine w_ic_ge (pc' := 17) k111_14 rfl (fun c_14 => ?_) (fun c_14 => absurd c_14 (by omega))
    refine w_iload (pc' := 50) k111_49 rfl rfl ?_
    exact w_reti k111_50 ⟨rfl, rfl⟩
  | succ k ih =>
    rintro m c i hk rfl rfl
    have hc := cnt_le (lkP H E A n w) m
    have hm : (0 : Int) ≤ (m : Int) ∧ (m : Int) < L := by omega
    refine w_iload (pc' := 7) k111_5 rfl rfl ?_
    refine w_aload (pc' := 8) k111_7 rfl rfl ?_
    refine w_getR (pc' := 11) (v := 3) k111_8 rfl (hL.1 0 (10, 12) rfl) (hL.2 0 1 3 rfl) ?_
    refine w_getI (pc' := 14) (ki := 5) (v := L) k111_11 rfl (hL.1 3 (5, 14) rfl) rfl hsp.2.2.2.2.2.1 ?_
    refine w_ic_ge (pc' := 17) k111_14 rfl (fun c_14 => absurd c_14 (by omega)) (fun c_14 => ?_)
    refine w_aload (pc' := 18) k111_17 rfl rfl ?_
    refine w_iload (pc' := 19) k111_18 rfl rfl ?_
    refine w_iload (pc' := 21) k111_19 rfl rfl ?_
    refine w_callB (pc' := 24) (as := [.inr (some 0), .inl _, .inl _]) k111_21 rfl rfl (co_v rfl rfl (hL.1 0 (10, 12) rfl)) (by decide) (m110 hF0 hm) (fun q_21 => ?_) (fun q_21 => ?_)
    · refine w_if_eq (pc' := 27) k111_24 rfl (fun c_24 => absurd c_24 (by decide)) (fun _ => ?_)
      refine w_aload (pc' := 28) k111_27 rfl rfl ?_
      refine w_getR (pc' := 31) (v := s) k111_28 rfl (hL.1 0 (10, 12) rfl) t7 ?_
      refine w_iload (pc' := 33) k111_31 rfl rfl ?_
      refine w_callB (pc' := 36) (as := [.inr (some s), .inl _]) k111_33 rfl rfl (co_v rfl rfl (hL.s0 h_s)) (by decide) (m49 hF0 hm) (fun q_33 => ?_) (fun q_33 => ?_)
      · refine w_iload (pc' := 37) k111_36 rfl rfl ?_
        refine w_ic_eq (pc' := 40) k111_37 rfl (fun c_37 => ?_) (fun c_37 => ?_)
        · refine w_iinc (pc' := 46) (ls' := [_, _, _, _, _]) k111_43 rfl rfl (by omega) rfl ?_
          refine w_goto k111_46 ?_
          exact ih (m + 1) _ _ (by omega) (cnt_f (decide_eq_false (fun z => z.2 (by rw [if_pos q_33]; exact c_37)))).symm (by omega)
        · refine w_iinc (pc' := 43) (ls' := [_, _, _, _, _]) k111_40 rfl rfl (by omega) rfl ?_
          refine w_iinc (pc' := 46) (ls' := [_, _, _, _, _]) k111_43 rfl rfl (by omega) rfl ?_
          refine w_goto k111_46 ?_
          exact ih (m + 1) _ _ (by omega) (cnt_t (decide_eq_true ⟨q_21, by rw [if_pos q_33]; exact c_37⟩)).symm (by omega)
      · refine w_iload (pc' := 37) k111_36 rfl rfl ?_
        refine w_ic_eq (pc' := 40) k111_37 rfl (fun c_37 => ?_) (fun c_37 => ?_)
        · refine w_iinc (pc' := 46) (ls' := [_, _, _, _, _]) k111_43 rfl rfl (by omega) rfl ?_
          refine w_goto k111_46 ?_
          exact ih (m + 1) _ _ (by omega) (cnt_f (decide_eq_false (fun z => z.2 (by rw [if_neg q_33]; exact c_37)))).symm (by omega)
        · refine w_iinc (pc' := 43) (ls' := [_, _, _, _, _]) k111_40 rfl rfl (by omega) rfl ?_
          refine w_iinc (pc' := 46) (ls' := [_, _, _, _, _]) k111_43 rfl rfl (by omega) rfl ?_
          refine w_goto k111_46 ?_
          exact ih (m + 1) _ _ (by omega) (cnt_t (decide_eq_true ⟨q_21, by rw [if_neg q_33]; exact c_37⟩)).symm (by omega)
    · refine w_if_eq (pc' := 27) k111_24 rfl (fun _ => ?_) (fun c_24 => absurd c_24 (by decide))
      refine w_iinc (pc' := 46) (ls' := [_, _, _, _, _]) k111_43 rfl rfl (by omega) rfl ?_
      refine w_goto k111_46 ?_
      exact ih (m + 1) _ _ (by omega) (cnt_f (decide_eq_false (fun z => q_21 z.1))).symm (by omega)
theorem m111 (hF : CF sh R I K H E HO S L B s g_s M_s A) (t7 : R 0 7 = some s) {n w : Int} : RV X (d + 2) 111 [.inr (some 0), .inl n, .inl w] (sh, R, I) (lkC H E L A n w) := by
  have hF0 := hF
  obtain ⟨hL, hK, hsp, h_s, m_s, n_s, hg, hM, hLS, hcs, hab, hB⟩ := hF
  have hr := hK.r
  show WP X (d + 2) 111 0 [.inr (some 0), .inl n, .inl w, .inr none, .inr none] [] (sh, R, I) 0 0 _
  refine w_c1 (pc' := 1) k111_0 rfl ?_
  refine w_istore (pc' := 2) (ls' := [_, _, _, _, _]) k111_1 rfl rfl rfl ?_
  refine w_c1 (pc' := 3) k111_2 rfl ?_
  refine w_istore (pc' := 5) (ls' := [_, _, _, _, _]) k111_3 rfl rfl rfl ?_
  exact m111l hF0 t7 (N := L.toNat) (by omega) L.toNat 0 _ _ (by omega) rfl rfl
theorem m113l (hF : CF sh R I K H E HO S L B s g_s M_s A) (t7 : R 0 7 = some s) {N : Nat} (hN : L = (N : Int)) : ∀ (k m : Nat) (c i : Int), m + k = N → c = cnt (fun l => !ev (aAg A l)) m → i = (m : Int) → WP X (d + 2) 113 4 [.inr (some 0), .inl c, .inl i] [] (sh, R, I) 0 0 (fun r h' => r = .inl (cnt (fun l => !ev (aAg A l)) N) ∧ h' = (sh, R, I)) := by
  have hF0 := hF
  obtain ⟨hL, hK, hsp, h_s, m_s, n_s, hg, hM, hLS, hcs, hab, hB⟩ := hF
  have hr := hK.r
  intro k
  induction k with
  | zero =>
    rintro m c i hk rfl rfl
    have e : m = N := by omega
    subst e
    refine w_iload (pc' := 5) k113_4 rfl rfl ?_
    refine w_aload (pc' := 6) k113_5 rfl rfl ?_
    refine w_getR (pc' := 9) (v := 3) k113_6 rfl (hL.1 0 (10, 12) rfl) (hL.2 0 1 3 rfl) ?_
    refine w_getI (pc' := 12) (ki := 5) (v := L) k113_9 rfl (hL.1 3 (5, 14) rfl) rfl hsp.2.2.2.2.2.1 ?_
    refine w_ic_ge (pc' := 15) k113_12 rfl (fun c_12 => ?_) (fun c_12 => absurd c_12 (by omega))
    refine w_iload (pc' := 36) k113_35 rfl rfl ?_
    exact w_reti k113_36 ⟨rfl, rfl⟩
  | succ k ih =>
    rintro m c i hk rfl rfl
    have hc := cnt_le (fun l => !ev (aAg A l)) m
    have hm : (0 : Int) ≤ (m : Int) ∧ (m : Int) < L := by omega
    refine w_iload (pc' := 5) k113_4 rfl rfl ?_
    refine w_aload (pc' := 6) k113_5 rfl rfl ?_
    refine w_getR (pc' := 9) (v := 3) k113_6 rfl (hL.1 0 (10, 12) rfl) (hL.2 0 1 3 rfl) ?_
    refine w_getI (pc' := 12) (ki := 5) (v := L) k113_9 rfl (hL.1 3 (5, 14) rfl) rfl hsp.2.2.2.2.2.1 ?_
    refine w_ic_ge (pc' := 15) k113_12 rfl (fun c_12 => absurd c_12 (by omega)) (fun c_12 => ?_)
    refine w_aload (pc' := 16) k113_15 rfl rfl ?_
    refine w_getR (pc' := 19) (v := s) k113_16 rfl (hL.1 0 (10, 12) rfl) t7 ?_
    refine w_iload (pc' := 20) k113_19 rfl rfl ?_
    refine w_callB (pc' := 23) (as := [.inr (some s), .inl _]) k113_20 rfl rfl (co_v rfl rfl (hL.s0 h_s)) (by decide) (m49 hF0 hm) (fun q_20 => ?_) (fun q_20 => ?_)
    · refine w_if_ne (pc' := 26) k113_23 rfl (fun _ => ?_) (fun c_23 => absurd c_23 (by decide))
      refine w_iinc (pc' := 32) (ls' := [_, _, _]) k113_29 rfl rfl (by omega) rfl ?_
      refine w_goto k113_32 ?_
      exact ih (m + 1) _ _ (by omega) (cnt_f (P := fun l => !ev (aAg A l)) (bnF q_20)).symm (by omega)
    · refine w_if_ne (pc' := 26) k113_23 rfl (fun c_23 => absurd c_23 (by decide)) (fun _ => ?_)
      refine w_iinc (pc' := 29) (ls' := [_, _, _]) k113_26 rfl rfl (by omega) rfl ?_
      refine w_iinc (pc' := 32) (ls' := [_, _, _]) k113_29 rfl rfl (by omega) rfl ?_
      refine w_goto k113_32 ?_
      exact ih (m + 1) _ _ (by omega) (cnt_t (P := fun l => !ev (aAg A l)) (bnE q_20)).symm (by omega)
theorem m113 (hF : CF sh R I K H E HO S L B s g_s M_s A) (t7 : R 0 7 = some s) : RV X (d + 2) 113 [.inr (some 0)] (sh, R, I) (cuC L A) := by
  have hF0 := hF
  obtain ⟨hL, hK, hsp, h_s, m_s, n_s, hg, hM, hLS, hcs, hab, hB⟩ := hF
  have hr := hK.r
  show WP X (d + 2) 113 0 [.inr (some 0), .inr none, .inr none] [] (sh, R, I) 0 0 _
  refine w_c1 (pc' := 1) k113_0 rfl ?_
  refine w_istore (pc' := 2) (ls' := [_, _, _]) k113_1 rfl rfl rfl ?_
  refine w_c1 (pc' := 3) k113_2 rfl ?_
  refine w_istore (pc' := 4) (ls' := [_, _, _]) k113_3 rfl rfl rfl ?_
  exact m113l hF0 t7 (N := L.toNat) (by omega) L.toNat 0 _ _ (by omega) rfl rfl
theorem m81l (hF : CF sh R I K H E HO S L B s g_s M_s A) (t7 : R 0 7 = some s) {N : Nat} (hN : L = (N : Int)) : ∀ (k m : Nat) (c i : Int), m + k = N → c = sumN (fun l => cnt (fun j => decide (aMk A j l ≠ aAg A l)) S.toNat) m → (0 ≤ c ∧ c ≤ 45 * m) → i = (m : Int) → WP X (d + 2) 81 4 [.inr (some 0), .inl c, .inl i] [] (sh, R, I) 0 0 (fun r h' => r = .inl (sumN (fun l => cnt (fun j => decide (aMk A j l ≠ aAg A l)) S.toNat) N) ∧ h' = (sh, R, I)) := by
  have hF0 := hF
  obtain ⟨hL, hK, hsp, h_s, m_s, n_s, hg, hM, hLS, hcs, hab, hB⟩ := hF
  have hr := hK.r
  intro k
  induction k with
  | zero =>
    rintro m c i hk rfl h9 rfl
    have e : m = N := by omega
    subst e
    refine w_iload (pc' := 5) k81_4 rfl rfl ?_
    refine w_aload (pc' := 6) k81_5 rfl rfl ?_
    refine w_getR (pc' := 9) (v := 3) k81_6 rfl (hL.1 0 (10, 12) rfl) (hL.2 0 1 3 rfl) ?_
    refine w_getI (pc' := 12) (ki := 5) (v := L) k81_9 rfl (hL.1 3 (5, 14) rfl) rfl hsp.2.2.2.2.2.1 ?_
    refine w_ic_ge (pc' := 15) k81_12 rfl (fun c_12 => ?_) (fun c_12 => absurd c_12 (by omega))
    refine w_iload (pc' := 33) k81_32 rfl rfl ?_
    exact w_reti k81_33 ⟨rfl, rfl⟩
  | succ k ih =>
    rintro m c i hk hc9 h9 rfl
    have hc := cnt_le (fun j => decide (aMk A j (m : Int) ≠ aAg A (m : Int))) S.toNat
    have hm : (0 : Int) ≤ (m : Int) ∧ (m : Int) < L := by omega
    refine w_iload (pc' := 5) k81_4 rfl rfl ?_
    refine w_aload (pc' := 6) k81_5 rfl rfl ?_
    refine w_getR (pc' := 9) (v := 3) k81_6 rfl (hL.1 0 (10, 12) rfl) (hL.2 0 1 3 rfl) ?_
    refine w_getI (pc' := 12) (ki := 5) (v := L) k81_9 rfl (hL.1 3 (5, 14) rfl) rfl hsp.2.2.2.2.2.1 ?_
    refine w_ic_ge (pc' := 15) k81_12 rfl (fun c_12 => absurd c_12 (by omega)) (fun c_12 => ?_)
    refine w_iload (pc' := 16) k81_15 rfl rfl ?_
    refine w_aload (pc' := 17) k81_16 rfl rfl ?_
    refine w_getR (pc' := 20) (v := s) k81_17 rfl (hL.1 0 (10, 12) rfl) t7 ?_
    refine w_iload (pc' := 21) k81_20 rfl rfl ?_
    refine w_callE (pc' := 24) (as := [.inr (some s), .inl _]) k81_21 rfl rfl (co_v rfl rfl (hL.s0 h_s)) (by decide) (m55 hF0 hm) ?_
    refine w_iadd (pc' := 25) k81_24 rfl (by omega) ?_
    refine w_istore (pc' := 26) (ls' := [_, _, _]) k81_25 rfl rfl rfl ?_
    refine w_iinc (pc' := 29) (ls' := [_, _, _]) k81_26 rfl rfl (by omega) rfl ?_
    refine w_goto k81_29 ?_
    exact ih (m + 1) _ _ (by omega) (by rw [sumN, ← hc9]) (by omega) (by omega)
theorem m81 (hF : CF sh R I K H E HO S L B s g_s M_s A) (t7 : R 0 7 = some s) : RV X (d + 2) 81 [.inr (some 0)] (sh, R, I) (laC S L A) := by
  have hF0 := hF
  obtain ⟨hL, hK, hsp, h_s, m_s, n_s, hg, hM, hLS, hcs, hab, hB⟩ := hF
  have hr := hK.r
  show WP X (d + 2) 81 0 [.inr (some 0), .inr none, .inr none] [] (sh, R, I) 0 0 _
  refine w_c1 (pc' := 1) k81_0 rfl ?_
  refine w_istore (pc' := 2) (ls' := [_, _, _]) k81_1 rfl rfl rfl ?_
  refine w_c1 (pc' := 3) k81_2 rfl ?_
  refine w_istore (pc' := 4) (ls' := [_, _, _]) k81_3 rfl rfl rfl ?_
  exact m81l hF0 t7 (N := L.toNat) (by omega) L.toNat 0 _ _ (by omega) rfl (by omega) rfl
theorem m73 (hF : CF sh R I K H E HO S L B s g_s M_s A) {a i j : Int} : RV X (d + 2) 73 [.inr (some 0), .inl a, .inl i, .inl j] (sh, R, I) (if (0 ≤ a ∧ a < K) ∧ (0 ≤ i ∧ i < K / 2) ∧ (0 ≤ j ∧ j < K / 2) then (a * (K / 2) + i) * (K / 2) + j else -1) := by
  have hF0 := hF
  obtain ⟨hL, hK, hsp, h_s, m_s, n_s, hg, hM, hLS, hcs, hab, hB⟩ := hF
  have hk3 : K = 2 ∨ K = 4 ∨ K = 6 := by first | omega | (rcases hK with ⟨rfl, rfl, rfl, rfl, rfl, rfl⟩ | ⟨rfl, rfl, rfl, rfl, rfl, rfl⟩ | ⟨rfl, rfl, rfl, rfl, rfl, rfl⟩ <;> omega)
  show WP X (d + 2) 73 0 [.inr (some 0), .inl a, .inl i, .inl j] [] (sh, R, I) 0 0 _
  refine w_aload (pc' := 1) k73_0 rfl rfl ?_
  refine w_getR (pc' := 4) (v := 3) k73_1 rfl (hL.1 0 (10, 12) rfl) (hL.2 0 1 3 rfl) ?_
  refine w_getI (pc' := 7) (ki := 0) (v := K) k73_4 rfl (hL.1 3 (5, 14) rfl) rfl hsp.1 ?_
  refine w_iload (pc' := 8) k73_7 rfl rfl ?_
  refine w_iload (pc' := 9) k73_8 rfl rfl ?_
  refine w_iload (pc' := 10) k73_9 rfl rfl ?_
  refine w_callE (pc' := 13) (as := [.inl _, .inl _, .inl _, .inl _]) k73_10 rfl rfl (co_s (Or.inl rfl) rfl rfl rfl) (by decide) (m105 hk3) ?_
  exact w_reti k73_13 ⟨rfl, rfl⟩
def nodeS (H E S L : Int) (A : AS) (n w : Int) : Int := if 0 ≤ n ∧ n < S then (if w = 0 then tierS E n else if w = 1 then podS H E n else if w = 2 then placeS H E n else if w = 3 then membS H E n else if w = 4 then lkC H E L A n 0 else -1) else -1
def linkS (H E L : Int) (A : AS) (l w : Int) : Int := if 0 ≤ l ∧ l < L then (if w = 0 then l / H else if w = 1 then upS H E l else if w = 2 then (if ev (aAg A l) then 0 else 1) else if w = 3 then aAg A l else -1) else -1
theorem m74 (hF : CF sh R I K H E HO S L B s g_s M_s A) (t7 : R 0 7 = some s) {n w : Int} : RV X (d + 3) 74 [.inr (some 0), .inl n, .inl w] (sh, R, I) (nodeS H E S L A n w) := by
  have hF0 := hF
  obtain ⟨hL, hK, hsp, h_s, m_s, n_s, hg, hM, hLS, hcs, hab, hB⟩ := hF
  have hr := hK.r
  show WP X (d + 3) 74 0 [.inr (some 0), .inl n, .inl w] [] (sh, R, I) 0 0 _
  refine w_aload (pc' := 1) k74_0 rfl rfl ?_
  refine w_iload (pc' := 2) k74_1 rfl rfl ?_
  refine w_callB (pc' := 5) (as := [.inr (some 0), .inl _]) k74_2 rfl rfl (co_v rfl rfl (hL.1 0 (10, 12) rfl)) (by decide) (m99 hF0) (fun q_2 => ?_) (fun q_2 => ?_)
  · refine w_if_ne (pc' := 8) k74_5 rfl (fun _ => ?_) (fun c_5 => absurd c_5 (by decide))
    refine w_iload (pc' := 11) k74_10 rfl rfl ?_
    refine w_swt k74_11 (fun i b hb e_11 => ?_) (fun e_11 => ?_)
    · match i, hb with
      | 0, hb =>
        obtain rfl : 44 = b := Option.some.inj hb
        refine w_aload (pc' := 45) k74_44 rfl rfl ?_
        refine w_getR (pc' := 48) (v := 3) k74_45 rfl (hL.1 0 (10, 12) rfl) (hL.2 0 1 3 rfl) ?_
        refine w_getR (pc' := 51) (v := 4) k74_48 rfl (hL.1 3 (5, 14) rfl) (hL.2 3 6 4 rfl) ?_
        refine w_iload (pc' := 52) k74_51 rfl rfl ?_
        refine w_iald (pc' := 53) (v := tierS E n) k74_52 rfl (hL.1 4 (0, 45) rfl) (by first | omega | (rcases hK with ⟨rfl, rfl, rfl, rfl, rfl, rfl⟩ | ⟨rfl, rfl, rfl, rfl, rfl, rfl⟩ | ⟨rfl, rfl, rfl, rfl, rfl, rfl⟩ <;> omega)) ((hsp.2.2.2.2.2.2.1 n q_2.1 q_2.2).1) ?_
        exact w_reti k74_53 ⟨by unfold nodeS; rw [if_pos q_2, if_pos (by omega)], rfl⟩
      | 1, hb =>
        obtain rfl : 54 = b := Option.some.inj hb
        refine w_aload (pc' := 55) k74_54 rfl rfl ?_
        refine w_getR (pc' := 58) (v := 3) k74_55 rfl (hL.1 0 (10, 12) rfl) (hL.2 0 1 3 rfl) ?_
        refine w_getR (pc' := 61) (v := 5) k74_58 rfl (hL.1 3 (5, 14) rfl) (hL.2 3 7 5 rfl) ?_
        refine w_iload (pc' := 62) k74_61 rfl rfl ?_
        refine w_iald (pc' := 63) (v := podS H E n) k74_62 rfl (hL.1 5 (0, 45) rfl) (by first | omega | (rcases hK with ⟨rfl, rfl, rfl, rfl, rfl, rfl⟩ | ⟨rfl, rfl, rfl, rfl, rfl, rfl⟩ | ⟨rfl, rfl, rfl, rfl, rfl, rfl⟩ <;> omega)) ((hsp.2.2.2.2.2.2.1 n q_2.1 q_2.2).2.1) ?_
        exact w_reti k74_63 ⟨by unfold nodeS; rw [if_pos q_2, if_neg (by omega), if_pos (by omega)], rfl⟩
      | 2, hb =>
        obtain rfl : 64 = b := Option.some.inj hb
        refine w_aload (pc' := 65) k74_64 rfl rfl ?_
        refine w_getR (pc' := 68) (v := 3) k74_65 rfl (hL.1 0 (10, 12) rfl) (hL.2 0 1 3 rfl) ?_
        refine w_getR (pc' := 71) (v := 6) k74_68 rfl (hL.1 3 (5, 14) rfl) (hL.2 3 8 6 rfl) ?_
        refine w_iload (pc' := 72) k74_71 rfl rfl ?_
        refine w_iald (pc' := 73) (v := placeS H E n) k74_72 rfl (hL.1 6 (0, 45) rfl) (by first | omega | (rcases hK with ⟨rfl, rfl, rfl, rfl, rfl, rfl⟩ | ⟨rfl, rfl, rfl, rfl, rfl, rfl⟩ | ⟨rfl, rfl, rfl, rfl, rfl, rfl⟩ <;> omega)) ((hsp.2.2.2.2.2.2.1 n q_2.1 q_2.2).2.2.1) ?_
        exact w_reti k74_73 ⟨by unfold nodeS; rw [if_pos q_2, if_neg (by omega), if_neg (by omega), if_pos (by omega)], rfl⟩
      | 3, hb =>
        obtain rfl : 74 = b := Option.some.inj hb
        refine w_aload (pc' := 75) k74_74 rfl rfl ?_
        refine w_getR (pc' := 78) (v := 3) k74_75 rfl (hL.1 0 (10, 12) rfl) (hL.2 0 1 3 rfl) ?_
        refine w_getR (pc' := 81) (v := 7) k74_78 rfl (hL.1 3 (5, 14) rfl) (hL.2 3 9 7 rfl) ?_
        refine w_iload (pc' := 82) k74_81 rfl rfl ?_
        refine w_iald (pc' := 83) (v := membS H E n) k74_82 rfl (hL.1 7 (0, 45) rfl) (by first | omega | (rcases hK with ⟨rfl, rfl, rfl, rfl, rfl, rfl⟩ | ⟨rfl, rfl, rfl, rfl, rfl, rfl⟩ | ⟨rfl, rfl, rfl, rfl, rfl, rfl⟩ <;> omega)) ((hsp.2.2.2.2.2.2.1 n q_2.1 q_2.2).2.2.2) ?_
        exact w_reti k74_83 ⟨by unfold nodeS; rw [if_pos q_2, if_neg (by omega), if_neg (by omega), if_neg (by omega), if_pos (by omega)], rfl⟩
      | 4, hb =>
        obtain rfl : 84 = b := Option.some.inj hb
        refine w_aload (pc' := 85) k74_84 rfl rfl ?_
        refine w_iload (pc' := 86) k74_85 rfl rfl ?_
        refine w_c1 (pc' := 87) k74_86 rfl ?_
        refine w_callE (pc' := 90) (as := [.inr (some 0), .inl _, .inl _]) k74_87 rfl rfl (co_v rfl rfl (hL.1 0 (10, 12) rfl)) (by decide) (m111 hF0 t7) ?_
        exact w_reti k74_90 ⟨by unfold nodeS; rw [if_pos q_2, if_neg (by omega), if_neg (by omega), if_neg (by omega), if_neg (by omega), if_pos (by omega)], rfl⟩
      | i + 5, hb => exact absurd hb (by simp)
    · refine w_c1 (pc' := 92) k74_91 rfl ?_
      exact w_reti k74_92 ⟨by unfold nodeS; rw [if_pos q_2, if_neg (by simp at e_11; omega), if_neg (by simp at e_11; omega), if_neg (by simp at e_11; omega), if_neg (by simp at e_11; omega), if_neg (by simp at e_11; omega)], rfl⟩
  · refine w_if_ne (pc' := 8) k74_5 rfl (fun c_5 => absurd c_5 (by decide)) (fun _ => ?_)
    refine w_c1 (pc' := 9) k74_8 rfl ?_
    exact w_reti k74_9 ⟨by unfold nodeS; rw [if_neg q_2], rfl⟩
theorem m75 (hF : CF sh R I K H E HO S L B s g_s M_s A) (t7 : R 0 7 = some s) {l w : Int} : RV X (d + 2) 75 [.inr (some 0), .inl l, .inl w] (sh, R, I) (linkS H E L A l w) := by
  have hF0 := hF
  obtain ⟨hL, hK, hsp, h_s, m_s, n_s, hg, hM, hLS, hcs, hab, hB⟩ := hF
  have hr := hK.r
  show WP X (d + 2) 75 0 [.inr (some 0), .inl l, .inl w] [] (sh, R, I) 0 0 _
  refine w_aload (pc' := 1) k75_0 rfl rfl ?_
  refine w_iload (pc' := 2) k75_1 rfl rfl ?_
  refine w_callB (pc' := 5) (as := [.inr (some 0), .inl _]) k75_2 rfl rfl (co_v rfl rfl (hL.1 0 (10, 12) rfl)) (by decide) (m100 hF0) (fun q_2 => ?_) (fun q_2 => ?_)
  · refine w_if_ne (pc' := 8) k75_5 rfl (fun _ => ?_) (fun c_5 => absurd c_5 (by decide))
    refine w_iload (pc' := 11) k75_10 rfl rfl ?_
    refine w_swt k75_11 (fun i b hb e_11 => ?_) (fun e_11 => ?_)
    · match i, hb with
      | 0, hb =>
        obtain rfl : 40 = b := Option.some.inj hb
        refine w_aload (pc' := 41) k75_40 rfl rfl ?_
        refine w_getR (pc' := 44) (v := 3) k75_41 rfl (hL.1 0 (10, 12) rfl) (hL.2 0 1 3 rfl) ?_
        refine w_getR (pc' := 47) (v := 8) k75_44 rfl (hL.1 3 (5, 14) rfl) (hL.2 3 10 8 rfl) ?_
        refine w_iload (pc' := 48) k75_47 rfl rfl ?_
        refine w_iald (pc' := 49) (v := l / H) k75_48 rfl (hL.1 8 (0, 108) rfl) (by first | omega | (rcases hK with ⟨rfl, rfl, rfl, rfl, rfl, rfl⟩ | ⟨rfl, rfl, rfl, rfl, rfl, rfl⟩ | ⟨rfl, rfl, rfl, rfl, rfl, rfl⟩ <;> omega)) (hsp.2.2.2.2.2.2.2.1 l q_2.1 q_2.2).1 ?_
        exact w_reti k75_49 ⟨by unfold linkS; rw [if_pos q_2, if_pos (by omega)], rfl⟩
      | 1, hb =>
        obtain rfl : 50 = b := Option.some.inj hb
        refine w_aload (pc' := 51) k75_50 rfl rfl ?_
        refine w_getR (pc' := 54) (v := 3) k75_51 rfl (hL.1 0 (10, 12) rfl) (hL.2 0 1 3 rfl) ?_
        refine w_getR (pc' := 57) (v := 9) k75_54 rfl (hL.1 3 (5, 14) rfl) (hL.2 3 11 9 rfl) ?_
        refine w_iload (pc' := 58) k75_57 rfl rfl ?_
        refine w_iald (pc' := 59) (v := upS H E l) k75_58 rfl (hL.1 9 (0, 108) rfl) (by first | omega | (rcases hK with ⟨rfl, rfl, rfl, rfl, rfl, rfl⟩ | ⟨rfl, rfl, rfl, rfl, rfl, rfl⟩ | ⟨rfl, rfl, rfl, rfl, rfl, rfl⟩ <;> omega)) (hsp.2.2.2.2.2.2.2.1 l q_2.1 q_2.2).2 ?_
        exact w_reti k75_59 ⟨by unfold linkS; rw [if_pos q_2, if_neg (by omega), if_pos (by omega)], rfl⟩
      | 2, hb =>
        obtain rfl : 60 = b := Option.some.inj hb
        refine w_aload (pc' := 61) k75_60 rfl rfl ?_
        refine w_getR (pc' := 64) (v := s) k75_61 rfl (hL.1 0 (10, 12) rfl) t7 ?_
        refine w_iload (pc' := 65) k75_64 rfl rfl ?_
        refine w_callB (pc' := 68) (as := [.inr (some s), .inl _]) k75_65 rfl rfl (co_v rfl rfl (hL.s0 h_s)) (by decide) (m49 hF0 q_2) (fun q_65 => ?_) (fun q_65 => ?_)
        · refine w_if_eq (pc' := 71) k75_68 rfl (fun c_68 => absurd c_68 (by decide)) (fun _ => ?_)
          refine w_c1 (pc' := 72) k75_71 rfl ?_
          refine w_goto k75_72 ?_
          exact w_reti k75_76 ⟨by unfold linkS; rw [if_pos q_2, if_neg (by omega), if_neg (by omega), if_pos (by omega), if_pos q_65], rfl⟩
        · refine w_if_eq (pc' := 71) k75_68 rfl (fun _ => ?_) (fun c_68 => absurd c_68 (by decide))
          refine w_c1 (pc' := 76) k75_75 rfl ?_
          exact w_reti k75_76 ⟨by unfold linkS; rw [if_pos q_2, if_neg (by omega), if_neg (by omega), if_pos (by omega), if_neg q_65], rfl⟩
      | 3, hb =>
        obtain rfl : 77 = b := Option.some.inj hb
        refine w_aload (pc' := 78) k75_77 rfl rfl ?_
        refine w_getR (pc' := 81) (v := s) k75_78 rfl (hL.1 0 (10, 12) rfl) t7 ?_
        refine w_getR (pc' := 84) (v := (s + 1)) k75_81 rfl (hL.s0 h_s) (hL.r0 h_s) ?_
        refine w_iload (pc' := 85) k75_84 rfl rfl ?_
        refine w_iald (pc' := 86) (v := aAg A l) k75_85 rfl (hL.s1 h_s) (by first | omega | (rcases hK with ⟨rfl, rfl, rfl, rfl, rfl, rfl⟩ | ⟨rfl, rfl, rfl, rfl, rfl, rfl⟩ | ⟨rfl, rfl, rfl, rfl, rfl, rfl⟩ <;> omega)) (hcs.2.2.2.1 l q_2.1 q_2.2) ?_
        exact w_reti k75_86 ⟨by unfold linkS; rw [if_pos q_2, if_neg (by omega), if_neg (by omega), if_neg (by omega), if_pos (by omega)], rfl⟩
      | i + 4, hb => exact absurd hb (by simp)
    · refine w_c1 (pc' := 88) k75_87 rfl ?_
      exact w_reti k75_88 ⟨by unfold linkS; rw [if_pos q_2, if_neg (by simp at e_11; omega), if_neg (by simp at e_11; omega), if_neg (by simp at e_11; omega), if_neg (by simp at e_11; omega)], rfl⟩
  · refine w_if_ne (pc' := 8) k75_5 rfl (fun c_5 => absurd c_5 (by decide)) (fun _ => ?_)
    refine w_c1 (pc' := 9) k75_8 rfl ?_
    exact w_reti k75_9 ⟨by unfold linkS; rw [if_neg q_2], rfl⟩
def markS (S L : Int) (A : AS) (n l : Int) : Int := if (0 ≤ n ∧ n < S) ∧ 0 ≤ l ∧ l < L then aMk A n l else -1
theorem m80 (hF : CF sh R I K H E HO S L B s g_s M_s A) (t7 : R 0 7 = some s) {n l : Int} : RV X (d + 2) 80 [.inr (some 0), .inl n, .inl l] (sh, R, I) (markS S L A n l) := by
  have hF0 := hF
  obtain ⟨hL, hK, hsp, h_s, m_s, n_s, hg, hM, hLS, hcs, hab, hB⟩ := hF
  have hr := hK.r
  show WP X (d + 2) 80 0 [.inr (some 0), .inl n, .inl l] [] (sh, R, I) 0 0 _
  refine w_aload (pc' := 1) k80_0 rfl rfl ?_
  refine w_iload (pc' := 2) k80_1 rfl rfl ?_
  refine w_callB (pc' := 5) (as := [.inr (some 0), .inl _]) k80_2 rfl rfl (co_v rfl rfl (hL.1 0 (10, 12) rfl)) (by decide) (m99 hF0) (fun q_2 => ?_) (fun q_2 => ?_)
  · refine w_if_eq (pc' := 8) k80_5 rfl (fun c_5 => absurd c_5 (by decide)) (fun _ => ?_)
    refine w_aload (pc' := 9) k80_8 rfl rfl ?_
    refine w_iload (pc' := 10) k80_9 rfl rfl ?_
    refine w_callB (pc' := 13) (as := [.inr (some 0), .inl _]) k80_10 rfl rfl (co_v rfl rfl (hL.1 0 (10, 12) rfl)) (by decide) (m100 hF0) (fun q_10 => ?_) (fun q_10 => ?_)
    · refine w_if_eq (pc' := 16) k80_13 rfl (fun c_13 => absurd c_13 (by decide)) (fun _ => ?_)
      refine w_aload (pc' := 17) k80_16 rfl rfl ?_
      refine w_getR (pc' := 20) (v := s) k80_17 rfl (hL.1 0 (10, 12) rfl) t7 ?_
      refine w_iload (pc' := 21) k80_20 rfl rfl ?_
      refine w_iload (pc' := 22) k80_21 rfl rfl ?_
      refine w_callE (pc' := 25) (as := [.inr (some s), .inl _, .inl _]) k80_22 rfl rfl (co_v rfl rfl (hL.s0 h_s)) (by decide) (m51 hF0 q_2 q_10) ?_
      refine w_goto k80_25 ?_
      exact w_reti k80_29 ⟨by unfold markS; rw [if_pos ⟨q_2, q_10⟩], rfl⟩
    · refine w_if_eq (pc' := 16) k80_13 rfl (fun _ => ?_) (fun c_13 => absurd c_13 (by decide))
      refine w_c1 (pc' := 29) k80_28 rfl ?_
      exact w_reti k80_29 ⟨by unfold markS; rw [if_neg (fun z => q_10 z.2)], rfl⟩
  · refine w_if_eq (pc' := 8) k80_5 rfl (fun _ => ?_) (fun c_5 => absurd c_5 (by decide))
    refine w_c1 (pc' := 29) k80_28 rfl ?_
    exact w_reti k80_29 ⟨by unfold markS; rw [if_neg (fun z => q_2 z.1)], rfl⟩
def onwS (H E HO S : Int) (A : AS) (n b t : Int) : Int := if (0 ≤ n ∧ n < S) ∧ (0 ≤ b ∧ b < HO) ∧ 0 ≤ t ∧ t < H * H then nl H E A n b t else -1
theorem m83 (hF : CF sh R I K H E HO S L B s g_s M_s A) (t7 : R 0 7 = some s) {n b t : Int} : RV X (d + 4) 83 [.inr (some 0), .inl n, .inl b, .inl t] (sh, R, I) (onwS H E HO S A n b t) := by
  have hF0 := hF
  obtain ⟨hL, hK, hsp, h_s, m_s, n_s, hg, hM, hLS, hcs, hab, hB⟩ := hF
  show WP X (d + 4) 83 0 [.inr (some 0), .inl n, .inl b, .inl t] [] (sh, R, I) 0 0 _
  refine w_aload (pc' := 1) k83_0 rfl rfl ?_
  refine w_iload (pc' := 2) k83_1 rfl rfl ?_
  refine w_callB (pc' := 5) (as := [.inr (some 0), .inl _]) k83_2 rfl rfl (co_v rfl rfl (hL.1 0 (10, 12) rfl)) (by decide) (m99 hF0) (fun q_2 => ?_) (fun q_2 => ?_)
  · refine w_if_eq (pc' := 8) k83_5 rfl (fun c_5 => absurd c_5 (by decide)) (fun _ => ?_)
    refine w_aload (pc' := 9) k83_8 rfl rfl ?_
    refine w_iload (pc' := 10) k83_9 rfl rfl ?_
    refine w_callB (pc' := 13) (as := [.inr (some 0), .inl _]) k83_10 rfl rfl (co_v rfl rfl (hL.1 0 (10, 12) rfl)) (by decide) (m101 hF0) (fun q_10 => ?_) (fun q_10 => ?_)
    · refine w_if_eq (pc' := 16) k83_13 rfl (fun c_13 => absurd c_13 (by decide)) (fun _ => ?_)
      refine w_aload (pc' := 17) k83_16 rfl rfl ?_
      refine w_iload (pc' := 18) k83_17 rfl rfl ?_
      refine w_callB (pc' := 21) (as := [.inr (some 0), .inl _]) k83_18 rfl rfl (co_v rfl rfl (hL.1 0 (10, 12) rfl)) (by decide) (m103 hF0) (fun q_18 => ?_) (fun q_18 => ?_)
      · refine w_if_eq (pc' := 24) k83_21 rfl (fun c_21 => absurd c_21 (by decide)) (fun _ => ?_)
        refine w_aload (pc' := 25) k83_24 rfl rfl ?_
        refine w_getR (pc' := 28) (v := 12) k83_25 rfl (hL.1 0 (10, 12) rfl) (hL.2 0 2 12 rfl) ?_
        refine w_aload (pc' := 29) k83_28 rfl rfl ?_
        refine w_getR (pc' := 32) (v := s) k83_29 rfl (hL.1 0 (10, 12) rfl) t7 ?_
        refine w_iload (pc' := 33) k83_32 rfl rfl ?_
        refine w_iload (pc' := 34) k83_33 rfl rfl ?_
        refine w_iload (pc' := 35) k83_34 rfl rfl ?_
        refine w_callE (pc' := 38) (as := [.inr (some 12), .inr (some s), .inl _, .inl _, .inl _]) k83_35 rfl rfl (co_v rfl rfl (hL.1 12 (3, 5) rfl)) (by decide) (m8 hF0 q_2 q_10 q_18) ?_
        refine w_goto k83_38 ?_
        exact w_reti k83_42 ⟨by unfold onwS; rw [if_pos ⟨q_2, q_10, q_18⟩], rfl⟩
      · refine w_if_eq (pc' := 24) k83_21 rfl (fun _ => ?_) (fun c_21 => absurd c_21 (by decide))
        refine w_c1 (pc' := 42) k83_41 rfl ?_
        exact w_reti k83_42 ⟨by unfold onwS; rw [if_neg (fun z => q_18 z.2.2)], rfl⟩
    · refine w_if_eq (pc' := 16) k83_13 rfl (fun _ => ?_) (fun c_13 => absurd c_13 (by decide))
      refine w_c1 (pc' := 42) k83_41 rfl ?_
      exact w_reti k83_42 ⟨by unfold onwS; rw [if_neg (fun z => q_10 z.2.1)], rfl⟩
  · refine w_if_eq (pc' := 8) k83_5 rfl (fun _ => ?_) (fun c_5 => absurd c_5 (by decide))
    refine w_c1 (pc' := 42) k83_41 rfl ?_
    exact w_reti k83_42 ⟨by unfold onwS; rw [if_neg (fun z => q_2 z.1)], rfl⟩
def twoS (HO a b : Int) : Prop := (0 ≤ a ∧ a < HO) ∧ (0 ≤ b ∧ b < HO) ∧ a ≠ b
theorem edge_r (hK : KP K H E HO S L) {a : Int} (ha : 0 ≤ a ∧ a < HO) : 0 ≤ a / H ∧ a / H < E := by
  rcases hK with ⟨rfl, rfl, rfl, rfl, rfl, rfl⟩ | ⟨rfl, rfl, rfl, rfl, rfl, rfl⟩ | ⟨rfl, rfl, rfl, rfl, rfl, rfl⟩ <;> omega
/-- a question that has two branches: P, v, or else -/
def wayV (H E : Int) (A : AS) (a b t k : Int) : Int := if k = -1 then (pV H E A (a / H) b t : Int) else if k < pV H E A (a / H) b t then pN H E A (a / H) b t k.toNat else -4
def wayS (H E HO : Int) (A : AS) (a b t k : Int) : Int := if ((0 ≤ a ∧ a < HO) ∧ (0 ≤ b ∧ b < HO) ∧ a ≠ b) ∧ (0 ≤ t ∧ t < H * H) ∧ -1 ≤ k then wayV H E A a b t k else -1
def arrS (H E HO : Int) (A : AS) (a b t : Int) : Int := if ((0 ≤ a ∧ a < HO) ∧ (0 ≤ b ∧ b < HO) ∧ a ≠ b) ∧ (0 ≤ t ∧ t < H * H) then (if pA H E A (a / H) b t then 1 else 0) else -1
theorem m84 (hF : CF sh R I K H E HO S L B s g_s M_s A) (t7 : R 0 7 = some s) {a b t k : Int} : QQ X (d + 5) 84 [.inr (some 0), .inl a, .inl b, .inl t, .inl k] sh R I (wayS H E HO A a b t k) := by
  have hF0 := hF
  obtain ⟨hL, hK, hsp, h_s, m_s, n_s, hg, hM, hLS, hcs, hab, hB⟩ := hF
  have hr := hK.r
  show WP X (d + 5) 84 0 [.inr (some 0), .inl a, .inl b, .inl t, .inl k] [] (sh, R, I) 0 0 _
  refine w_aload (pc' := 1) k84_0 rfl rfl ?_
  refine w_iload (pc' := 2) k84_1 rfl rfl ?_
  refine w_iload (pc' := 3) k84_2 rfl rfl ?_
  refine w_callB (pc' := 6) (as := [.inr (some 0), .inl _, .inl _]) k84_3 rfl rfl (co_v rfl rfl (hL.1 0 (10, 12) rfl)) (by decide) (m102 hF0) (fun q_3 => ?_) (fun q_3 => ?_)
  · refine w_if_eq (pc' := 9) k84_6 rfl (fun c_6 => absurd c_6 (by decide)) (fun _ => ?_)
    refine w_aload (pc' := 10) k84_9 rfl rfl ?_
    refine w_iload (pc' := 11) k84_10 rfl rfl ?_
    refine w_callB (pc' := 14) (as := [.inr (some 0), .inl _]) k84_11 rfl rfl (co_v rfl rfl (hL.1 0 (10, 12) rfl)) (by decide) (m103 hF0) (fun q_11 => ?_) (fun q_11 => ?_)
    · refine w_if_eq (pc' := 17) k84_14 rfl (fun c_14 => absurd c_14 (by decide)) (fun _ => ?_)
      refine w_iload (pc' := 19) k84_17 rfl rfl ?_
      refine w_c1 (pc' := 20) k84_19 rfl ?_
      refine w_ic_ge (pc' := 23) k84_20 rfl (fun c_20 => ?_) (fun c_20 => ?_)
      · refine w_aload (pc' := 26) k84_25 rfl rfl ?_
        refine w_getR (pc' := 29) (v := 12) k84_26 rfl (hL.1 0 (10, 12) rfl) (hL.2 0 2 12 rfl) ?_
        refine w_aload (pc' := 30) k84_29 rfl rfl ?_
        refine w_getR (pc' := 33) (v := s) k84_30 rfl (hL.1 0 (10, 12) rfl) t7 ?_
        refine w_aload (pc' := 34) k84_33 rfl rfl ?_
        refine w_getR (pc' := 37) (v := 3) k84_34 rfl (hL.1 0 (10, 12) rfl) (hL.2 0 1 3 rfl) ?_
        refine w_getR (pc' := 40) (v := 10) k84_37 rfl (hL.1 3 (5, 14) rfl) (hL.2 3 12 10 rfl) ?_
        refine w_iload (pc' := 41) k84_40 rfl rfl ?_
        refine w_iald (pc' := 42) (v := a / H) k84_41 rfl (hL.1 10 (0, 54) rfl) (by first | omega | (rcases hK with ⟨rfl, rfl, rfl, rfl, rfl, rfl⟩ | ⟨rfl, rfl, rfl, rfl, rfl, rfl⟩ | ⟨rfl, rfl, rfl, rfl, rfl, rfl⟩ <;> omega)) ((hsp.2.2.2.2.2.2.2.2 a q_3.1.1 q_3.1.2).1) ?_
        refine w_iload (pc' := 43) k84_42 rfl rfl ?_
        refine w_iload (pc' := 44) k84_43 rfl rfl ?_
        refine w_callV (pc' := 47) (as := [.inr (some 12), .inr (some s), .inl _, .inl _, .inl _]) k84_44 rfl rfl (co_v rfl rfl (hL.1 12 (3, 5) rfl)) (by decide) (m6 hF0 (edge_r hK q_3.1) q_3.2.1 q_11) (fun r_44 h_44 hq => ?_)
        obtain ⟨I_1, rfl, jr⟩ := hq
        have hv5 := pV_r (H := H) (E := E) (A := A) (n := a / H) (b := b) (s := t)
        refine w_iload (pc' := 49) k84_47 rfl rfl ?_
        refine w_c1 (pc' := 50) k84_49 rfl ?_
        refine w_ic_ne (pc' := 53) k84_50 rfl (fun c_50 => ?_) (fun c_50 => ?_)
        · refine w_iload (pc' := 63) k84_61 rfl rfl ?_
          refine w_aload (pc' := 64) k84_63 rfl rfl ?_
          refine w_getR (pc' := 67) (v := 12) k84_64 rfl (hL.1 0 (10, 12) rfl) (hL.2 0 2 12 rfl) ?_
          refine w_getI (pc' := 70) (ki := 3) (v := (pV H E A (a / H) b t : Int)) k84_67 rfl (hL.1 12 (3, 5) rfl) rfl jr.2.1 ?_
          refine w_ic_ge (pc' := 73) k84_70 rfl (fun c_70 => ?_) (fun c_70 => ?_)
          · refine w_c2 (pc' := 88) k84_86 rfl ?_
            exact w_reti k84_88 ⟨by unfold wayS wayV; rw [if_pos ⟨q_3, q_11, c_20⟩, if_neg c_50, if_neg (by omega)], _, rfl, fun a q => jr.1 a (by omega) (by omega) (by omega)⟩
          · refine w_aload (pc' := 74) k84_73 rfl rfl ?_
            refine w_getR (pc' := 77) (v := 12) k84_74 rfl (hL.1 0 (10, 12) rfl) (hL.2 0 2 12 rfl) ?_
            refine w_getR (pc' := 80) (v := 13) k84_77 rfl (hL.1 12 (3, 5) rfl) (hL.2 12 1 13 rfl) ?_
            refine w_iload (pc' := 82) k84_80 rfl rfl ?_
            refine w_iald (pc' := 83) (v := pN H E A (a / H) b t k.toNat) k84_82 rfl (hL.1 13 (0, 5) rfl) (by first | omega | (rcases hK with ⟨rfl, rfl, rfl, rfl, rfl, rfl⟩ | ⟨rfl, rfl, rfl, rfl, rfl, rfl⟩ | ⟨rfl, rfl, rfl, rfl, rfl, rfl⟩ <;> omega)) (by have := jr.2.2.2.1 k.toNat (by omega); rw [show ((k.toNat : Nat) : Int) = k by omega] at this; exact this) ?_
            refine w_goto k84_83 ?_
            exact w_reti k84_88 ⟨by unfold wayS wayV; rw [if_pos ⟨q_3, q_11, c_20⟩, if_neg c_50, if_pos c_70], _, rfl, fun a q => jr.1 a (by omega) (by omega) (by omega)⟩
        · refine w_aload (pc' := 54) k84_53 rfl rfl ?_
          refine w_getR (pc' := 57) (v := 12) k84_54 rfl (hL.1 0 (10, 12) rfl) (hL.2 0 2 12 rfl) ?_
          refine w_getI (pc' := 60) (ki := 3) (v := (pV H E A (a / H) b t : Int)) k84_57 rfl (hL.1 12 (3, 5) rfl) rfl jr.2.1 ?_
          exact w_reti k84_60 ⟨by unfold wayS wayV; rw [if_pos ⟨q_3, q_11, c_20⟩, if_pos c_50], _, rfl, fun a q => jr.1 a (by omega) (by omega) (by omega)⟩
      · refine w_c1 (pc' := 24) k84_23 rfl ?_
        exact w_reti k84_24 ⟨by unfold wayS; rw [if_neg (fun z => by omega)], _, rfl, fun a q => rfl⟩
    · refine w_if_eq (pc' := 17) k84_14 rfl (fun _ => ?_) (fun c_14 => absurd c_14 (by decide))
      refine w_c1 (pc' := 24) k84_23 rfl ?_
      exact w_reti k84_24 ⟨by unfold wayS; rw [if_neg (fun z => q_11 z.2.1)], _, rfl, fun a q => rfl⟩
  · refine w_if_eq (pc' := 9) k84_6 rfl (fun _ => ?_) (fun c_6 => absurd c_6 (by decide))
    refine w_c1 (pc' := 24) k84_23 rfl ?_
    exact w_reti k84_24 ⟨by unfold wayS; rw [if_neg (fun z => q_3 z.1)], _, rfl, fun a q => rfl⟩
theorem m85 (hF : CF sh R I K H E HO S L B s g_s M_s A) (t7 : R 0 7 = some s) {a b t : Int} : QQ X (d + 5) 85 [.inr (some 0), .inl a, .inl b, .inl t] sh R I (arrS H E HO A a b t) := by
  have hF0 := hF
  obtain ⟨hL, hK, hsp, h_s, m_s, n_s, hg, hM, hLS, hcs, hab, hB⟩ := hF
  have hr := hK.r
  show WP X (d + 5) 85 0 [.inr (some 0), .inl a, .inl b, .inl t] [] (sh, R, I) 0 0 _
  refine w_aload (pc' := 1) k85_0 rfl rfl ?_
  refine w_iload (pc' := 2) k85_1 rfl rfl ?_
  refine w_iload (pc' := 3) k85_2 rfl rfl ?_
  refine w_callB (pc' := 6) (as := [.inr (some 0), .inl _, .inl _]) k85_3 rfl rfl (co_v rfl rfl (hL.1 0 (10, 12) rfl)) (by decide) (m102 hF0) (fun q_3 => ?_) (fun q_3 => ?_)
  · refine w_if_eq (pc' := 9) k85_6 rfl (fun c_6 => absurd c_6 (by decide)) (fun _ => ?_)
    refine w_aload (pc' := 10) k85_9 rfl rfl ?_
    refine w_iload (pc' := 11) k85_10 rfl rfl ?_
    refine w_callB (pc' := 14) (as := [.inr (some 0), .inl _]) k85_11 rfl rfl (co_v rfl rfl (hL.1 0 (10, 12) rfl)) (by decide) (m103 hF0) (fun q_11 => ?_) (fun q_11 => ?_)
    · refine w_if_ne (pc' := 17) k85_14 rfl (fun _ => ?_) (fun c_14 => absurd c_14 (by decide))
      refine w_aload (pc' := 20) k85_19 rfl rfl ?_
      refine w_getR (pc' := 23) (v := 12) k85_20 rfl (hL.1 0 (10, 12) rfl) (hL.2 0 2 12 rfl) ?_
      refine w_aload (pc' := 24) k85_23 rfl rfl ?_
      refine w_getR (pc' := 27) (v := s) k85_24 rfl (hL.1 0 (10, 12) rfl) t7 ?_
      refine w_aload (pc' := 28) k85_27 rfl rfl ?_
      refine w_getR (pc' := 31) (v := 3) k85_28 rfl (hL.1 0 (10, 12) rfl) (hL.2 0 1 3 rfl) ?_
      refine w_getR (pc' := 34) (v := 10) k85_31 rfl (hL.1 3 (5, 14) rfl) (hL.2 3 12 10 rfl) ?_
      refine w_iload (pc' := 35) k85_34 rfl rfl ?_
      refine w_iald (pc' := 36) (v := a / H) k85_35 rfl (hL.1 10 (0, 54) rfl) (by first | omega | (rcases hK with ⟨rfl, rfl, rfl, rfl, rfl, rfl⟩ | ⟨rfl, rfl, rfl, rfl, rfl, rfl⟩ | ⟨rfl, rfl, rfl, rfl, rfl, rfl⟩ <;> omega)) ((hsp.2.2.2.2.2.2.2.2 a q_3.1.1 q_3.1.2).1) ?_
      refine w_iload (pc' := 37) k85_36 rfl rfl ?_
      refine w_iload (pc' := 38) k85_37 rfl rfl ?_
      refine w_callV (pc' := 41) (as := [.inr (some 12), .inr (some s), .inl _, .inl _, .inl _]) k85_38 rfl rfl (co_v rfl rfl (hL.1 12 (3, 5) rfl)) (by decide) (m6 hF0 (edge_r hK q_3.1) q_3.2.1 q_11) (fun r_38 h_38 hq => ?_)
      obtain ⟨I_1, rfl, jr⟩ := hq
      refine w_aload (pc' := 42) k85_41 rfl rfl ?_
      refine w_getR (pc' := 45) (v := 12) k85_42 rfl (hL.1 0 (10, 12) rfl) (hL.2 0 2 12 rfl) ?_
      refine w_getI (pc' := 48) (ki := 4) (v := (if pA H E A (a / H) b t then (1 : Int) else 0)) k85_45 rfl (hL.1 12 (3, 5) rfl) rfl jr.2.2.1 ?_
      refine w_if_eq (pc' := 51) k85_48 rfl (fun c_48 => ?_) (fun c_48 => ?_)
      · refine w_c1 (pc' := 56) k85_55 rfl ?_
        exact w_reti k85_56 ⟨by unfold arrS; rw [if_pos ⟨q_3, q_11⟩, if_neg (fun z => by rw [if_pos z] at c_48; exact absurd c_48 (by decide))], _, rfl, fun a q => jr.1 a (by omega) (by omega) (by omega)⟩
      · refine w_c1 (pc' := 52) k85_51 rfl ?_
        refine w_goto k85_52 ?_
        exact w_reti k85_56 ⟨by unfold arrS; rw [if_pos ⟨q_3, q_11⟩, if_pos (Decidable.byContradiction (fun z => by rw [if_neg z] at c_48; exact absurd rfl c_48))], _, rfl, fun a q => jr.1 a (by omega) (by omega) (by omega)⟩
    · refine w_if_ne (pc' := 17) k85_14 rfl (fun c_14 => absurd c_14 (by decide)) (fun _ => ?_)
      refine w_c1 (pc' := 18) k85_17 rfl ?_
      exact w_reti k85_18 ⟨by unfold arrS; rw [if_neg (fun z => q_11 z.2)], _, rfl, fun a q => rfl⟩
  · refine w_if_eq (pc' := 9) k85_6 rfl (fun _ => ?_) (fun c_6 => absurd c_6 (by decide))
    refine w_c1 (pc' := 18) k85_17 rfl ?_
    exact w_reti k85_18 ⟨by unfold arrS; rw [if_neg (fun z => q_3 z.1)], _, rfl, fun a q => rfl⟩
def wysS (H E HO : Int) (A : AS) (a b : Int) : Int := if (0 ≤ a ∧ a < HO) ∧ (0 ≤ b ∧ b < HO) ∧ a ≠ b then waysS H E (opC A (-4)) (a / H) (b / H) else -1
theorem m86 (hF : CF sh R I K H E HO S L B s g_s M_s A) (t7 : R 0 7 = some s) {a b : Int} : RV X (d + 5) 86 [.inr (some 0), .inl a, .inl b] (sh, R, I) (wysS H E HO A a b) := by
  have hF0 := hF
  obtain ⟨hL, hK, hsp, h_s, m_s, n_s, hg, hM, hLS, hcs, hab, hB⟩ := hF
  show WP X (d + 5) 86 0 [.inr (some 0), .inl a, .inl b] [] (sh, R, I) 0 0 _
  refine w_aload (pc' := 1) k86_0 rfl rfl ?_
  refine w_iload (pc' := 2) k86_1 rfl rfl ?_
  refine w_iload (pc' := 3) k86_2 rfl rfl ?_
  refine w_callB (pc' := 6) (as := [.inr (some 0), .inl _, .inl _]) k86_3 rfl rfl (co_v rfl rfl (hL.1 0 (10, 12) rfl)) (by decide) (m102 hF0) (fun q_3 => ?_) (fun q_3 => ?_)
  · refine w_if_eq (pc' := 9) k86_6 rfl (fun c_6 => absurd c_6 (by decide)) (fun _ => ?_)
    refine w_aload (pc' := 10) k86_9 rfl rfl ?_
    refine w_getR (pc' := 13) (v := 17) k86_10 rfl (hL.1 0 (10, 12) rfl) (hL.2 0 4 17 rfl) ?_
    refine w_aload (pc' := 14) k86_13 rfl rfl ?_
    refine w_getR (pc' := 17) (v := s) k86_14 rfl (hL.1 0 (10, 12) rfl) t7 ?_
    refine w_aload (pc' := 18) k86_17 rfl rfl ?_
    refine w_getR (pc' := 21) (v := 3) k86_18 rfl (hL.1 0 (10, 12) rfl) (hL.2 0 1 3 rfl) ?_
    refine w_getR (pc' := 24) (v := 10) k86_21 rfl (hL.1 3 (5, 14) rfl) (hL.2 3 12 10 rfl) ?_
    refine w_iload (pc' := 25) k86_24 rfl rfl ?_
    refine w_iald (pc' := 26) (v := a / H) k86_25 rfl (hL.1 10 (0, 54) rfl) (by first | omega | (rcases hK with ⟨rfl, rfl, rfl, rfl, rfl, rfl⟩ | ⟨rfl, rfl, rfl, rfl, rfl, rfl⟩ | ⟨rfl, rfl, rfl, rfl, rfl, rfl⟩ <;> omega)) ((hsp.2.2.2.2.2.2.2.2 a q_3.1.1 q_3.1.2).1) ?_
    refine w_aload (pc' := 27) k86_26 rfl rfl ?_
    refine w_getR (pc' := 30) (v := 3) k86_27 rfl (hL.1 0 (10, 12) rfl) (hL.2 0 1 3 rfl) ?_
    refine w_getR (pc' := 33) (v := 10) k86_30 rfl (hL.1 3 (5, 14) rfl) (hL.2 3 12 10 rfl) ?_
    refine w_iload (pc' := 34) k86_33 rfl rfl ?_
    refine w_iald (pc' := 35) (v := b / H) k86_34 rfl (hL.1 10 (0, 54) rfl) (by first | omega | (rcases hK with ⟨rfl, rfl, rfl, rfl, rfl, rfl⟩ | ⟨rfl, rfl, rfl, rfl, rfl, rfl⟩ | ⟨rfl, rfl, rfl, rfl, rfl, rfl⟩ <;> omega)) ((hsp.2.2.2.2.2.2.2.2 b q_3.2.1.1 q_3.2.1.2).1) ?_
    refine w_c2 (pc' := 37) k86_35 rfl ?_
    refine w_callE (pc' := 40) (as := [.inr (some 17), .inr (some s), .inl _, .inl _, .inl _]) k86_37 rfl rfl (co_v rfl rfl (hL.1 17 (9, 3) rfl)) (by decide) (m62 hF0 (edge_r hK q_3.1) (edge_r hK q_3.2.1)) ?_
    refine w_goto k86_40 ?_
    exact w_reti k86_44 ⟨by unfold wysS; rw [if_pos q_3], rfl⟩
  · refine w_if_eq (pc' := 9) k86_6 rfl (fun _ => ?_) (fun c_6 => absurd c_6 (by decide))
    refine w_c1 (pc' := 44) k86_43 rfl ?_
    exact w_reti k86_44 ⟨by unfold wysS; rw [if_neg q_3], rfl⟩
/-- pairs: what is asked, and the answer -/
def pairR (H E HO : Int) (A : AS) (w v : Int) : Prop := (w = 0 ∧ v = joinS H E (opC A (-4))) ∨ (w = 1 ∧ v = svS (gA H E A) HO E) ∨ (w = 2 ∧ ∃ m, MM (waysS H E (opC A (-4))) (fun e o => (0 ≤ e ∧ e < E) ∧ (0 ≤ o ∧ o < E) ∧ 0 < prS H e o) v m) ∨ (w = 3 ∧ ∃ f, MM (waysS H E (opC A (-4))) (fun e o => (0 ≤ e ∧ e < E) ∧ (0 ≤ o ∧ o < E) ∧ 0 < prS H e o) f v) ∨ ((w < 0 ∨ 3 < w) ∧ v = -1)
/-- a question whose answer is fixed by a relation -/
abbrev QR (X : Nat × (Int → Int)) (d y : Nat) (as : List VV) (sh : List (Nat × Nat)) (R : Nat → Nat → Option Nat) (I : Nat → Int → Int) (P : Int → Prop) : Prop := WPM X d y as (sh, R, I) 0 0 (fun r h' => ∃ v, r = .inl v ∧ P v ∧ ∃ I', h' = (sh, R, I') ∧ ∀ a, a < 12 ∨ 24 < a → I' a = I a)
theorem m87 (hF : CF sh R I K H E HO S L B s g_s M_s A) (t7 : R 0 7 = some s) {w : Int} : QR X (d + 6) 87 [.inr (some 0), .inl w] sh R I (pairR H E HO A w) := by
  have hF0 := hF
  obtain ⟨hL, hK, hsp, h_s, m_s, n_s, hg, hM, hLS, hcs, hab, hB⟩ := hF
  have hr := hK.r
  show WP X (d + 6) 87 0 [.inr (some 0), .inl w] [] (sh, R, I) 0 0 _
  refine w_iload (pc' := 1) k87_0 rfl rfl ?_
  refine w_swt k87_1 (fun i b hb e_1 => ?_) (fun e_1 => ?_)
  · match i, hb with
    | 0, hb =>
      obtain rfl : 32 = b := Option.some.inj hb
      refine w_aload (pc' := 33) k87_32 rfl rfl ?_
      refine w_getR (pc' := 36) (v := 17) k87_33 rfl (hL.1 0 (10, 12) rfl) (hL.2 0 4 17 rfl) ?_
      refine w_aload (pc' := 37) k87_36 rfl rfl ?_
      refine w_getR (pc' := 40) (v := s) k87_37 rfl (hL.1 0 (10, 12) rfl) t7 ?_
      refine w_c2 (pc' := 42) k87_40 rfl ?_
      refine w_callE (pc' := 45) (as := [.inr (some 17), .inr (some s), .inl _]) k87_42 rfl rfl (co_v rfl rfl (hL.1 17 (9, 3) rfl)) (by decide) (m66 hF0) ?_
      exact w_reti k87_45 ⟨_, rfl, Or.inl ⟨by omega, rfl⟩, _, rfl, fun a q => rfl⟩
    | 1, hb =>
      obtain rfl : 46 = b := Option.some.inj hb
      refine w_aload (pc' := 47) k87_46 rfl rfl ?_
      refine w_getR (pc' := 50) (v := 18) k87_47 rfl (hL.1 0 (10, 12) rfl) (hL.2 0 5 18 rfl) ?_
      refine w_aload (pc' := 51) k87_50 rfl rfl ?_
      refine w_getR (pc' := 54) (v := s) k87_51 rfl (hL.1 0 (10, 12) rfl) t7 ?_
      refine w_callV (pc' := 57) (as := [.inr (some 18), .inr (some s)]) k87_54 rfl rfl (co_v rfl rfl (hL.1 18 (2, 5) rfl)) (by decide) (m1 hF0) (fun r_54 h_54 hq => ?_)
      obtain ⟨I_1, rfl, sv⟩ := hq
      refine w_aload (pc' := 58) k87_57 rfl rfl ?_
      refine w_getR (pc' := 61) (v := 18) k87_58 rfl (hL.1 0 (10, 12) rfl) (hL.2 0 5 18 rfl) ?_
      refine w_getI (pc' := 64) (ki := 4) (v := svS (gA H E A) HO E) k87_61 rfl (hL.1 18 (2, 5) rfl) rfl sv.2.1 ?_
      exact w_reti k87_64 ⟨_, rfl, Or.inr (Or.inl ⟨by omega, rfl⟩), _, rfl, fun a q => sv.1 a (by omega)⟩
    | 2, hb =>
      obtain rfl : 65 = b := Option.some.inj hb
      refine w_aload (pc' := 66) k87_65 rfl rfl ?_
      refine w_getR (pc' := 69) (v := 17) k87_66 rfl (hL.1 0 (10, 12) rfl) (hL.2 0 4 17 rfl) ?_
      refine w_aload (pc' := 70) k87_69 rfl rfl ?_
      refine w_getR (pc' := 73) (v := s) k87_70 rfl (hL.1 0 (10, 12) rfl) t7 ?_
      refine w_callV (pc' := 76) (as := [.inr (some 17), .inr (some s)]) k87_73 rfl rfl (co_v rfl rfl (hL.1 17 (9, 3) rfl)) (by decide) (m67 hF0) (fun r_73 h_73 hq => ?_)
      obtain ⟨I_1, rfl, t1, t2⟩ := hq
      refine w_aload (pc' := 77) k87_76 rfl rfl ?_
      refine w_getR (pc' := 80) (v := 17) k87_77 rfl (hL.1 0 (10, 12) rfl) (hL.2 0 4 17 rfl) ?_
      refine w_getI (pc' := 83) (ki := 1) k87_80 rfl (hL.1 17 (9, 3) rfl) rfl rfl ?_
      exact w_reti k87_83 ⟨_, rfl, Or.inr (Or.inr (Or.inl ⟨by omega, _, t2⟩)), _, rfl, fun a q => t1 a (by omega)⟩
    | 3, hb =>
      obtain rfl : 84 = b := Option.some.inj hb
      refine w_aload (pc' := 85) k87_84 rfl rfl ?_
      refine w_getR (pc' := 88) (v := 17) k87_85 rfl (hL.1 0 (10, 12) rfl) (hL.2 0 4 17 rfl) ?_
      refine w_aload (pc' := 89) k87_88 rfl rfl ?_
      refine w_getR (pc' := 92) (v := s) k87_89 rfl (hL.1 0 (10, 12) rfl) t7 ?_
      refine w_callV (pc' := 95) (as := [.inr (some 17), .inr (some s)]) k87_92 rfl rfl (co_v rfl rfl (hL.1 17 (9, 3) rfl)) (by decide) (m67 hF0) (fun r_92 h_92 hq => ?_)
      obtain ⟨I_1, rfl, t1, t2⟩ := hq
      refine w_aload (pc' := 96) k87_95 rfl rfl ?_
      refine w_getR (pc' := 99) (v := 17) k87_96 rfl (hL.1 0 (10, 12) rfl) (hL.2 0 4 17 rfl) ?_
      refine w_getI (pc' := 102) (ki := 2) k87_99 rfl (hL.1 17 (9, 3) rfl) rfl rfl ?_
      exact w_reti k87_102 ⟨_, rfl, Or.inr (Or.inr (Or.inr (Or.inl ⟨by omega, _, t2⟩))), _, rfl, fun a q => t1 a (by omega)⟩
    | i + 4, hb => exact absurd hb (by simp)
  · refine w_c1 (pc' := 104) k87_103 rfl ?_
    exact w_reti k87_104 ⟨_, rfl, Or.inr (Or.inr (Or.inr (Or.inr ⟨by simp at e_1; omega, rfl⟩))), _, rfl, fun a q => rfl⟩
theorem sumN_b {f : Int → Int} {C : Int} (h : ∀ i, 0 ≤ f i ∧ f i ≤ C) : ∀ n : Nat, 0 ≤ sumN f n ∧ sumN f n ≤ C * n
  | 0 => by simp [sumN]
  | n + 1 => by
    have h1 := sumN_b h n
    have h2 := h n
    have h3 : C * ((n + 1 : Nat) : Int) = C * n + C := by rw [Int.natCast_add, Int.mul_add]; simp
    rw [sumN, h3]; omega
theorem joinS_le {op : Int → Bool} (h1 : 1 ≤ H ∧ H ≤ 3) (h2 : 2 ≤ E ∧ E ≤ 18) : 0 ≤ joinS H E op ∧ joinS H E op ≤ 10000 := by
  have a1 : ∀ e, 0 ≤ sumN (jpS H E op e) E.toNat ∧ sumN (jpS H E op e) E.toNat ≤ 162 := fun e => by
    have := sumN_b (f := jpS H E op e) (C := 9) (fun o => jpS_le h1) E.toNat
    omega
  have := sumN_b (f := fun e => sumN (jpS H E op e) E.toNat) (C := 162) a1 E.toNat
  unfold joinS
  omega
def partS (H E L : Int) (A : AS) (l : Int) : Int := if 0 ≤ l ∧ l < L then joinS H E (opC A (-4)) - joinS H E (opC A l) else -1
theorem m88 (hF : CF sh R I K H E HO S L B s g_s M_s A) (t7 : R 0 7 = some s) {l : Int} : RV X (d + 6) 88 [.inr (some 0), .inl l] (sh, R, I) (partS H E L A l) := by
  have hF0 := hF
  obtain ⟨hL, hK, hsp, h_s, m_s, n_s, hg, hM, hLS, hcs, hab, hB⟩ := hF
  have hr := hK.r
  have j1 := joinS_le (E := E) (op := opC A (-4)) hr.1 hr.2.1
  have j2 := joinS_le (E := E) (op := opC A l) hr.1 hr.2.1
  show WP X (d + 6) 88 0 [.inr (some 0), .inl l] [] (sh, R, I) 0 0 _
  refine w_aload (pc' := 1) k88_0 rfl rfl ?_
  refine w_iload (pc' := 2) k88_1 rfl rfl ?_
  refine w_callB (pc' := 5) (as := [.inr (some 0), .inl _]) k88_2 rfl rfl (co_v rfl rfl (hL.1 0 (10, 12) rfl)) (by decide) (m100 hF0) (fun q_2 => ?_) (fun q_2 => ?_)
  · refine w_if_eq (pc' := 8) k88_5 rfl (fun c_5 => absurd c_5 (by decide)) (fun _ => ?_)
    refine w_aload (pc' := 9) k88_8 rfl rfl ?_
    refine w_getR (pc' := 12) (v := 17) k88_9 rfl (hL.1 0 (10, 12) rfl) (hL.2 0 4 17 rfl) ?_
    refine w_aload (pc' := 13) k88_12 rfl rfl ?_
    refine w_getR (pc' := 16) (v := s) k88_13 rfl (hL.1 0 (10, 12) rfl) t7 ?_
    refine w_c2 (pc' := 18) k88_16 rfl ?_
    refine w_callE (pc' := 21) (as := [.inr (some 17), .inr (some s), .inl _]) k88_18 rfl rfl (co_v rfl rfl (hL.1 17 (9, 3) rfl)) (by decide) (m66 hF0) ?_
    refine w_aload (pc' := 22) k88_21 rfl rfl ?_
    refine w_getR (pc' := 25) (v := 17) k88_22 rfl (hL.1 0 (10, 12) rfl) (hL.2 0 4 17 rfl) ?_
    refine w_aload (pc' := 26) k88_25 rfl rfl ?_
    refine w_getR (pc' := 29) (v := s) k88_26 rfl (hL.1 0 (10, 12) rfl) t7 ?_
    refine w_iload (pc' := 30) k88_29 rfl rfl ?_
    refine w_callE (pc' := 33) (as := [.inr (some 17), .inr (some s), .inl _]) k88_30 rfl rfl (co_v rfl rfl (hL.1 17 (9, 3) rfl)) (by decide) (m66 hF0) ?_
    refine w_isub (pc' := 34) k88_33 rfl (by first | omega | (rcases hK with ⟨rfl, rfl, rfl, rfl, rfl, rfl⟩ | ⟨rfl, rfl, rfl, rfl, rfl, rfl⟩ | ⟨rfl, rfl, rfl, rfl, rfl, rfl⟩ <;> omega)) ?_
    refine w_goto k88_34 ?_
    exact w_reti k88_38 ⟨by unfold partS; rw [if_pos q_2], rfl⟩
  · refine w_if_eq (pc' := 8) k88_5 rfl (fun _ => ?_) (fun c_5 => absurd c_5 (by decide))
    refine w_c1 (pc' := 38) k88_37 rfl ?_
    exact w_reti k88_38 ⟨by unfold partS; rw [if_neg q_2], rfl⟩
def spreS (H E HO L : Int) (A : AS) (w : Int) : Int := if 0 ≤ w ∧ w ≤ 3 then (if w = 0 then mxF (fun l => svS (gU H E A l) HO E) (fun l => ev (aAg A l)) L.toNat else if w = 1 then lsF (fun l => svS (gU H E A l) HO E) (fun l => ev (aAg A l)) L.toNat else if w = 2 then mxF (fun l => svS (gD H E A l) HO E) (fun l => ev (aAg A l)) L.toNat else lsF (fun l => svS (gD H E A l) HO E) (fun l => ev (aAg A l)) L.toNat) else -1
theorem mxF_ext {f g : Int → Int} {P : Int → Bool} : ∀ n : Nat, (∀ i : Nat, i < n → f i = g i) → mxF f P n = mxF g P n
  | 0, _ => rfl
  | n + 1, h => by rw [mxF, mxF, mxF_ext n (fun i hi => h i (by omega)), h n (by omega)]
theorem lsF_ext {f g : Int → Int} {P : Int → Bool} : ∀ n : Nat, (∀ i : Nat, i < n → f i = g i) → lsF f P n = lsF g P n
  | 0, _ => rfl
  | n + 1, h => by rw [lsF, lsF, lsF_ext n (fun i hi => h i (by omega)), h n (by omega)]
theorem svS_le (hK : KP K H E HO S L) {g : Int → Int → Int} (h : ∀ e b, 0 ≤ g e b ∧ g e b ≤ 12) : 0 ≤ svS g HO E ∧ svS g HO E ≤ 100000 := by
  have hr := hK.r
  rw [← pS_e]
  have := pS_le (g := g) (HO := HO) (C := 12) (a := E.toNat) (i := 0) h (by omega) (by omega) (by omega) (by omega) (by omega)
  omega
theorem m89 (hF : CF sh R I K H E HO S L B s g_s M_s A) (t7 : R 0 7 = some s) {w : Int} : QQ X (d + 6) 89 [.inr (some 0), .inl w] sh R I (spreS H E HO L A w) := by
  have hF0 := hF
  obtain ⟨hL, hK, hsp, h_s, m_s, n_s, hg, hM, hLS, hcs, hab, hB⟩ := hF
  have hr := hK.r
  show WP X (d + 6) 89 0 [.inr (some 0), .inl w, .inr none] [] (sh, R, I) 0 0 _
  refine w_iload (pc' := 1) k89_0 rfl rfl ?_
  refine w_if_lt (pc' := 4) k89_1 rfl (fun c_1 => ?_) (fun c_1 => ?_)
  · refine w_c1 (pc' := 10) k89_9 rfl ?_
    exact w_reti k89_10 ⟨by unfold spreS; rw [if_neg (by omega)], _, rfl, fun a q => rfl⟩
  · refine w_iload (pc' := 5) k89_4 rfl rfl ?_
    refine w_c1 (pc' := 6) k89_5 rfl ?_
    refine w_ic_le (pc' := 9) k89_6 rfl (fun c_6 => ?_) (fun c_6 => ?_)
    · refine w_aload (pc' := 12) k89_11 rfl rfl ?_
      refine w_getR (pc' := 15) (v := 18) k89_12 rfl (hL.1 0 (10, 12) rfl) (hL.2 0 5 18 rfl) ?_
      refine w_aload (pc' := 16) k89_15 rfl rfl ?_
      refine w_getR (pc' := 19) (v := s) k89_16 rfl (hL.1 0 (10, 12) rfl) t7 ?_
      refine w_callV (pc' := 22) (as := [.inr (some 18), .inr (some s)]) k89_19 rfl rfl (co_v rfl rfl (hL.1 18 (2, 5) rfl)) (by decide) (m1 hF0) (fun r_19 h_19 hq => ?_)
      obtain ⟨I_1, rfl, sv⟩ := hq
      have hF1 : CF sh R I_1 K H E HO S L B s g_s M_s A := hF0.keep (fun a q => sv.1 a (by omega))
      have b19 : ∀ l, 0 ≤ l → l < L → 0 ≤ I_1 19 l ∧ I_1 19 l ≤ 100000 := fun l q1 q2 => by rw [(sv.2.2 l q1 q2).1]; exact svS_le hK (fun e b => gU_le hr.1)
      have b20 : ∀ l, 0 ≤ l → l < L → 0 ≤ I_1 20 l ∧ I_1 20 l ≤ 100000 := fun l q1 q2 => by rw [(sv.2.2 l q1 q2).2]; exact svS_le hK (fun e b => gD_le hr.1)
      refine w_iload (pc' := 23) k89_22 rfl rfl ?_
      refine w_c1 (pc' := 24) k89_23 rfl ?_
      refine w_ic_ge (pc' := 27) k89_24 rfl (fun c_24 => ?_) (fun c_24 => ?_)
      · refine w_aload (pc' := 38) k89_37 rfl rfl ?_
        refine w_getR (pc' := 41) (v := 18) k89_38 rfl (hL.1 0 (10, 12) rfl) (hL.2 0 5 18 rfl) ?_
        refine w_getR (pc' := 44) (v := 20) k89_41 rfl (hL.1 18 (2, 5) rfl) (hL.2 18 3 20 rfl) ?_
        refine w_astore (pc' := 45) (ls' := [_, _, _]) k89_44 rfl rfl rfl ?_
        refine w_iload (pc' := 46) k89_45 rfl rfl ?_
        refine w_c1 (pc' := 47) k89_46 rfl ?_
        refine w_irem (pc' := 48) k89_47 rfl (by first | omega | (rcases hK with ⟨rfl, rfl, rfl, rfl, rfl, rfl⟩ | ⟨rfl, rfl, rfl, rfl, rfl, rfl⟩ | ⟨rfl, rfl, rfl, rfl, rfl, rfl⟩ <;> omega)) ?_
        refine w_if_ne (pc' := 51) k89_48 rfl (fun c_48 => ?_) (fun c_48 => ?_)
        · refine w_aload (pc' := 67) k89_66 rfl rfl ?_
          refine w_getR (pc' := 70) (v := 18) k89_67 rfl (hL.1 0 (10, 12) rfl) (hL.2 0 5 18 rfl) ?_
          refine w_aload (pc' := 71) k89_70 rfl rfl ?_
          refine w_getR (pc' := 74) (v := s) k89_71 rfl (hL.1 0 (10, 12) rfl) t7 ?_
          refine w_aload (pc' := 75) k89_74 rfl rfl ?_
          refine w_callE (pc' := 78) (as := [.inr (some 18), .inr (some s), .inr (some 20)]) k89_75 rfl rfl (co_v rfl rfl (hL.1 18 (2, 5) rfl)) (by decide) (m4 hF1 (hL.1 _ (0, 108) rfl) (by first | exact b19 | exact b20)) ?_
          exact w_reti k89_78 ⟨by unfold spreS; rw [if_pos (by omega), if_neg (by omega), if_neg (by omega), if_neg (by omega)]; exact congrArg Sum.inl (lsF_ext L.toNat (fun i hi => (sv.2.2 i (by omega) (by omega)).2)), _, rfl, fun a q => sv.1 a (by omega)⟩
        · refine w_aload (pc' := 52) k89_51 rfl rfl ?_
          refine w_getR (pc' := 55) (v := 18) k89_52 rfl (hL.1 0 (10, 12) rfl) (hL.2 0 5 18 rfl) ?_
          refine w_aload (pc' := 56) k89_55 rfl rfl ?_
          refine w_getR (pc' := 59) (v := s) k89_56 rfl (hL.1 0 (10, 12) rfl) t7 ?_
          refine w_aload (pc' := 60) k89_59 rfl rfl ?_
          refine w_callE (pc' := 63) (as := [.inr (some 18), .inr (some s), .inr (some 20)]) k89_60 rfl rfl (co_v rfl rfl (hL.1 18 (2, 5) rfl)) (by decide) (m3 hF1 (hL.1 _ (0, 108) rfl) (by first | exact b19 | exact b20)) ?_
          refine w_goto k89_63 ?_
          exact w_reti k89_78 ⟨by unfold spreS; rw [if_pos (by omega), if_neg (by omega), if_neg (by omega), if_pos (by omega)]; exact congrArg Sum.inl (mxF_ext L.toNat (fun i hi => (sv.2.2 i (by omega) (by omega)).2)), _, rfl, fun a q => sv.1 a (by omega)⟩
      · refine w_aload (pc' := 28) k89_27 rfl rfl ?_
        refine w_getR (pc' := 31) (v := 18) k89_28 rfl (hL.1 0 (10, 12) rfl) (hL.2 0 5 18 rfl) ?_
        refine w_getR (pc' := 34) (v := 19) k89_31 rfl (hL.1 18 (2, 5) rfl) (hL.2 18 2 19 rfl) ?_
        refine w_goto k89_34 ?_
        refine w_astore (pc' := 45) (ls' := [_, _, _]) k89_44 rfl rfl rfl ?_
        refine w_iload (pc' := 46) k89_45 rfl rfl ?_
        refine w_c1 (pc' := 47) k89_46 rfl ?_
        refine w_irem (pc' := 48) k89_47 rfl (by first | omega | (rcases hK with ⟨rfl, rfl, rfl, rfl, rfl, rfl⟩ | ⟨rfl, rfl, rfl, rfl, rfl, rfl⟩ | ⟨rfl, rfl, rfl, rfl, rfl, rfl⟩ <;> omega)) ?_
        refine w_if_ne (pc' := 51) k89_48 rfl (fun c_48 => ?_) (fun c_48 => ?_)
        · refine w_aload (pc' := 67) k89_66 rfl rfl ?_
          refine w_getR (pc' := 70) (v := 18) k89_67 rfl (hL.1 0 (10, 12) rfl) (hL.2 0 5 18 rfl) ?_
          refine w_aload (pc' := 71) k89_70 rfl rfl ?_
          refine w_getR (pc' := 74) (v := s) k89_71 rfl (hL.1 0 (10, 12) rfl) t7 ?_
          refine w_aload (pc' := 75) k89_74 rfl rfl ?_
          refine w_callE (pc' := 78) (as := [.inr (some 18), .inr (some s), .inr (some 19)]) k89_75 rfl rfl (co_v rfl rfl (hL.1 18 (2, 5) rfl)) (by decide) (m4 hF1 (hL.1 _ (0, 108) rfl) (by first | exact b19 | exact b20)) ?_
          exact w_reti k89_78 ⟨by unfold spreS; rw [if_pos (by omega), if_neg (by omega), if_pos (by omega)]; exact congrArg Sum.inl (lsF_ext L.toNat (fun i hi => (sv.2.2 i (by omega) (by omega)).1)), _, rfl, fun a q => sv.1 a (by omega)⟩
        · refine w_aload (pc' := 52) k89_51 rfl rfl ?_
          refine w_getR (pc' := 55) (v := 18) k89_52 rfl (hL.1 0 (10, 12) rfl) (hL.2 0 5 18 rfl) ?_
          refine w_aload (pc' := 56) k89_55 rfl rfl ?_
          refine w_getR (pc' := 59) (v := s) k89_56 rfl (hL.1 0 (10, 12) rfl) t7 ?_
          refine w_aload (pc' := 60) k89_59 rfl rfl ?_
          refine w_callE (pc' := 63) (as := [.inr (some 18), .inr (some s), .inr (some 19)]) k89_60 rfl rfl (co_v rfl rfl (hL.1 18 (2, 5) rfl)) (by decide) (m3 hF1 (hL.1 _ (0, 108) rfl) (by first | exact b19 | exact b20)) ?_
          refine w_goto k89_63 ?_
          exact w_reti k89_78 ⟨by unfold spreS; rw [if_pos (by omega), if_pos (by omega)]; exact congrArg Sum.inl (mxF_ext L.toNat (fun i hi => (sv.2.2 i (by omega) (by omega)).1)), _, rfl, fun a q => sv.1 a (by omega)⟩
    · refine w_c1 (pc' := 10) k89_9 rfl ?_
      exact w_reti k89_10 ⟨by unfold spreS; rw [if_neg (by omega)], _, rfl, fun a q => rfl⟩
end C44
