/-! ===== CLASS: ticks ===== -/
section C38
variable {X : Nat × (Int → Int)} {d : Nat} {sh : List (Nat × Nat)} {R : Nat → Nat → Option Nat} {I : Nat → Int → Int} {s g_s M_s : Nat} {K H E HO S L B : Int} {A : AS}
theorem cnt_0 {P : Int → Bool} : ∀ n : Nat, cnt P n ≤ 0 → ∀ i : Nat, i < n → P i = false
  | 0, _, i, hi => absurd hi (by omega)
  | n + 1, h, i, hi => by
    have h1 := cnt_le P n
    rw [cnt_s] at h
    by_cases e : P n = true
    · rw [if_pos e] at h; omega
    · rw [if_neg e] at h
      rcases (show i < n ∨ i = n by omega) with q | q
      · exact cnt_0 n (by omega) i q
      · subst q; simpa using e
theorem cnt_z {P : Int → Bool} : ∀ n : Nat, (∀ i : Nat, i < n → P i = false) → cnt P n = 0
  | 0, _ => rfl
  | n + 1, h => by rw [cnt_f (h n (by omega))]; exact cnt_z n (fun i hi => h i (by omega))
theorem tkF_c {ag m0 : Int → Int} {c : Int} (hK : KP K H E HO S L) (hm : ∀ n, 0 ≤ n → n < S → m0 n = c) : ∀ k : Nat, (k : Int) ≤ L → ∀ n, 0 ≤ n → n < S → tkF H E ag m0 k n = c
  | 0, _, n, h1, h2 => hm n h1 h2
  | k + 1, hk, n, h1, h2 => by
    have hu := up_ne hK (l := k) ⟨by omega, by omega⟩
    have ih := tkF_c (ag := ag) hK hm k (by omega)
    have a1 := hm _ hu.2.1.1 hu.2.1.2
    have a2 := hm _ hu.2.2.1 hu.2.2.2
    have a3 := ih _ hu.2.1.1 hu.2.1.2
    have a4 := ih _ hu.2.2.1 hu.2.2.2
    have a5 := ih n h1 h2
    rw [tkF]
    split
    · unfold upF
      split
      · omega
      · split <;> omega
    · exact a5
theorem tkN_c {ag m0 : Int → Int} {c : Int} {t : Nat} (hK : KP K H E HO S L) (hm : ∀ n, 0 ≤ n → n < S → tkN H E L ag m0 t n = c) : ∀ k : Nat, ∀ n, 0 ≤ n → n < S → tkN H E L ag m0 (t + k) n = c
  | 0, n, h1, h2 => hm n h1 h2
  | k + 1, n, h1, h2 => by
    have hr := hK.r
    rw [show t + (k + 1) = t + k + 1 by omega, tkN]
    exact tkF_c hK (tkN_c hK hm k) L.toNat (by omega) n h1 h2
theorem tkN_r {ag m0 : Int → Int} (hK : KP K H E HO S L) (hm : ∀ n, 0 ≤ n → n < S → 0 ≤ m0 n ∧ m0 n ≤ B) : ∀ t : Nat, ∀ n, 0 ≤ n → n < S → 0 ≤ tkN H E L ag m0 t n ∧ tkN H E L ag m0 t n ≤ B
  | 0, n, h1, h2 => hm n h1 h2
  | t + 1, n, h1, h2 => by
    have hr := hK.r
    rw [tkN]
    exact tkF_r hK (tkN_r hK hm t) L.toNat (by omega) n h1 h2
theorem tkD_le {ag m0 : Int → Int} {t : Int} (hS : 0 ≤ S ∧ S ≤ 45) : 0 ≤ tkD H E S L ag m0 t ∧ tkD H E S L ag m0 t ≤ 45 := by
  have := cnt_le (fun n => decide (tkN H E L ag m0 (t.toNat + 1) n ≠ tkN H E L ag m0 t.toNat n)) S.toNat
  unfold tkD
  omega
/-- on the way: links below n are through, n has had t ticks -/
def midA (H E L : Int) (A : AS) (T n t : Nat) : AS := (aAg A, fun a j => if j < (n : Int) then tkN H E L (aAg A) (fun a => aMk A a j) T a else if j = (n : Int) then tkN H E L (aAg A) (fun a => aMk A a j) t a else aMk A a j, A.2.2)
theorem mid_AB (hK : KP K H E HO S L) (h : AB H HO S L B A) {T n t : Nat} : AB H HO S L B (midA H E L A T n t) := by
  refine ⟨h.1, fun a j h1 h2 h3 h4 => ?_, h.2.2⟩
  have hm : ∀ a, 0 ≤ a → a < S → 0 ≤ aMk A a j ∧ aMk A a j ≤ B := fun a q1 q2 => h.2.1 a j q1 q2 h3 h4
  show 0 ≤ (if j < (n : Int) then tkN H E L (aAg A) (fun a => aMk A a j) T a else if j = (n : Int) then tkN H E L (aAg A) (fun a => aMk A a j) t a else aMk A a j) ∧ (if j < (n : Int) then tkN H E L (aAg A) (fun a => aMk A a j) T a else if j = (n : Int) then tkN H E L (aAg A) (fun a => aMk A a j) t a else aMk A a j) ≤ B
  split
  · exact tkN_r hK hm T a h1 h2
  · split
    · exact tkN_r hK hm t a h1 h2
    · exact hm a h1 h2
/-- a world with other marks -/
theorem CF.marks (hF : CF sh R I K H E HO S L B s g_s M_s A) {I1 : Nat → Int → Int} {A1 : AS} (h1 : ∀ a, a ≠ g_s → a ≠ 16 → I1 a = I a) (h2 : ∀ a j, 0 ≤ a → a < S → 0 ≤ j → j < L → I1 g_s (j * S + a) = aMk A1 a j) (h3 : aAg A1 = aAg A ∧ A1.2.2 = A.2.2) (h4 : AB H HO S L B A1) : CF sh R I1 K H E HO S L B s g_s M_s A1 := by
  obtain ⟨hL, hK, hsp, h_s, m_s, n_s, hg, hM, hLS, hcs, hab, hB⟩ := hF
  have hsg : s + 5 < g_s ∧ 25 ≤ s := by rcases h_s with rfl | rfl | rfl | rfl <;> omega
  refine ⟨hL, hK, hsp.keep (fun a q1 q2 => h1 a (by omega) (by omega)), h_s, m_s, n_s, hg, hM, hLS, ⟨?_, ?_, ?_, fun l q1 q2 => ?_, fun n l q1 q2 q3 q4 => h2 n l q1 q2 q3 q4, fun f q1 q2 => ?_⟩, h4, hB⟩
  · rw [h1 _ (by omega) (by omega)]; show _ = A1.2.2.1; rw [h3.2]; exact hcs.1
  · rw [h1 _ (by omega) (by omega)]; exact hcs.2.1
  · rw [h1 _ (by omega) (by omega)]; exact hcs.2.2.1
  · rw [h1 _ (by omega) (by omega), h3.1]; exact hcs.2.2.2.1 l q1 q2
  · have q2 : f < A1.2.2.1 := q2
    rw [h3.2] at q2
    rw [h1 _ (by omega) (by omega), h1 _ (by omega) (by omega), h1 _ (by omega) (by omega), h1 _ (by omega) (by omega)]
    show _ = A1.2.2.2.1 f ∧ _ = A1.2.2.2.2.1 f ∧ _ = A1.2.2.2.2.2.1 f ∧ _ = A1.2.2.2.2.2.2 f
    rw [h3.2]
    exact hcs.2.2.2.2.2 f q1 q2
theorem m59i (hF : CF sh R I K H E HO S L B s g_s M_s A) {T n N : Nat} (hT : T ≤ 9) (hN : L = (N : Int)) (hn : n < N) {z0 : Int} (hz : 0 ≤ z0 ∧ z0 ≤ 100000) {Q : VV → Hp → Prop} (hex : ∀ (v5 : VV) (I1 : Nat → Int → Int), (∀ a, a ≠ g_s → a ≠ 16 → I1 a = I a) → (∀ a j, 0 ≤ a → a < S → 0 ≤ j → j < L → I1 g_s (j * S + a) = aMk (midA H E L A T n T) a j) → WP X (d + 3) 59 51 [.inr (some 15), .inr (some s), .inl (T : Int), .inl (z0 + sumN (tkD H E S L (aAg A) (fun a => aMk A a (n : Int))) T), .inl (n : Int), v5] [] (sh, R, I1) 0 0 Q) : ∀ (k t : Nat) (i z : Int) (I1 : Nat → Int → Int), t + k = T → i = (t : Int) → z = z0 + sumN (tkD H E S L (aAg A) (fun a => aMk A a (n : Int))) t → (∀ a, a ≠ g_s → a ≠ 16 → I1 a = I a) → (∀ a j, 0 ≤ a → a < S → 0 ≤ j → j < L → I1 g_s (j * S + a) = aMk (midA H E L A T n t) a j) → WP X (d + 3) 59 20 [.inr (some 15), .inr (some s), .inl (T : Int), .inl z, .inl (n : Int), .inl i] [] (sh, R, I1) 0 0 Q := by
  have hK := hF.2.1
  have hr := hK.r
  have hab := hF.2.2.2.2.2.2.2.2.2.2.1
  intro k
  induction k with
  | zero =>
    rintro t i z I1 hk rfl rfl h1 h2
    have e9 : t = T := by omega
    subst e9
    refine w_iload (pc' := 22) k59_20 rfl rfl ?_
    refine w_iload (pc' := 23) k59_22 rfl rfl ?_
    refine w_ic_ge (pc' := 26) k59_23 rfl (fun c_23 => ?_) (fun c_23 => absurd c_23 (by omega))
    exact hex _ _ h1 h2
  | succ k ih =>
    rintro t i z I1 hk rfl rfl h1 h2
    have hF1 : CF sh R I1 K H E HO S L B s g_s M_s (midA H E L A T n t) := hF.marks h1 h2 ⟨rfl, rfl⟩ (mid_AB hK hab)
    obtain ⟨hL, -, hsp, h_s, m_s, n_s, -⟩ := id hF1
    have hs9 := sumN_le (f := (tkD H E S L (aAg A) (fun a => aMk A a (n : Int)))) (C := 45) t (fun i _ => tkD_le (by omega))
    have hd9 := tkD_le (H := H) (E := E) (L := L) (ag := aAg A) (m0 := fun a => aMk A a (n : Int)) (t := t) (S := S) (by omega)
    have hcol : (fun a => aMk (midA H E L A T n t) a (n : Int)) = tkN H E L (aAg A) (fun a => aMk A a (n : Int)) t := by
      funext a
      show (if (n : Int) < (n : Int) then _ else if (n : Int) = (n : Int) then _ else _) = _
      rw [if_neg (by omega), if_pos rfl]
    have hcol2 : ∀ a, aMk (midA H E L A T n t) a (n : Int) = tkN H E L (aAg A) (fun a => aMk A a (n : Int)) t a := fun a => congrFun hcol a
    refine w_iload (pc' := 22) k59_20 rfl rfl ?_
    refine w_iload (pc' := 23) k59_22 rfl rfl ?_
    refine w_ic_ge (pc' := 26) k59_23 rfl (fun c_23 => absurd c_23 (by omega)) (fun c_23 => ?_)
    refine w_aload (pc' := 27) k59_26 rfl rfl ?_
    refine w_iload (pc' := 29) k59_27 rfl rfl ?_
    refine w_callE (pc' := 32) (as := [.inr (some s), .inl _]) k59_29 rfl rfl (co_v rfl rfl (hL.s0 h_s)) (by decide) (m55 hF1 (l := (n : Int)) (by omega)) ?_
    refine w_if_le (pc' := 35) k59_32 rfl (fun c_32 => ?_) (fun c_32 => ?_)
    · have hall : ∀ a, 0 ≤ a → a < S → tkN H E L (aAg A) (fun a => aMk A a (n : Int)) t a = aAg A n := fun a q1 q2 => by
        have := cnt_0 S.toNat c_32 a.toNat (by omega)
        rw [show ((a.toNat : Nat) : Int) = a by omega] at this
        have := of_decide_eq_false this
        rw [← hcol2 a]
        exact Decidable.byContradiction this
      have hlater := tkN_c (ag := aAg A) (m0 := fun a => aMk A a (n : Int)) hK hall
      have hzero : ∀ j : Nat, sumN (tkD H E S L (aAg A) (fun a => aMk A a (n : Int))) (t + j) = sumN (tkD H E S L (aAg A) (fun a => aMk A a (n : Int))) t := fun j => by
        induction j with
        | zero => rfl
        | succ j ihj =>
          rw [show t + (j + 1) = t + j + 1 by omega, sumN, ihj]
          have e7 : tkD H E S L (aAg A) (fun a => aMk A a (n : Int)) ((t + j : Nat) : Int) = 0 := by
            unfold tkD
            refine cnt_z _ (fun i hi => ?_)
            rw [show (((t + j : Nat) : Int)).toNat = t + j by omega, hlater j i (by omega) (by omega), show t + j + 1 = t + (j + 1) by omega, hlater (j + 1) i (by omega) (by omega)]
            simp
          rw [e7]; omega
      have e8 := hzero (k + 1)
      rw [show t + (k + 1) = T by omega] at e8
      rw [← e8]
      refine hex _ _ h1 (fun a j q1 q2 q3 q4 => ?_)
      rw [h2 a j q1 q2 q3 q4]
      show (if j < (n : Int) then _ else if j = (n : Int) then tkN H E L (aAg A) (fun a => aMk A a j) t a else _) = (if j < (n : Int) then _ else if j = (n : Int) then tkN H E L (aAg A) (fun a => aMk A a j) T a else _)
      by_cases e1 : j < (n : Int)
      · rw [if_pos e1, if_pos e1]
      · rw [if_neg e1, if_neg e1]
        by_cases e2 : j = (n : Int)
        · subst e2; rw [if_pos rfl, if_pos rfl, hall a q1 q2, show T = t + (k + 1) by omega, hlater (k + 1) a q1 q2]
        · rw [if_neg e2, if_neg e2]
    · refine w_iload (pc' := 36) k59_35 rfl rfl ?_
      refine w_aload (pc' := 37) k59_36 rfl rfl ?_
      refine w_aload (pc' := 38) k59_37 rfl rfl ?_
      refine w_iload (pc' := 40) k59_38 rfl rfl ?_
      refine w_callI (pc' := 43) (as := [.inr (some 15), .inr (some s), .inl _]) k59_40 rfl rfl (co_v rfl rfl (hL.1 15 (8, 2) rfl)) (by decide) (m60 hF1 (l := (n : Int)) (by omega)) (fun z_40 h_40 hq => ?_)
      obtain ⟨hz9, I2, rfl, h3, h4⟩ := hq
      have hz8 : z_40 = tkD H E S L (aAg A) (fun a => aMk A a (n : Int)) t := by
        have hz9 := Sum.inl.inj hz9
        rw [hz9, hcol]
        unfold tkD
        refine cnt_ext (fun i _ => ?_)
        rw [hcol2, show ((t : Nat) : Int).toNat = t by omega, tkN]
        rfl
      subst hz8
      refine w_iadd (pc' := 44) k59_43 rfl (by omega) ?_
      refine w_istore (pc' := 45) (ls' := [_, _, _, _, _, _]) k59_44 rfl rfl rfl ?_
      refine w_iinc (pc' := 48) (ls' := [_, _, _, _, _, _]) k59_45 rfl rfl (by omega) rfl ?_
      refine w_goto k59_48 ?_
      refine ih (t + 1) _ _ _ (by omega) (by omega) (by rw [sumN]; omega) (fun a q1 q2 => by rw [h3 a q1 q2]; exact h1 a q1 q2) (fun a j q1 q2 q3 q4 => ?_)
      rw [h4 a j q1 q2 q3 q4, hcol]
      show (if j = (n : Int) then tk1 H E L (aAg A) (tkN H E L (aAg A) (fun a => aMk A a (n : Int)) t) a else (if j < (n : Int) then _ else if j = (n : Int) then _ else _)) = (if j < (n : Int) then _ else if j = (n : Int) then tkN H E L (aAg A) (fun a => aMk A a j) (t + 1) a else _)
      by_cases e2 : j = (n : Int)
      · subst e2; rw [if_pos rfl, if_neg (by omega), if_pos rfl]; rfl
      · rw [if_neg e2, if_neg e2, if_neg e2]
theorem m59l (hF : CF sh R I K H E HO S L B s g_s M_s A) {T N : Nat} (hT : T ≤ 9) (hN : L = (N : Int)) : ∀ (k n : Nat) (i z : Int) (v5 : VV) (I1 : Nat → Int → Int), n + k = N → i = (n : Int) → z = sumN (fun l => sumN (tkD H E S L (aAg A) (fun n => aMk A n l)) T) n → (∀ a, a ≠ g_s → a ≠ 16 → I1 a = I a) → (∀ a j, 0 ≤ a → a < S → 0 ≤ j → j < L → I1 g_s (j * S + a) = aMk (midA H E L A T n 0) a j) → WP X (d + 3) 59 5 [.inr (some 15), .inr (some s), .inl (T : Int), .inl z, .inl i, v5] [] (sh, R, I1) 0 0 (fun r h' => r = .inl (tickS H E S L A T) ∧ ∃ I', h' = (sh, R, I') ∧ (∀ a, a ≠ g_s → a ≠ 16 → I' a = I a) ∧ (∀ a j, 0 ≤ a → a < S → 0 ≤ j → j < L → I' g_s (j * S + a) = aMk (tickA H E L A T) a j)) := by
  have hK := hF.2.1
  have hr := hK.r
  have hab := hF.2.2.2.2.2.2.2.2.2.2.1
  intro k
  induction k with
  | zero =>
    rintro n i z v5 I1 hk rfl rfl h1 h2
    have hF1 : CF sh R I1 K H E HO S L B s g_s M_s (midA H E L A T n 0) := hF.marks h1 h2 ⟨rfl, rfl⟩ (mid_AB hK hab)
    obtain ⟨hL, -, hsp, h_s, m_s, n_s, -⟩ := id hF1
    have e9 : n = N := by omega
    subst e9
    refine w_iload (pc' := 7) k59_5 rfl rfl ?_
    refine w_aload (pc' := 8) k59_7 rfl rfl ?_
    refine w_getR (pc' := 11) (v := 3) k59_8 rfl (hL.1 15 (8, 2) rfl) (hL.2 15 0 3 rfl) ?_
    refine w_getI (pc' := 14) (ki := 5) (v := L) k59_11 rfl (hL.1 3 (5, 14) rfl) rfl hsp.2.2.2.2.2.1 ?_
    refine w_ic_ge (pc' := 17) k59_14 rfl (fun c_14 => ?_) (fun c_14 => absurd c_14 (by omega))
    refine w_iload (pc' := 58) k59_57 rfl rfl ?_
    refine w_reti k59_58 ⟨by unfold tickS; rw [show L.toNat = n by omega], _, rfl, h1, fun a j q1 q2 q3 q4 => ?_⟩
    rw [h2 a j q1 q2 q3 q4]
    show (if j < (n : Int) then _ else _) = _
    rw [if_pos (by omega)]
    rfl
  | succ k ih =>
    rintro n i z v5 I1 hk rfl rfl h1 h2
    have hF1 : CF sh R I1 K H E HO S L B s g_s M_s (midA H E L A T n 0) := hF.marks h1 h2 ⟨rfl, rfl⟩ (mid_AB hK hab)
    obtain ⟨hL, -, hsp, h_s, m_s, n_s, -⟩ := id hF1
    have hs9 := sumN_le (f := (fun l => sumN (tkD H E S L (aAg A) (fun n => aMk A n l)) T)) (C := 405) n (fun i _ => by have := sumN_le (f := tkD H E S L (aAg A) (fun n => aMk A n (i : Int))) (C := 45) T (fun i _ => tkD_le (by omega)); omega)
    refine w_iload (pc' := 7) k59_5 rfl rfl ?_
    refine w_aload (pc' := 8) k59_7 rfl rfl ?_
    refine w_getR (pc' := 11) (v := 3) k59_8 rfl (hL.1 15 (8, 2) rfl) (hL.2 15 0 3 rfl) ?_
    refine w_getI (pc' := 14) (ki := 5) (v := L) k59_11 rfl (hL.1 3 (5, 14) rfl) rfl hsp.2.2.2.2.2.1 ?_
    refine w_ic_ge (pc' := 17) k59_14 rfl (fun c_14 => absurd c_14 (by omega)) (fun c_14 => ?_)
    refine w_c1 (pc' := 18) k59_17 rfl ?_
    refine w_istore (pc' := 20) (ls' := [_, _, _, _, _, _]) k59_18 rfl rfl rfl ?_
    refine m59i hF hT hN (n := n) (z0 := sumN (fun l => sumN (tkD H E S L (aAg A) (fun n => aMk A n l)) T) n) (by omega) (by omega) (fun v9 I2 h3 h4 => ?_) T 0 _ _ _ (by omega) rfl (by simp [sumN]) h1 h2
    refine w_iinc (pc' := 54) (ls' := [_, _, _, _, _, _]) k59_51 rfl rfl (by omega) rfl ?_
    refine w_goto k59_54 ?_
    refine ih (n + 1) _ _ _ _ (by omega) (by omega) rfl h3 (fun a j q1 q2 q3 q4 => ?_)
    rw [h4 a j q1 q2 q3 q4]
    show (if j < (n : Int) then _ else if j = (n : Int) then tkN H E L (aAg A) (fun a => aMk A a j) T a else _) = (if j < ((n + 1 : Nat) : Int) then _ else if j = ((n + 1 : Nat) : Int) then tkN H E L (aAg A) (fun a => aMk A a j) 0 a else _)
    by_cases e1 : j < (n : Int)
    · rw [if_pos e1, if_pos (by omega)]
    · rw [if_neg e1]
      by_cases e2 : j = (n : Int)
      · rw [if_pos e2, if_pos (by omega)]
      · rw [if_neg e2, if_neg (by omega)]
        by_cases e3 : j = ((n + 1 : Nat) : Int)
        · rw [if_pos e3]; rfl
        · rw [if_neg e3]
theorem m59 (hF : CF sh R I K H E HO S L B s g_s M_s A) {T : Nat} (hT : T ≤ 9) : WPM X (d + 3) 59 [.inr (some 15), .inr (some s), .inl (T : Int)] (sh, R, I) 0 0 (fun r h' => r = .inl (tickS H E S L A T) ∧ ∃ I', h' = (sh, R, I') ∧ (∀ a, a ≠ g_s → a ≠ 16 → I' a = I a) ∧ (∀ a j, 0 ≤ a → a < S → 0 ≤ j → j < L → I' g_s (j * S + a) = aMk (tickA H E L A T) a j)) := by
  have hF0 := hF
  obtain ⟨hL, hK, hsp, h_s, m_s, n_s, hg, hM, hLS, hcs, hab, hB⟩ := hF
  have hr := hK.r
  show WP X (d + 3) 59 0 [.inr (some 15), .inr (some s), .inl (T : Int), .inr none, .inr none, .inr none] [] (sh, R, I) 0 0 _
  refine w_c1 (pc' := 1) k59_0 rfl ?_
  refine w_istore (pc' := 2) (ls' := [_, _, _, _, _, _]) k59_1 rfl rfl rfl ?_
  refine w_c1 (pc' := 3) k59_2 rfl ?_
  refine w_istore (pc' := 5) (ls' := [_, _, _, _, _, _]) k59_3 rfl rfl rfl ?_
  refine m59l hF0 hT (N := L.toNat) (by omega) L.toNat 0 _ _ _ _ (by omega) rfl rfl (fun _ _ _ => rfl) (fun a j q1 q2 q3 q4 => ?_)
  rw [hcs.2.2.2.2.1 a j q1 q2 q3 q4]
  show _ = (if j < ((0 : Nat) : Int) then _ else if j = ((0 : Nat) : Int) then tkN H E L (aAg A) (fun a => aMk A a j) 0 a else _)
  rw [if_neg (by omega)]
  split <;> rfl
end C38
