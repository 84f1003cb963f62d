/-! ===== ways: ranges, ends ===== -/
section PTH
variable {K H E HO S L B : Int} {A : AS}
theorem srE_r {k : Int → Bool} {n b s : Int} (hH : 1 ≤ H) : ∀ (t : Nat) (x : Int), srE H E k n b s t x = -2 ∨ ∃ j, 0 ≤ j ∧ j < H ∧ srE H E k n b s t x = n * H + j
  | 0, _ => Or.inl rfl
  | t + 1, x => by
    rw [srE]
    split
    · exact Or.inr ⟨_, Int.emod_nonneg _ (by omega), Int.emod_lt_of_pos _ (by omega), rfl⟩
    · exact srE_r hH t (x + 1)
theorem srM_r {k : Int → Bool} {n b s : Int} (hH : 1 ≤ H) : ∀ (t : Nat) (x : Int), srM H E k n b s t x = -2 ∨ ∃ j, 0 ≤ j ∧ j < H ∧ srM H E k n b s t x = n * H + j
  | 0, _ => Or.inl rfl
  | t + 1, x => by
    rw [srM]
    split
    · exact Or.inr ⟨_, Int.emod_nonneg _ (by omega), Int.emod_lt_of_pos _ (by omega), rfl⟩
    · exact srM_r hH t (x + 1)
theorem nl_e {n b s : Int} (hH : 1 ≤ H) (hn : n < E) : (nl H E A n b s = -4 ∧ n = b / H) ∨ (n ≠ b / H ∧ nl H E A n b s = -2) ∨ (n ≠ b / H ∧ ∃ j, 0 ≤ j ∧ j < H ∧ nl H E A n b s = n * H + j) := by
  unfold nl
  by_cases h : n = b / H
  · rw [if_pos h]; exact Or.inl ⟨rfl, h⟩
  · rw [if_neg h, if_pos hn]
    rcases srE_r (H := H) (E := E) (k := fun l => ev (aMk A n l)) (n := n) (b := b) (s := s) hH H.toNat 0 with q | ⟨j, q1, q2, q3⟩
    · exact Or.inr (Or.inl ⟨h, q⟩)
    · exact Or.inr (Or.inr ⟨h, j, q1, q2, q3⟩)
theorem nl_m {n b s : Int} (hH : 1 ≤ H) (hn : E ≤ n ∧ n < 2 * E) (hb : b / H < E) : nl H E A n b s = -2 ∨ ((n - E) / H = b / H / H ∧ nl H E A n b s = b / H * H + (n - E) % H) ∨ ((n - E) / H ≠ b / H / H ∧ ∃ j, 0 ≤ j ∧ j < H ∧ nl H E A n b s = n * H + j) := by
  unfold nl
  rw [if_neg (by omega), if_neg (by omega), if_pos hn.2]
  by_cases h : (n - E) / H = b / H / H
  · rw [if_pos h]
    split
    · exact Or.inr (Or.inl ⟨h, rfl⟩)
    · exact Or.inl rfl
  · rw [if_neg h]
    rcases srM_r (H := H) (E := E) (k := fun l => ev (aMk A n l)) (n := n) (b := b) (s := s) hH H.toNat 0 with q | ⟨j, q1, q2, q3⟩
    · exact Or.inl q
    · exact Or.inr (Or.inr ⟨h, j, q1, q2, q3⟩)
theorem nl_c {n b s : Int} (hE : 0 ≤ E) (hn : 2 * E ≤ n) (hb : b / H < E) : nl H E A n b s = -2 ∨ nl H E A n b s = (E + b / H / H * H + (n - 2 * E) / H) * H + (n - 2 * E) % H := by
  unfold nl
  rw [if_neg (by omega), if_neg (by omega), if_neg (by omega)]
  split
  · exact Or.inr rfl
  · exact Or.inl rfl
theorem nl_range (hK : KP K H E HO S L) {n b s : Int} (hn : 0 ≤ n ∧ n < S) (hb : 0 ≤ b ∧ b < HO) : (nl H E A n b s = -4 ∨ nl H E A n b s = -2) ∨ (0 ≤ nl H E A n b s ∧ nl H E A n b s < L) := by
  have hH : 1 ≤ H := by rcases hK with ⟨rfl, rfl, rfl, rfl, rfl, rfl⟩ | ⟨rfl, rfl, rfl, rfl, rfl, rfl⟩ | ⟨rfl, rfl, rfl, rfl, rfl, rfl⟩ <;> omega
  have hbE : b / H < E := by rcases hK with ⟨rfl, rfl, rfl, rfl, rfl, rfl⟩ | ⟨rfl, rfl, rfl, rfl, rfl, rfl⟩ | ⟨rfl, rfl, rfl, rfl, rfl, rfl⟩ <;> omega
  by_cases h1 : n < E
  · rcases nl_e (A := A) (b := b) (s := s) hH h1 with q | q | ⟨-, j, q1, q2, q3⟩
    · exact Or.inl (Or.inl q.1)
    · exact Or.inl (Or.inr q.2)
    · refine Or.inr ?_
      rw [q3]
      rcases hK with ⟨rfl, rfl, rfl, rfl, rfl, rfl⟩ | ⟨rfl, rfl, rfl, rfl, rfl, rfl⟩ | ⟨rfl, rfl, rfl, rfl, rfl, rfl⟩ <;> omega
  · by_cases h2 : n < 2 * E
    · rcases nl_m (A := A) (s := s) hH ⟨by omega, h2⟩ hbE with q | ⟨-, q⟩ | ⟨-, j, q1, q2, q3⟩
      · exact Or.inl (Or.inr q)
      · refine Or.inr ?_
        rw [q]
        rcases hK with ⟨rfl, rfl, rfl, rfl, rfl, rfl⟩ | ⟨rfl, rfl, rfl, rfl, rfl, rfl⟩ | ⟨rfl, rfl, rfl, rfl, rfl, rfl⟩ <;> omega
      · refine Or.inr ?_
        rw [q3]
        rcases hK with ⟨rfl, rfl, rfl, rfl, rfl, rfl⟩ | ⟨rfl, rfl, rfl, rfl, rfl, rfl⟩ | ⟨rfl, rfl, rfl, rfl, rfl, rfl⟩ <;> omega
    · rcases nl_c (H := H) (E := E) (A := A) (n := n) (b := b) (s := s) (by rcases hK with ⟨rfl, rfl, rfl, rfl, rfl, rfl⟩ | ⟨rfl, rfl, rfl, rfl, rfl, rfl⟩ | ⟨rfl, rfl, rfl, rfl, rfl, rfl⟩ <;> omega) (by omega) hbE with q | q
      · exact Or.inl (Or.inr q)
      · refine Or.inr ?_
        rw [q]
        rcases hK with ⟨rfl, rfl, rfl, rfl, rfl, rfl⟩ | ⟨rfl, rfl, rfl, rfl, rfl, rfl⟩ | ⟨rfl, rfl, rfl, rfl, rfl, rfl⟩ <;> omega
theorem ot_range (hK : KP K H E HO S L) {l n : Int} (hl : 0 ≤ l ∧ l < L) : 0 ≤ otS H E l n ∧ otS H E l n < S := by
  unfold otS upS
  split
  · split <;> rcases hK with ⟨rfl, rfl, rfl, rfl, rfl, rfl⟩ | ⟨rfl, rfl, rfl, rfl, rfl, rfl⟩ | ⟨rfl, rfl, rfl, rfl, rfl, rfl⟩ <;> omega
  · rcases hK with ⟨rfl, rfl, rfl, rfl, rfl, rfl⟩ | ⟨rfl, rfl, rfl, rfl, rfl, rfl⟩ | ⟨rfl, rfl, rfl, rfl, rfl, rfl⟩ <;> omega
/-- as long as it goes on, it is among the switches -/
theorem pN_range (hK : KP K H E HO S L) {n b s : Int} (hn : 0 ≤ n ∧ n < S) (hb : 0 ≤ b ∧ b < HO) : ∀ t : Nat, (∀ k, k < t → 0 ≤ pL H E A n b s k) → 0 ≤ pN H E A n b s t ∧ pN H E A n b s t < S
  | 0, _ => hn
  | t + 1, h => by
    have h1 := pN_range hK hn hb t (fun k hk => h k (by omega))
    have h2 : 0 ≤ nl H E A (pN H E A n b s t) b s := h t (by omega)
    rcases nl_range (A := A) (s := s) hK h1 hb with q | q
    · omega
    · exact ot_range hK q
theorem pV_at {n b s : Int} {t : Nat} (ht : t ≤ 4) (h1 : ∀ k, k < t → 0 ≤ pL H E A n b s k) (h2 : pL H E A n b s t < 0) : pV H E A n b s = t + 1 := by
  unfold pV
  rcases (show t = 0 ∨ t = 1 ∨ t = 2 ∨ t = 3 ∨ t = 4 by omega) with rfl | rfl | rfl | rfl | rfl
  · rw [if_pos h2]
  · rw [if_neg (by have := h1 0 (by omega); omega), if_pos h2]
  · rw [if_neg (by have := h1 0 (by omega); omega), if_neg (by have := h1 1 (by omega); omega), if_pos h2]
  · rw [if_neg (by have := h1 0 (by omega); omega), if_neg (by have := h1 1 (by omega); omega), if_neg (by have := h1 2 (by omega); omega), if_pos h2]
  · rw [if_neg (by have := h1 0 (by omega); omega), if_neg (by have := h1 1 (by omega); omega), if_neg (by have := h1 2 (by omega); omega), if_neg (by have := h1 3 (by omega); omega)]
theorem pV_5 {n b s : Int} (h1 : ∀ k, k < 5 → 0 ≤ pL H E A n b s k) : pV H E A n b s = 5 := by
  unfold pV
  rw [if_neg (by have := h1 0 (by omega); omega), if_neg (by have := h1 1 (by omega); omega), if_neg (by have := h1 2 (by omega); omega), if_neg (by have := h1 3 (by omega); omega)]
theorem pV_r {n b s : Int} : 1 ≤ pV H E A n b s ∧ pV H E A n b s ≤ 5 := by
  unfold pV
  split
  · omega
  · split
    · omega
    · split
      · omega
      · split <;> omega
theorem pV_go {n b s : Int} {k : Nat} (hk : k + 1 < pV H E A n b s) : 0 ≤ pL H E A n b s k := by
  unfold pV at hk
  split at hk
  · omega
  · split at hk
    · rcases (show k = 0 by omega) with rfl; omega
    · split at hk
      · rcases (show k = 0 ∨ k = 1 by omega) with rfl | rfl <;> omega
      · split at hk
        · rcases (show k = 0 ∨ k = 1 ∨ k = 2 by omega) with rfl | rfl | rfl <;> omega
        · rcases (show k = 0 ∨ k = 1 ∨ k = 2 ∨ k = 3 by omega) with rfl | rfl | rfl | rfl <;> omega
/-- from an edge it comes to its end by the fifth switch -/
theorem pL_end (hK : KP K H E HO S L) {n b s : Int} (hn : 0 ≤ n ∧ n < E) (hb : 0 ≤ b ∧ b < HO) (h : ∀ k, k < 4 → 0 ≤ pL H E A n b s k) : pL H E A n b s 4 < 0 := by
  have hH : 1 ≤ H := by rcases hK with ⟨rfl, rfl, rfl, rfl, rfl, rfl⟩ | ⟨rfl, rfl, rfl, rfl, rfl, rfl⟩ | ⟨rfl, rfl, rfl, rfl, rfl, rfl⟩ <;> omega
  have hbE : b / H < E := by rcases hK with ⟨rfl, rfl, rfl, rfl, rfl, rfl⟩ | ⟨rfl, rfl, rfl, rfl, rfl, rfl⟩ | ⟨rfl, rfl, rfl, rfl, rfl, rfl⟩ <;> omega
  have hS : 2 * E < S := by rcases hK with ⟨rfl, rfl, rfl, rfl, rfl, rfl⟩ | ⟨rfl, rfl, rfl, rfl, rfl, rfl⟩ | ⟨rfl, rfl, rfl, rfl, rfl, rfl⟩ <;> omega
  have goal : nl H E A (b / H) b s = -4 := by unfold nl; rw [if_pos rfl]
  have g0 := h 0 (by omega)
  have g1 := h 1 (by omega)
  have g2 := h 2 (by omega)
  have g3 := h 3 (by omega)
  -- the first step leads to a middle
  have s1 : ∃ j, (0 ≤ j ∧ j < H) ∧ pN H E A n b s 1 = E + n / H * H + j := by
    rcases nl_e (A := A) (b := b) (s := s) hH hn.2 with q | q | ⟨-, j, q1, q2, q3⟩
    · have : pL H E A n b s 0 = -4 := q.1
      omega
    · have : pL H E A n b s 0 = -2 := q.2
      omega
    · refine ⟨j, ⟨q1, q2⟩, ?_⟩
      show otS H E (nl H E A n b s) n = _
      rw [q3]
      unfold otS upS
      have e1 : (n * H + j) / H = n := by rcases hK with ⟨rfl, rfl, rfl, rfl, rfl, rfl⟩ | ⟨rfl, rfl, rfl, rfl, rfl, rfl⟩ | ⟨rfl, rfl, rfl, rfl, rfl, rfl⟩ <;> omega
      have e2 : (n * H + j) % H = j := by rcases hK with ⟨rfl, rfl, rfl, rfl, rfl, rfl⟩ | ⟨rfl, rfl, rfl, rfl, rfl, rfl⟩ | ⟨rfl, rfl, rfl, rfl, rfl, rfl⟩ <;> omega
      rw [if_pos e1, e1, e2, if_pos hn.2]
  obtain ⟨j, hj, s1⟩ := s1
  have r1 : E ≤ pN H E A n b s 1 ∧ pN H E A n b s 1 < 2 * E := by
    rw [s1]
    rcases hK with ⟨rfl, rfl, rfl, rfl, rfl, rfl⟩ | ⟨rfl, rfl, rfl, rfl, rfl, rfl⟩ | ⟨rfl, rfl, rfl, rfl, rfl, rfl⟩ <;> omega
  -- from a middle of b's pod it comes down
  have down : ∀ x : Int, E ≤ x ∧ x < 2 * E → (x - E) / H = b / H / H → 0 ≤ nl H E A x b s → otS H E (nl H E A x b s) x = b / H := by
    intro x hx hp h0
    rcases nl_m (A := A) (s := s) hH hx hbE with q | ⟨-, q⟩ | ⟨q, -⟩
    · omega
    · rw [q]
      unfold otS
      have e1 : (b / H * H + (x - E) % H) / H = b / H := by rcases hK with ⟨rfl, rfl, rfl, rfl, rfl, rfl⟩ | ⟨rfl, rfl, rfl, rfl, rfl, rfl⟩ | ⟨rfl, rfl, rfl, rfl, rfl, rfl⟩ <;> omega
      rw [e1, if_neg (by omega)]
    · exact absurd hp q
  by_cases hp : (pN H E A n b s 1 - E) / H = b / H / H
  · have s2 : pN H E A n b s 2 = b / H := down _ r1 hp g1
    have : pL H E A n b s 2 = -4 := by
      show nl H E A (pN H E A n b s 2) b s = -4
      rw [s2, goal]
    omega
  · have s2 : 2 * E ≤ pN H E A n b s 2 ∧ pN H E A n b s 2 < S := by
      rcases nl_m (A := A) (s := s) hH r1 hbE with q | ⟨q, -⟩ | ⟨-, m, q1, q2, q3⟩
      · have : pL H E A n b s 1 = -2 := q
        omega
      · exact absurd q hp
      · show 2 * E ≤ otS H E (nl H E A (pN H E A n b s 1) b s) (pN H E A n b s 1) ∧ otS H E (nl H E A (pN H E A n b s 1) b s) (pN H E A n b s 1) < S
        rw [q3]
        generalize pN H E A n b s 1 = x at r1
        unfold otS upS
        have e1 : (x * H + m) / H = x := by rcases hK with ⟨rfl, rfl, rfl, rfl, rfl, rfl⟩ | ⟨rfl, rfl, rfl, rfl, rfl, rfl⟩ | ⟨rfl, rfl, rfl, rfl, rfl, rfl⟩ <;> omega
        have e2 : (x * H + m) % H = m := by rcases hK with ⟨rfl, rfl, rfl, rfl, rfl, rfl⟩ | ⟨rfl, rfl, rfl, rfl, rfl, rfl⟩ | ⟨rfl, rfl, rfl, rfl, rfl, rfl⟩ <;> omega
        rw [if_pos e1, e1, e2, if_neg (by omega)]
        rcases hK with ⟨rfl, rfl, rfl, rfl, rfl, rfl⟩ | ⟨rfl, rfl, rfl, rfl, rfl, rfl⟩ | ⟨rfl, rfl, rfl, rfl, rfl, rfl⟩ <;> omega
    have s3 : (E ≤ pN H E A n b s 3 ∧ pN H E A n b s 3 < 2 * E) ∧ (pN H E A n b s 3 - E) / H = b / H / H := by
      rcases nl_c (H := H) (E := E) (A := A) (n := pN H E A n b s 2) (b := b) (s := s) (by omega) s2.1 hbE with q | q
      · have : pL H E A n b s 2 = -2 := q
        omega
      · show (E ≤ otS H E (nl H E A (pN H E A n b s 2) b s) (pN H E A n b s 2) ∧ otS H E (nl H E A (pN H E A n b s 2) b s) (pN H E A n b s 2) < 2 * E) ∧ (otS H E (nl H E A (pN H E A n b s 2) b s) (pN H E A n b s 2) - E) / H = b / H / H
        rw [q]
        generalize pN H E A n b s 2 = x at s2
        unfold otS
        have e1 : ((E + b / H / H * H + (x - 2 * E) / H) * H + (x - 2 * E) % H) / H = E + b / H / H * H + (x - 2 * E) / H := by rcases hK with ⟨rfl, rfl, rfl, rfl, rfl, rfl⟩ | ⟨rfl, rfl, rfl, rfl, rfl, rfl⟩ | ⟨rfl, rfl, rfl, rfl, rfl, rfl⟩ <;> omega
        have e2 : E + b / H / H * H + (x - 2 * E) / H < 2 * E := by rcases hK with ⟨rfl, rfl, rfl, rfl, rfl, rfl⟩ | ⟨rfl, rfl, rfl, rfl, rfl, rfl⟩ | ⟨rfl, rfl, rfl, rfl, rfl, rfl⟩ <;> omega
        rw [e1, if_neg (by omega)]
        rcases hK with ⟨rfl, rfl, rfl, rfl, rfl, rfl⟩ | ⟨rfl, rfl, rfl, rfl, rfl, rfl⟩ | ⟨rfl, rfl, rfl, rfl, rfl, rfl⟩ <;> omega
    have s4 : pN H E A n b s 4 = b / H := down _ s3.1 s3.2 g3
    show nl H E A (pN H E A n b s 4) b s < 0
    rw [s4, goal]
    decide
end PTH
