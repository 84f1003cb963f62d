/-! ===== REFERENCE: sends ===== -/
section M68
variable {X : Nat × (Int → Int)} {d : Nat} {sh : List (Nat × Nat)} {R : Nat → Nat → Option Nat} {I : Nat → Int → Int} {K H E HO S L B : Int} {A : AS}
/-- a way sent: what the reference wrote down -/
def RT (I I1 : Nat → Int → Int) (H E : Int) (A : AS) (n b ss : Int) (t : Nat) : Prop := (∀ a, a ≠ 57 → a ≠ 69 → a ≠ 70 → I1 a = I a) ∧ (∀ j, j ≠ 18 → j ≠ 21 → I1 57 j = I 57 j) ∧ I1 57 18 = (t : Int) + 1 ∧ (∀ k : Nat, k ≤ t → I1 69 k = pN H E A n b ss k) ∧ (∀ k : Nat, k < t → I1 70 k = if pL H E A n b ss k / H = pN H E A n b ss k then pL H E A n b ss k else -1 - pL H E A n b ss k) ∧ ∀ k : Nat, k < t → 0 ≤ pL H E A n b ss k
theorem MF.keep {I' : Nat → Int → Int} (hF : MF sh R I K H E HO S L B A) (h1 : ∀ a, a = 59 ∨ a = 60 ∨ a = 62 → I' a = I a) (h2 : ∀ j, j = 2 ∨ j = 3 ∨ j = 7 → I' 57 j = I 57 j) : MF sh R I' K H E HO S L B A := by
  obtain ⟨hM, hK, hpo, hha, hms, hab, hB⟩ := hF
  refine ⟨hM, hK, by rw [h2 2 (by omega)]; exact hpo, by rw [h2 3 (by omega)]; exact hha, ?_, hab, hB⟩
  unfold MS at hms ⊢
  rw [h2 7 (by omega), h1 59 (by omega), h1 60 (by omega), h1 62 (by omega)]
  exact hms
theorem RT.mf {n b ss : Int} {t : Nat} {I1 : Nat → Int → Int} (hF : MF sh R I K H E HO S L B A) (h : RT I I1 H E A n b ss t) : MF sh R I1 K H E HO S L B A := hF.keep (fun a q => h.1 a (by omega) (by omega) (by omega)) (fun j q => h.2.1 j (by omega) (by omega))
theorem RT.st {n b ss : Int} {t : Nat} {I1 I2 : Nat → Int → Int} (h : RT I I1 H E A n b ss t) (h0 : 0 ≤ pL H E A n b ss t) {q : Int} (hq : q = if pL H E A n b ss t / H = pN H E A n b ss t then pL H E A n b ss t else -1 - pL H E A n b ss t) (e1 : ∀ a, a ≠ 57 → a ≠ 69 → a ≠ 70 → I2 a = I1 a) (e2 : I2 57 = upF (I1 57) 18 ((t : Int) + 1 + 1)) (e3 : I2 69 = upF (I1 69) ((t : Int) + 1) (pN H E A n b ss (t + 1))) (e4 : I2 70 = upF (I1 70) (t : Int) q) : RT I I2 H E A n b ss (t + 1) := by
  refine ⟨fun a q1 q2 q3 => (e1 a q1 q2 q3).trans (h.1 a q1 q2 q3), fun j q1 q2 => by rw [e2, upF_n q1]; exact h.2.1 j q1 q2, by rw [e2, upF_s]; omega, fun k hk => ?_, fun k hk => ?_, fun k hk => ?_⟩
  · rw [e3]
    by_cases e : k = t + 1
    · subst e; rw [show ((t + 1 : Nat) : Int) = (t : Int) + 1 by omega, upF_s]
    · rw [upF_n (by omega)]; exact h.2.2.2.1 k (by omega)
  · rw [e4]
    by_cases e : k = t
    · subst e; rw [upF_s]; exact hq
    · rw [upF_n (by omega)]; exact h.2.2.2.2.1 k (by omega)
  · by_cases e : k = t
    · subst e; exact h0
    · exact h.2.2.2.2.2 k (by omega)
end M68
