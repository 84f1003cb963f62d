/-! ===== specification: ways in truth ===== -/
def wMid (H E : Int) (op : Int → Bool) (p q j : Int) : Int := if p = q then 1 else cnt (fun m => op ((E + p * H + j) * H + m) && op ((E + q * H + j) * H + m)) H.toNat
def wJ (H E : Int) (op : Int → Bool) (e o j : Int) : Int := if op (e * H + j) && op (o * H + j) then wMid H E op (e / H) (o / H) j else 0
def waysS (H E : Int) (op : Int → Bool) (e o : Int) : Int := if e = o then 1 else sumN (wJ H E op e o) H.toNat
/-- a link that is open, as the class asks it: not w, and whole -/
def opC (A : AS) (w l : Int) : Bool := decide (l ≠ w) && ev (aAg A l)
theorem opC_t {A : AS} {w l : Int} : opC A w l = true ↔ l ≠ w ∧ ev (aAg A l) = true := by unfold opC; rw [Bool.and_eq_true, decide_eq_true_iff]
theorem sumN_le {f : Int → Int} {C : Int} : ∀ n : Nat, (∀ i : Nat, i < n → 0 ≤ f i ∧ f i ≤ C) → 0 ≤ sumN f n ∧ sumN f n ≤ n * C
  | 0, _ => ⟨Int.le_refl _, by simp [sumN]⟩
  | n + 1, h => by
    have h1 := sumN_le n (fun i hi => h i (by omega))
    have h2 := h n (by omega)
    rw [sumN]
    refine ⟨by omega, ?_⟩
    rw [show ((n + 1 : Nat) : Int) * C = n * C + C by rw [Int.natCast_add, Int.add_mul]; simp]
    omega
theorem wMid_le {H E : Int} {op : Int → Bool} {p q j : Int} (h : 1 ≤ H ∧ H ≤ 3) : 0 ≤ wMid H E op p q j ∧ wMid H E op p q j ≤ 3 := by
  unfold wMid
  split
  · omega
  · have := cnt_le (fun m => op ((E + p * H + j) * H + m) && op ((E + q * H + j) * H + m)) H.toNat
    omega
theorem wJ_le {H E : Int} {op : Int → Bool} {e o j : Int} (h : 1 ≤ H ∧ H ≤ 3) : 0 ≤ wJ H E op e o j ∧ wJ H E op e o j ≤ 3 := by
  unfold wJ
  split
  · exact wMid_le h
  · omega
theorem waysS_le {H E : Int} {op : Int → Bool} {e o : Int} (h : 1 ≤ H ∧ H ≤ 3) : 0 ≤ waysS H E op e o ∧ waysS H E op e o ≤ 9 := by
  unfold waysS
  split
  · omega
  · have := sumN_le (f := wJ H E op e o) (C := 3) H.toNat (fun i _ => wJ_le h)
    omega
/-- pairs of hosts of two edges -/
def prS (H e o : Int) : Int := H * (if e = o then H - 1 else H)
def jpS (H E : Int) (op : Int → Bool) (e o : Int) : Int := if 0 < waysS H E op e o then prS H e o else 0
theorem jpS_le {H E : Int} {op : Int → Bool} {e o : Int} (h : 1 ≤ H ∧ H ≤ 3) : 0 ≤ jpS H E op e o ∧ jpS H E op e o ≤ 9 := by
  unfold jpS prS
  rcases (show H = 1 ∨ H = 2 ∨ H = 3 by omega) with rfl | rfl | rfl <;> (split <;> (first | split | skip) <;> omega)
def joinS (H E : Int) (op : Int → Bool) : Int := sumN (fun e => sumN (jpS H E op e) E.toNat) E.toNat
/-- the least and the most of w over those that are so, none of them yet: -4 -/
def MM (w : Int → Int → Int) (Pr : Int → Int → Prop) (f m : Int) : Prop := (f = -4 ∧ m = -4 ∧ ∀ e o, ¬ Pr e o) ∨ ((∃ e o, Pr e o ∧ w e o = f) ∧ (∀ e o, Pr e o → f ≤ w e o) ∧ (∃ e o, Pr e o ∧ w e o = m) ∧ (∀ e o, Pr e o → w e o ≤ m))
theorem MM.ext {w : Int → Int → Int} {Pr Pr' : Int → Int → Prop} {f m : Int} (h : MM w Pr f m) (he : ∀ e o, Pr e o ↔ Pr' e o) : MM w Pr' f m := by
  have : Pr = Pr' := by funext e o; exact propext (he e o)
  rw [← this]; exact h
theorem MM.add {w : Int → Int → Int} {Pr Pr' : Int → Int → Prop} {f m a b : Int} (hw : 0 ≤ w a b) (h : MM w Pr f m) (he : ∀ e o, Pr' e o ↔ Pr e o ∨ (e = a ∧ o = b)) (hp : ∀ e o, Pr e o → 0 ≤ w e o) : MM w Pr' (if f = -4 then w a b else min f (w a b)) (max m (w a b)) := by
  rcases h with ⟨rfl, rfl, hn⟩ | ⟨⟨e1, o1, p1, q1⟩, h2, ⟨e3, o3, p3, q3⟩, h4⟩
  · refine Or.inr ⟨⟨a, b, (he a b).mpr (Or.inr ⟨rfl, rfl⟩), by rw [if_pos rfl]⟩, fun e o hq => ?_, ⟨a, b, (he a b).mpr (Or.inr ⟨rfl, rfl⟩), by omega⟩, fun e o hq => ?_⟩
    · rcases (he e o).mp hq with q | ⟨rfl, rfl⟩
      · exact absurd q (hn e o)
      · rw [if_pos rfl]; exact Int.le_refl _
    · rcases (he e o).mp hq with q | ⟨rfl, rfl⟩
      · exact absurd q (hn e o)
      · omega
  · have hf : f ≠ -4 := by have := hp e1 o1 p1; omega
    rw [if_neg hf]
    refine Or.inr ⟨?_, fun e o hq => ?_, ?_, fun e o hq => ?_⟩
    · by_cases c : f ≤ w a b
      · exact ⟨e1, o1, (he _ _).mpr (Or.inl p1), by omega⟩
      · exact ⟨a, b, (he _ _).mpr (Or.inr ⟨rfl, rfl⟩), by omega⟩
    · rcases (he e o).mp hq with q | ⟨rfl, rfl⟩
      · have := h2 e o q; omega
      · omega
    · by_cases c : w a b ≤ m
      · exact ⟨e3, o3, (he _ _).mpr (Or.inl p3), by omega⟩
      · exact ⟨a, b, (he _ _).mpr (Or.inr ⟨rfl, rfl⟩), by omega⟩
    · rcases (he e o).mp hq with q | ⟨rfl, rfl⟩
      · have := h4 e o q; omega
      · omega
