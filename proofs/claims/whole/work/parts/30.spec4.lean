/-! ===== specification: steps of flows, users of steps, shares ===== -/
section SP4
variable {c : Int → Int} {q : Int → Int → Int}
def up2 (q : Int → Int → Int) (f x u : Int) : Int → Int → Int := fun g y => if g = f ∧ y = x then u else q g y
theorem up2_s {f x u : Int} : up2 q f x u f x = u := if_pos ⟨rfl, rfl⟩
theorem up2_n {f x u g y : Int} (h : ¬ (g = f ∧ y = x)) : up2 q f x u g y = q g y := if_neg h
def kG (c : Int → Int) (q : Int → Int → Int) (u f : Int) : Int := cnt (fun x => decide (q f x = u)) (c f).toNat
def usG (c : Int → Int) (q : Int → Int → Int) (u : Int) : Int := sumN (kG c q u) 16
def moG (c : Int → Int) (q : Int → Int → Int) (f : Int) : Nat → Int
  | 0 => 0
  | n + 1 => max (moG c q f n) (usG c q (q f n))
def shG (c : Int → Int) (q : Int → Int → Int) (f : Int) : Int := if 0 < moG c q f (c f).toNat then 720720 / moG c q f (c f).toNat else 0
def lsG (c : Int → Int) (q : Int → Int → Int) : Nat → Int
  | 0 => 720720
  | n + 1 => min (lsG c q n) (shG c q n)
/-- the Sharing's cells hold steps and users -/
def UI (I : Nat → Int → Int) (c : Int → Int) (q : Int → Int → Int) : Prop := (∀ f, 0 ≤ f → f < 16 → I 23 f = c f ∧ (0 ≤ c f ∧ c f ≤ 6)) ∧ (∀ f x, 0 ≤ f → f < 16 → 0 ≤ x → x < c f → I 22 (f * 6 + x) = q f x ∧ (0 ≤ q f x ∧ q f x < 324)) ∧ (∀ u, 0 ≤ u → u < 324 → I 24 u = usG c q u)
theorem UI.keep {I I' : Nat → Int → Int} (h : UI I c q) (e : ∀ a, 22 ≤ a → a ≤ 24 → I' a = I a) : UI I' c q := by
  unfold UI at h ⊢
  rw [e 22 (by omega) (by omega), e 23 (by omega) (by omega), e 24 (by omega) (by omega)]
  exact h
theorem kG_le {u f : Int} (h : 0 ≤ c f ∧ c f ≤ 6) : 0 ≤ kG c q u f ∧ kG c q u f ≤ 6 := by
  have := cnt_le (fun x => decide (q f x = u)) (c f).toNat
  unfold kG
  omega
theorem usG_le {u : Int} (h : ∀ f, 0 ≤ f → f < 16 → 0 ≤ c f ∧ c f ≤ 6) : 0 ≤ usG c q u ∧ usG c q u ≤ 96 := by
  have := sumN_le (f := kG c q u) (C := 6) 16 (fun i hi => kG_le (h i (by omega) (by omega)))
  unfold usG
  omega
theorem sumN_1 {g g' : Int → Int} {f : Nat} : ∀ n : Nat, f < n → (∀ i : Nat, i ≠ f → g' i = g i) → sumN g' n = sumN g n - g f + g' f
  | 0, h, _ => absurd h (by omega)
  | n + 1, h, e => by
    rw [sumN, sumN]
    by_cases q : f = n
    · subst q
      rw [sumN_ext f (fun i hi => e i (by omega))]
      omega
    · rw [sumN_1 n (by omega) e, e n (by omega)]
      omega
theorem cnt_ext {P P' : Int → Bool} {n : Nat} (h : ∀ i : Nat, i < n → P i = P' i) : cnt P n = cnt P' n := sumN_ext n (fun i hi => by rw [h i hi])
theorem usG_1 {c' : Int → Int} {q' : Int → Int → Int} {u : Int} {f : Int} (h0 : 0 ≤ f) (h1 : f < 16) (he : ∀ i, i ≠ f → kG c' q' u i = kG c q u i) : usG c' q' u = usG c q u - kG c q u f + kG c' q' u f := by
  obtain ⟨n, rfl⟩ : ∃ n : Nat, f = (n : Int) := ⟨f.toNat, by omega⟩
  exact sumN_1 16 (by omega) (fun i hi => he i (by omega))
theorem moG_le {f : Int} (h : ∀ f, 0 ≤ f → f < 16 → 0 ≤ c f ∧ c f ≤ 6) : ∀ n : Nat, 0 ≤ moG c q f n ∧ moG c q f n ≤ 96
  | 0 => by rw [moG]; omega
  | n + 1 => by
    have := moG_le (f := f) h n
    have := usG_le (q := q) (u := q f n) h
    rw [moG]
    omega
theorem shG_le {f : Int} (h : ∀ f, 0 ≤ f → f < 16 → 0 ≤ c f ∧ c f ≤ 6) : 0 ≤ shG c q f ∧ shG c q f ≤ 720720 := by
  have h1 := moG_le (f := f) (q := q) h (c f).toNat
  unfold shG
  split
  · exact ⟨Int.ediv_nonneg (by decide) h1.1, Int.ediv_le_self _ (by decide)⟩
  · decide
theorem lsG_le (h : ∀ f, 0 ≤ f → f < 16 → 0 ≤ c f ∧ c f ≤ 6) : ∀ n : Nat, 0 ≤ lsG c q n ∧ lsG c q n ≤ 720720
  | 0 => by rw [lsG]; omega
  | n + 1 => by
    have := lsG_le h n
    have := shG_le (f := n) (q := q) h
    rw [lsG]
    omega
end SP4
