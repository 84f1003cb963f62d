/-! ===== specification: the text ===== -/
def lt9 (tx : Int → Int) (len p : Int) : Int := if p < len then tx p else 0
def fg (tx : Int → Int) (len p : Int) : Int := if 48 ≤ lt9 tx len p ∧ lt9 tx len p ≤ 57 then lt9 tx len p - 48 else -1
/-- a number's value and end, behind its first figures -/
def nmS (tx : Int → Int) (len : Int) : Nat → Int → Int → Int × Int
  | 0, v, p => (v, p)
  | m + 1, v, p => if fg tx len p < 0 then (v, p) else nmS tx len m (10 * v + fg tx len p) (p + 1)
def numS (tx : Int → Int) (len p : Int) (m : Nat) : Int × Int := if fg tx len p < 0 then (-1, p) else nmS tx len m (fg tx len p) (p + 1)
def hst (tx : Int → Int) (len k p : Int) : Int := if (0 ≤ fg tx len p ∧ fg tx len p < k) ∧ lt9 tx len (p + 1) = 46 ∧ (0 ≤ fg tx len (p + 2) ∧ fg tx len (p + 2) < k / 2) ∧ lt9 tx len (p + 3) = 46 ∧ (0 ≤ fg tx len (p + 4) ∧ fg tx len (p + 4) < k / 2) then (fg tx len p * (k / 2) + fg tx len (p + 2)) * (k / 2) + fg tx len (p + 4) else -1
/-- what was told: K, flows: how many, from, to, size; cuts -/
abbrev PS : Type := Int × Int × (Int → Int) × (Int → Int) × (Int → Int) × (Int → Int)
def okK (tx : Int → Int) (len : Int) (st : PS) (p : Int) : Prop := st.1 = 0 ∧ (fg tx len (p + 1) = 2 ∨ fg tx len (p + 1) = 4 ∨ fg tx len (p + 1) = 6)
def okFl (tx : Int → Int) (len : Int) (st : PS) (p : Int) : Prop := 0 ≤ hst tx len st.1 (p + 1) ∧ lt9 tx len (p + 6) = 62 ∧ 0 ≤ hst tx len st.1 (p + 7) ∧ hst tx len st.1 (p + 1) ≠ hst tx len st.1 (p + 7) ∧ lt9 tx len (p + 12) = 44 ∧ 1 ≤ (numS tx len (p + 13) 1).1 ∧ st.2.1 < 16
def okCu (tx : Int → Int) (len : Int) (st : PS) (p : Int) : Prop := 0 ≤ (numS tx len (p + 1) 2).1 ∧ (numS tx len (p + 1) 2).1 < st.1 * st.1 * st.1 / 2 ∧ st.2.2.2.2.2 (numS tx len (p + 1) 2).1 ≠ 1
def psF (tx : Int → Int) (len : Int) (st : PS) (p : Int) : PS := (st.1, st.2.1 + 1, upF st.2.2.1 st.2.1 (hst tx len st.1 (p + 1)), upF st.2.2.2.1 st.2.1 (hst tx len st.1 (p + 7)), upF st.2.2.2.2.1 st.2.1 (numS tx len (p + 13) 1).1, st.2.2.2.2.2)
def psX (tx : Int → Int) (len : Int) (st : PS) (p : Int) : PS := (st.1, st.2.1, st.2.2.1, st.2.2.2.1, st.2.2.2.2.1, upF st.2.2.2.2.2 (numS tx len (p + 1) 2).1 1)
/-- an item at p: it is so, what was told then, where it ends -/
def itemR (tx : Int → Int) (len : Int) (st : PS) (p : Int) (st' : PS) (p' : Int) : Prop :=
  (lt9 tx len p = 107 ∧ okK tx len st p ∧ lt9 tx len (p + 2) = 59 ∧ st' = (fg tx len (p + 1), st.2) ∧ p' = p + 3) ∨
  (lt9 tx len p = 102 ∧ st.1 ≠ 0 ∧ okFl tx len st p ∧ lt9 tx len (numS tx len (p + 13) 1).2 = 59 ∧ st' = psF tx len st p ∧ p' = (numS tx len (p + 13) 1).2 + 1) ∨
  (lt9 tx len p = 120 ∧ st.1 ≠ 0 ∧ okCu tx len st p ∧ lt9 tx len (numS tx len (p + 1) 2).2 = 59 ∧ st' = psX tx len st p ∧ p' = (numS tx len (p + 1) 2).2 + 1)
/-- reading from p on: the fault, or -4 and what was told -/
def readR (tx : Int → Int) (len : Int) : Nat → PS → Int → Int → PS → Prop
  | 0, _, _, _, _ => False
  | n + 1, st, p, r, stE => (len ≤ p ∧ r = -4 ∧ stE = st) ∨ (p < len ∧ (∀ st' p', ¬ itemR tx len st p st' p') ∧ r = p) ∨ (p < len ∧ ∃ st' p', itemR tx len st p st' p' ∧ readR tx len n st' p' r stE)
section SP7
variable {tx : Int → Int} {len : Int}
theorem fg_r {p : Int} : -1 ≤ fg tx len p ∧ fg tx len p ≤ 9 := by
  unfold fg
  split <;> omega
theorem nmS_r {v p : Int} : ∀ m : Nat, m ≤ 2 → 0 ≤ v → v ≤ 99 → 0 ≤ (nmS tx len m v p).1 ∧ (nmS tx len m v p).1 ≤ (if m = 0 then 99 else if m = 1 then 999 else 9999) ∧ p ≤ (nmS tx len m v p).2 ∧ (nmS tx len m v p).2 ≤ p + m := by
  intro m
  have h := fun p => fg_r (tx := tx) (len := len) (p := p)
  intro hm h1 h2
  rcases (show m = 0 ∨ m = 1 ∨ m = 2 by omega) with rfl | rfl | rfl
  · simp [nmS]; omega
  · simp only [nmS]
    have := h p
    split <;> (simp; omega)
  · simp only [nmS]
    have := h p
    have := h (p + 1)
    split
    · simp; omega
    · split <;> (simp; omega)
theorem numS_r {p : Int} {m : Nat} (hm : m ≤ 2) : -1 ≤ (numS tx len p m).1 ∧ (numS tx len p m).1 ≤ 9999 ∧ p ≤ (numS tx len p m).2 ∧ (numS tx len p m).2 ≤ p + m + 1 := by
  have h := fg_r (tx := tx) (len := len) (p := p)
  unfold numS
  split
  · simp; omega
  · have := nmS_r (tx := tx) (len := len) (v := fg tx len p) (p := p + 1) m hm (by omega) (by omega)
    split at this
    · omega
    · split at this <;> omega
theorem hst_r {k p : Int} (hk : k = 2 ∨ k = 4 ∨ k = 6) : -1 ≤ hst tx len k p ∧ hst tx len k p < k * (k / 2) * (k / 2) := by
  unfold hst
  split
  · rcases hk with rfl | rfl | rfl <;> omega
  · rcases hk with rfl | rfl | rfl <;> omega
theorem lt_in {p c : Int} (h : lt9 tx len p = c) (hc : c ≠ 0) : p < len := by
  unfold lt9 at h
  split at h
  · assumption
  · omega
/-- the item's end and state are determined -/
theorem itemR_fn {st : PS} {p p1 p2 : Int} {s1 s2 : PS} (h1 : itemR tx len st p s1 p1) (h2 : itemR tx len st p s2 p2) : s1 = s2 ∧ p1 = p2 := by
  rcases h1 with ⟨a1, a2, a3, rfl, rfl⟩ | ⟨a1, a2, a3, a4, rfl, rfl⟩ | ⟨a1, a2, a3, a4, rfl, rfl⟩ <;> rcases h2 with ⟨b1, b2, b3, rfl, rfl⟩ | ⟨b1, b2, b3, b4, rfl, rfl⟩ | ⟨b1, b2, b3, b4, rfl, rfl⟩ <;> first | exact ⟨rfl, rfl⟩ | omega
theorem readR_fn : ∀ (n m : Nat) {st : PS} {p r1 r2 : Int} {e1 e2 : PS}, readR tx len n st p r1 e1 → readR tx len m st p r2 e2 → r1 = r2 ∧ (r1 = -4 → 0 ≤ p → e1 = e2)
  | 0, _, _, _, _, _, _, _, h, _ => h.elim
  | n + 1, 0, _, _, _, _, _, _, _, h => h.elim
  | n + 1, m + 1, st, p, r1, r2, e1, e2, h1, h2 => by
    rcases h1 with ⟨a1, rfl, rfl⟩ | ⟨a1, a2, rfl⟩ | ⟨a1, s', p', a2, a3⟩ <;> rcases h2 with ⟨b1, rfl, rfl⟩ | ⟨b1, b2, rfl⟩ | ⟨b1, s2, p2, b2, b3⟩
    · exact ⟨rfl, fun _ _ => rfl⟩
    · omega
    · omega
    · omega
    · exact ⟨rfl, fun e h0 => by omega⟩
    · exact absurd b2 (a2 s2 p2)
    · omega
    · exact absurd a2 (b2 s' p')
    · obtain ⟨rfl, rfl⟩ := itemR_fn a2 b2
      have h3 := readR_fn n m a3 b3
      refine ⟨h3.1, fun e h0 => h3.2 e ?_⟩
      rcases a2 with ⟨-, -, -, -, rfl⟩ | ⟨-, -, -, -, -, rfl⟩ | ⟨-, -, -, -, -, rfl⟩
      · omega
      · have := numS_r (tx := tx) (len := len) (p := p + 13) (m := 1) (by omega); omega
      · have := numS_r (tx := tx) (len := len) (p := p + 1) (m := 2) (by omega); omega
theorem itemR_go {st st' : PS} {p p' : Int} (h : itemR tx len st p st' p') : p + 2 ≤ p' := by
  rcases h with ⟨-, -, -, -, rfl⟩ | ⟨-, -, -, -, -, rfl⟩ | ⟨-, -, -, -, -, rfl⟩
  · omega
  · have := numS_r (tx := tx) (len := len) (p := p + 13) (m := 1) (by omega); omega
  · have := numS_r (tx := tx) (len := len) (p := p + 1) (m := 2) (by omega); omega
end SP7
