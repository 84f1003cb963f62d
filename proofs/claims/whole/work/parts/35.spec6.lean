/-! ===== specification: changes of a state ===== -/
def turnA (H E : Int) (A : AS) (l : Int) : AS := (upF (aAg A) l (aAg A l + 1), fun n k => if k = l ∧ (n = l / H ∨ n = upS H E l) then aAg A l + 1 else aMk A n k, A.2.2)
def addA (A : AS) (a b z : Int) : AS := (aAg A, aMk A, aNf A + 1, upF (aFr A) (aNf A) a, upF (aTo A) (aNf A) b, upF (aSz A) (aNf A) z, upF (aSh A) (aNf A) 0)
def dnF (f : Int → Int) (k : Int) : Int → Int := fun j => if j < k then f j else f (j + 1)
def dropA (A : AS) (f : Int) : AS := (aAg A, aMk A, aNf A - 1, dnF (aFr A) f, dnF (aTo A) f, dnF (aSz A) f, dnF (aSh A) f)
def shiftA (A : AS) (f s : Int) : AS := (aAg A, aMk A, aNf A, aFr A, aTo A, aSz A, upF (aSh A) f s)
/-- a tick, seen at one link: marks m0 by switch, link by link up to k -/
def tkF (H E : Int) (ag m0 : Int → Int) : Nat → Int → Int
  | 0 => m0
  | k + 1 => if ev (ag k) then upF (upF (tkF H E ag m0 k) ((k : Int) / H) (max (tkF H E ag m0 k ((k : Int) / H)) (m0 (upS H E k)))) (upS H E k) (max (tkF H E ag m0 k (upS H E k)) (m0 ((k : Int) / H))) else tkF H E ag m0 k
def tk1 (H E L : Int) (ag m0 : Int → Int) : Int → Int := tkF H E ag m0 L.toNat
def tkN (H E L : Int) (ag m0 : Int → Int) : Nat → Int → Int
  | 0 => m0
  | t + 1 => tk1 H E L ag (tkN H E L ag m0 t)
/-- marks of one link that became other ones in the t-th tick -/
def tkD (H E S L : Int) (ag m0 : Int → Int) (t : Int) : Int := cnt (fun n => decide (tkN H E L ag m0 (t.toNat + 1) n ≠ tkN H E L ag m0 t.toNat n)) S.toNat
def tickA (H E L : Int) (A : AS) (t : Nat) : AS := (aAg A, fun n l => tkN H E L (aAg A) (fun n => aMk A n l) t n, A.2.2)
def tickS (H E S L : Int) (A : AS) (t : Nat) : Int := sumN (fun l => sumN (tkD H E S L (aAg A) (fun n => aMk A n l)) t) L.toNat
section SP6
variable {K H E HO S L B : Int} {A : AS}
theorem up_ne (hK : KP K H E HO S L) {l : Int} (hl : 0 ≤ l ∧ l < L) : l / H ≠ upS H E l ∧ (0 ≤ l / H ∧ l / H < S) ∧ (0 ≤ upS H E l ∧ upS H E l < S) := by
  unfold upS
  split <;> rcases hK with ⟨rfl, rfl, rfl, rfl, rfl, rfl⟩ | ⟨rfl, rfl, rfl, rfl, rfl, rfl⟩ | ⟨rfl, rfl, rfl, rfl, rfl, rfl⟩ <;> omega
theorem ix_inj (hK : KP K H E HO S L) {l n l' n' : Int} (hn : 0 ≤ n ∧ n < S) (hn' : 0 ≤ n' ∧ n' < S) (h : l * S + n = l' * S + n') : l = l' ∧ n = n' := by
  rcases hK with ⟨rfl, rfl, rfl, rfl, rfl, rfl⟩ | ⟨rfl, rfl, rfl, rfl, rfl, rfl⟩ | ⟨rfl, rfl, rfl, rfl, rfl, rfl⟩ <;> omega
theorem ix_r (hK : KP K H E HO S L) {l n : Int} (hl : 0 ≤ l ∧ l < L) (hn : 0 ≤ n ∧ n < S) : 0 ≤ l * S + n ∧ l * S + n < L * S ∧ 0 ≤ l * S ∧ l * S ≤ 4860 ∧ L * S ≤ 4860 := by
  rcases hK with ⟨rfl, rfl, rfl, rfl, rfl, rfl⟩ | ⟨rfl, rfl, rfl, rfl, rfl, rfl⟩ | ⟨rfl, rfl, rfl, rfl, rfl, rfl⟩ <;> omega
theorem turn_AB (hK : KP K H E HO S L) (h : AB H HO S L B A) {l : Int} (hl : 0 ≤ l ∧ l < L) : AB H HO S L (B + 1) (turnA H E A l) := by
  obtain ⟨h1, h2, h3, h4⟩ := h
  have h9 := h1 l hl.1 hl.2
  refine ⟨fun k q1 q2 => ?_, fun n k q1 q2 q3 q4 => ?_, h3, h4⟩
  · show 0 ≤ upF (aAg A) l (aAg A l + 1) k ∧ upF (aAg A) l (aAg A l + 1) k ≤ B + 1
    unfold upF
    split
    · omega
    · have := h1 k q1 q2; omega
  · show 0 ≤ (if k = l ∧ (n = l / H ∨ n = upS H E l) then aAg A l + 1 else aMk A n k) ∧ (if k = l ∧ (n = l / H ∨ n = upS H E l) then aAg A l + 1 else aMk A n k) ≤ B + 1
    split
    · omega
    · have := h2 n k q1 q2 q3 q4; omega
theorem AB.mono {B' : Int} (h : AB H HO S L B A) (hb : B ≤ B') : AB H HO S L B' A := by
  obtain ⟨h1, h2, h3, h4⟩ := h
  exact ⟨fun l q1 q2 => ⟨(h1 l q1 q2).1, by have := h1 l q1 q2; omega⟩, fun n l q1 q2 q3 q4 => ⟨(h2 n l q1 q2 q3 q4).1, by have := h2 n l q1 q2 q3 q4; omega⟩, h3, h4⟩
theorem add_AB (h : AB H HO S L B A) {a b z : Int} (ha : 0 ≤ a ∧ a < HO) (hb : 0 ≤ b ∧ b < HO) (hab : a ≠ b) (hz : 1 ≤ z ∧ z ≤ 99) (h16 : aNf A < 16) (hH : 0 < H * H) : AB H HO S L B (addA A a b z) := by
  obtain ⟨h1, h2, h3, h4⟩ := h
  refine ⟨h1, h2, ⟨by show 0 ≤ aNf A + 1; omega, by show aNf A + 1 ≤ 16; omega⟩, fun f q1 q2 => ?_⟩
  have q2 : f < aNf A + 1 := q2
  show (0 ≤ upF (aFr A) (aNf A) a f ∧ upF (aFr A) (aNf A) a f < HO) ∧ (0 ≤ upF (aTo A) (aNf A) b f ∧ upF (aTo A) (aNf A) b f < HO) ∧ upF (aFr A) (aNf A) a f ≠ upF (aTo A) (aNf A) b f ∧ (1 ≤ upF (aSz A) (aNf A) z f ∧ upF (aSz A) (aNf A) z f ≤ 99) ∧ (0 ≤ upF (aSh A) (aNf A) 0 f ∧ upF (aSh A) (aNf A) 0 f < H * H)
  by_cases e : f = aNf A
  · rw [e, upF_s, upF_s, upF_s, upF_s]; exact ⟨ha, hb, hab, hz, Int.le_refl _, hH⟩
  · rw [upF_n e, upF_n e, upF_n e, upF_n e]; exact h4 f q1 (by omega)
theorem drop_AB (h : AB H HO S L B A) {f : Int} (hf : 0 ≤ f ∧ f < aNf A) : AB H HO S L B (dropA A f) := by
  obtain ⟨h1, h2, h3, h4⟩ := h
  refine ⟨h1, h2, ⟨by show 0 ≤ aNf A - 1; omega, by show aNf A - 1 ≤ 16; omega⟩, fun g q1 q2 => ?_⟩
  have q2 : g < aNf A - 1 := q2
  show (0 ≤ dnF (aFr A) f g ∧ dnF (aFr A) f g < HO) ∧ (0 ≤ dnF (aTo A) f g ∧ dnF (aTo A) f g < HO) ∧ dnF (aFr A) f g ≠ dnF (aTo A) f g ∧ (1 ≤ dnF (aSz A) f g ∧ dnF (aSz A) f g ≤ 99) ∧ (0 ≤ dnF (aSh A) f g ∧ dnF (aSh A) f g < H * H)
  unfold dnF
  split
  · exact h4 g q1 (by omega)
  · exact h4 (g + 1) (by omega) (by omega)
theorem shift_AB (h : AB H HO S L B A) {f s : Int} (hs : 0 ≤ s ∧ s < H * H) : AB H HO S L B (shiftA A f s) := by
  obtain ⟨h1, h2, h3, h4⟩ := h
  refine ⟨h1, h2, h3, fun g q1 q2 => ?_⟩
  have h5 := h4 g q1 q2
  refine ⟨h5.1, h5.2.1, h5.2.2.1, h5.2.2.2.1, ?_⟩
  show 0 ≤ upF (aSh A) f s g ∧ upF (aSh A) f s g < H * H
  unfold upF
  split
  · exact hs
  · exact h5.2.2.2.2
end SP6
