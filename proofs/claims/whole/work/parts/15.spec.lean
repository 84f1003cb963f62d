/-! ===== THE SPECIFICATION: what both sides compute, as functions of numbers ===== -/
/-- ages, marks (switch, link), flows: how many, from, to, size, shift -/
abbrev AS : Type := (Int → Int) × (Int → Int → Int) × Int × (Int → Int) × (Int → Int) × (Int → Int) × (Int → Int)
abbrev aAg (A : AS) : Int → Int := A.1
abbrev aMk (A : AS) : Int → Int → Int := A.2.1
abbrev aNf (A : AS) : Int := A.2.2.1
abbrev aFr (A : AS) : Int → Int := A.2.2.2.1
abbrev aTo (A : AS) : Int → Int := A.2.2.2.2.1
abbrev aSz (A : AS) : Int → Int := A.2.2.2.2.2.1
abbrev aSh (A : AS) : Int → Int := A.2.2.2.2.2.2
def ev (z : Int) : Bool := decide (z % 2 = 0)
def anyB (P : Int → Bool) : Nat → Bool
  | 0 => false
  | n + 1 => anyB P n || P n
def sumN (f : Int → Int) : Nat → Int
  | 0 => 0
  | n + 1 => sumN f n + f n
/-- how many of the first n are so -/
def cnt (P : Int → Bool) (n : Nat) : Int := sumN (fun j => if P j then 1 else 0) n
def tierS (E n : Int) : Int := if n < E then 0 else if n < 2 * E then 1 else 2
def podS (H E n : Int) : Int := if n < E then n / H else if n < 2 * E then (n - E) / H else -4
def placeS (H E n : Int) : Int := if n < E then n % H else if n < 2 * E then (n - E) % H else (n - 2 * E) / H
def membS (H E n : Int) : Int := if n < 2 * E then -4 else (n - 2 * E) % H
def upS (H E l : Int) : Int := if l / H < E then E + l / H / H * H + l % H else 2 * E + (l / H - E) % H * H + l % H
/-- where a letter goes on: an EDGE, whose first choice is x -/
def leadsE (H E : Int) (k : Int → Bool) (n b j : Int) : Bool := k (n * H + j) && k (b / H * H + j) && (decide (n / H = b / H / H) || anyB (fun m => k ((E + n / H * H + j) * H + m) && k ((E + b / H / H * H + j) * H + m)) H.toNat)
def srE (H E : Int) (k : Int → Bool) (n b s : Int) : Nat → Int → Int
  | 0, _ => -2
  | t + 1, x => if leadsE H E k n b ((b % H + n % H + s / H + x) % H) then n * H + (b % H + n % H + s / H + x) % H else srE H E k n b s t (x + 1)
def leadsM (H E : Int) (k : Int → Bool) (n b m : Int) : Bool := k (n * H + m) && k ((E + b / H / H * H + (n - E) % H) * H + m) && k (b / H * H + (n - E) % H)
def srM (H E : Int) (k : Int → Bool) (n b s : Int) : Nat → Int → Int
  | 0, _ => -2
  | t + 1, x => if leadsM H E k n b ((b % H + (n - E) % H + s % H + x) % H) then n * H + (b % H + (n - E) % H + s % H + x) % H else srM H E k n b s t (x + 1)
def nl (H E : Int) (A : AS) (n b s : Int) : Int :=
  if n = b / H then -4
  else if n < E then srE H E (fun l => ev (aMk A n l)) n b s H.toNat 0
  else if n < 2 * E then (if (n - E) / H = b / H / H then (if ev (aMk A n (b / H * H + (n - E) % H)) then b / H * H + (n - E) % H else -2) else srM H E (fun l => ev (aMk A n l)) n b s H.toNat 0)
  else if ev (aMk A n ((E + b / H / H * H + (n - 2 * E) / H) * H + (n - 2 * E) % H)) then (E + b / H / H * H + (n - 2 * E) / H) * H + (n - 2 * E) % H else -2
/-- the other end of a link -/
def otS (H E l n : Int) : Int := if l / H = n then upS H E l else l / H
/-- the k-th switch of a way, and where it goes on from there -/
def pN (H E : Int) (A : AS) (n b s : Int) : Nat → Int
  | 0 => n
  | k + 1 => otS H E (nl H E A (pN H E A n b s k) b s) (pN H E A n b s k)
def pL (H E : Int) (A : AS) (n b s : Int) (k : Nat) : Int := nl H E A (pN H E A n b s k) b s
/-- how many switches: the first of them from which it does not go on -/
def pV (H E : Int) (A : AS) (n b s : Int) : Nat := if pL H E A n b s 0 < 0 then 1 else if pL H E A n b s 1 < 0 then 2 else if pL H E A n b s 2 < 0 then 3 else if pL H E A n b s 3 < 0 then 4 else 5
def pA (H E : Int) (A : AS) (n b s : Int) : Bool := decide (pL H E A n b s (pV H E A n b s - 1) = -4)
/-- the numbers are as they can be -/
def AB (H HO S L B : Int) (A : AS) : Prop := (∀ l, 0 ≤ l → l < L → 0 ≤ aAg A l ∧ aAg A l ≤ B) ∧ (∀ n l, 0 ≤ n → n < S → 0 ≤ l → l < L → 0 ≤ aMk A n l ∧ aMk A n l ≤ B) ∧ (0 ≤ aNf A ∧ aNf A ≤ 16) ∧ (∀ f, 0 ≤ f → f < aNf A → (0 ≤ aFr A f ∧ aFr A f < HO) ∧ (0 ≤ aTo A f ∧ aTo A f < HO) ∧ aFr A f ≠ aTo A f ∧ (1 ≤ aSz A f ∧ aSz A f ≤ 99) ∧ (0 ≤ aSh A f ∧ aSh A f < H * H))
/-- the class's places, as its Shape holds them -/
def SP (I : Nat → Int → Int) (K H E HO S L : Int) : Prop := I 3 0 = K ∧ I 3 1 = H ∧ I 3 2 = E ∧ I 3 3 = HO ∧ I 3 4 = S ∧ I 3 5 = L ∧ (∀ n, 0 ≤ n → n < S → I 4 n = tierS E n ∧ I 5 n = podS H E n ∧ I 6 n = placeS H E n ∧ I 7 n = membS H E n) ∧ (∀ l, 0 ≤ l → l < L → I 8 l = l / H ∧ I 9 l = upS H E l) ∧ (∀ a, 0 ≤ a → a < HO → I 10 a = a / H ∧ I 11 a = a % H)
/-- a State of the class holds A -/
def CS (I : Nat → Int → Int) (s g : Nat) (S L : Int) (A : AS) : Prop := I s 5 = aNf A ∧ I s 7 = L ∧ I s 8 = S ∧ (∀ l, 0 ≤ l → l < L → I (s + 1) l = aAg A l) ∧ (∀ n l, 0 ≤ n → n < S → 0 ≤ l → l < L → I g (l * S + n) = aMk A n l) ∧ (∀ f, 0 ≤ f → f < aNf A → I (s + 2) f = aFr A f ∧ I (s + 3) f = aTo A f ∧ I (s + 4) f = aSz A f ∧ I (s + 5) f = aSh A f)
/-- the class's world, as its reads need it: places, a State s with its marks at g, holding A -/
def CF (sh : List (Nat × Nat)) (R : Nat → Nat → Option Nat) (I : Nat → Int → Int) (K H E HO S L B : Int) (s g M : Nat) (A : AS) : Prop := LC sh R ∧ KP K H E HO S L ∧ SP I K H E HO S L ∧ isS s ∧ R s 6 = some g ∧ sh[g]? = some (0, M) ∧ 53 ≤ g ∧ M ≤ 4860 ∧ L * S ≤ M ∧ CS I s g S L A ∧ AB H HO S L B A ∧ B ≤ 1000000
theorem SP.keep {I I' : Nat → Int → Int} {K H E HO S L : Int} (h : SP I K H E HO S L) (e : ∀ a, 3 ≤ a → a ≤ 11 → I' a = I a) : SP I' K H E HO S L := by
  unfold SP at h ⊢
  rw [e 3 (by omega) (by omega), e 4 (by omega) (by omega), e 5 (by omega) (by omega), e 6 (by omega) (by omega), e 7 (by omega) (by omega), e 8 (by omega) (by omega), e 9 (by omega) (by omega), e 10 (by omega) (by omega), e 11 (by omega) (by omega)]
  exact h
theorem CS.keep {I I' : Nat → Int → Int} {s g : Nat} {S L : Int} {A : AS} (h : CS I s g S L A) (e : ∀ a, (s ≤ a ∧ a ≤ s + 5) ∨ a = g → I' a = I a) : CS I' s g S L A := by
  unfold CS at h ⊢
  rw [e s (by omega), e (s + 1) (by omega), e (s + 2) (by omega), e (s + 3) (by omega), e (s + 4) (by omega), e (s + 5) (by omega), e g (by omega)]
  exact h
theorem CF.keep {sh : List (Nat × Nat)} {R : Nat → Nat → Option Nat} {I I' : Nat → Int → Int} {K H E HO S L B : Int} {s g M : Nat} {A : AS} (h : CF sh R I K H E HO S L B s g M A) (e : ∀ a, (3 ≤ a ∧ a ≤ 11) ∨ 25 ≤ a → I' a = I a) : CF sh R I' K H E HO S L B s g M A := by
  obtain ⟨h1, h2, h3, h4, h5, h6, h7, h8, h9, h10, h11⟩ := h
  refine ⟨h1, h2, h3.keep (fun a q1 q2 => e a (Or.inl ⟨q1, q2⟩)), h4, h5, h6, h7, h8, h9, h10.keep (fun a q => e a (Or.inr ?_)), h11⟩
  rcases h4 with rfl | rfl | rfl | rfl <;> omega
theorem sumN_ext {f g : Int → Int} : ∀ n : Nat, (∀ i : Nat, i < n → f i = g i) → sumN f n = sumN g n
  | 0, _ => rfl
  | n + 1, h => by rw [sumN, sumN, sumN_ext n (fun i hi => h i (by omega)), h n (by omega)]
theorem cnt_s {P : Int → Bool} {n : Nat} : cnt P (n + 1) = cnt P n + if P n then 1 else 0 := rfl
theorem cnt_t {P : Int → Bool} {n : Nat} (h : P n = true) : cnt P (n + 1) = cnt P n + 1 := by rw [cnt_s, if_pos h]
theorem cnt_f {P : Int → Bool} {n : Nat} (h : P n = false) : cnt P (n + 1) = cnt P n := by rw [cnt_s, if_neg (by rw [h]; decide), Int.add_zero]
theorem cnt_le (P : Int → Bool) : ∀ n : Nat, 0 ≤ cnt P n ∧ cnt P n ≤ n
  | 0 => ⟨Int.le_refl _, Int.le_refl _⟩
  | n + 1 => by
    have := cnt_le P n
    rw [cnt_s]
    split <;> omega
theorem ev_t {z : Int} : ev z = true ↔ z % 2 = 0 := decide_eq_true_iff
theorem ev_f {z : Int} : ev z = false ↔ ¬ z % 2 = 0 := by unfold ev; exact decide_eq_false_iff_not
theorem anyB_t {P : Int → Bool} : ∀ {n : Nat}, anyB P n = true ↔ ∃ i : Nat, i < n ∧ P i = true
  | 0 => ⟨fun h => (by cases h), fun ⟨i, h, _⟩ => absurd h (by omega)⟩
  | n + 1 => by
    rw [anyB, Bool.or_eq_true, anyB_t]
    constructor
    · rintro (⟨i, h1, h2⟩ | h)
      · exact ⟨i, by omega, h2⟩
      · exact ⟨n, by omega, h⟩
    · rintro ⟨i, h1, h2⟩
      rcases (show i < n ∨ i = n by omega) with q | q
      · exact Or.inl ⟨i, q, h2⟩
      · subst q; exact Or.inr h2
