/-! ===== specification: all pairs ===== -/
section SP3
variable {H E : Int} {A : AS}
/-- the k-th link of a way is l, gone up; gone down -/
def uP (H E : Int) (A : AS) (n b ss l k : Int) : Bool := decide (pL H E A n b ss k.toNat = l) && decide (l / H = pN H E A n b ss k.toNat)
def dP (H E : Int) (A : AS) (n b ss l k : Int) : Bool := decide (pL H E A n b ss k.toNat = l) && !decide (l / H = pN H E A n b ss k.toNat)
def uC (H E : Int) (A : AS) (n b ss l : Int) : Int := cnt (uP H E A n b ss l) (pV H E A n b ss - 1)
def dC (H E : Int) (A : AS) (n b ss l : Int) : Int := cnt (dP H E A n b ss l) (pV H E A n b ss - 1)
theorem uC_le {n b ss l : Int} : 0 ≤ uC H E A n b ss l ∧ uC H E A n b ss l ≤ 4 := by
  have := cnt_le (uP H E A n b ss l) (pV H E A n b ss - 1)
  have := pV_r (H := H) (E := E) (A := A) (n := n) (b := b) (s := ss)
  unfold uC
  omega
theorem dC_le {n b ss l : Int} : 0 ≤ dC H E A n b ss l ∧ dC H E A n b ss l ≤ 4 := by
  have := cnt_le (dP H E A n b ss l) (pV H E A n b ss - 1)
  have := pV_r (H := H) (E := E) (A := A) (n := n) (b := b) (s := ss)
  unfold dC
  omega
/-- of one edge and one host: how many letters come, how often they go over l -/
def gA (H E : Int) (A : AS) (e b : Int) : Int := if pA H E A e b 0 then (if b / H = e then H - 1 else H) else 0
def gU (H E : Int) (A : AS) (l e b : Int) : Int := if pA H E A e b 0 then H * uC H E A e b 0 l else 0
def gD (H E : Int) (A : AS) (l e b : Int) : Int := if pA H E A e b 0 then H * dC H E A e b 0 l else 0
theorem gA_le (h : 1 ≤ H ∧ H ≤ 3) {e b : Int} : 0 ≤ gA H E A e b ∧ gA H E A e b ≤ 3 := by
  unfold gA
  split
  · split <;> omega
  · omega
theorem gU_le (h : 1 ≤ H ∧ H ≤ 3) {l e b : Int} : 0 ≤ gU H E A l e b ∧ gU H E A l e b ≤ 12 := by
  have := uC_le (H := H) (E := E) (A := A) (n := e) (b := b) (ss := 0) (l := l)
  unfold gU
  split
  · rcases (show H = 1 ∨ H = 2 ∨ H = 3 by omega) with rfl | rfl | rfl <;> omega
  · omega
theorem gD_le (h : 1 ≤ H ∧ H ≤ 3) {l e b : Int} : 0 ≤ gD H E A l e b ∧ gD H E A l e b ≤ 12 := by
  have := dC_le (H := H) (E := E) (A := A) (n := e) (b := b) (ss := 0) (l := l)
  unfold gD
  split
  · rcases (show H = 1 ∨ H = 2 ∨ H = 3 by omega) with rfl | rfl | rfl <;> omega
  · omega
def svS (g : Int → Int → Int) (HO E : Int) : Int := sumN (fun e => sumN (g e) HO.toNat) E.toNat
/-- the most, the least of f over those of the first n that are so; none: -4 -/
def mxF (f : Int → Int) (P : Int → Bool) : Nat → Int
  | 0 => -4
  | n + 1 => if P n then max (mxF f P n) (f n) else mxF f P n
def lsF (f : Int → Int) (P : Int → Bool) : Nat → Int
  | 0 => -4
  | n + 1 => if P n then (if lsF f P n = -4 ∨ f n < lsF f P n then f n else lsF f P n) else lsF f P n
end SP3
