/-! ===== THE LAYOUT of the virtual heap (by program: wip/whole/p14.py) ===== -/
def shC : List (Nat × Nat) := [(10, 12), (4, 4), (1, 200), (5, 14), (0, 45), (0, 45), (0, 45), (0, 45), (0, 108), (0, 108), (0, 54), (0, 54), (3, 5), (0, 5), (0, 5), (8, 2), (0, 45), (9, 3), (2, 5), (0, 108), (0, 108), (6, 5), (0, 96), (0, 16), (0, 324), (7, 9), (0, 108), (0, 16), (0, 16), (0, 16), (0, 16), (0, 0), (7, 9), (0, 108), (0, 16), (0, 16), (0, 16), (0, 16), (0, 0), (7, 9), (0, 108), (0, 16), (0, 16), (0, 16), (0, 16), (0, 0), (7, 9), (0, 108), (0, 16), (0, 16), (0, 16), (0, 16), (0, 0)]
def rC (a k : Nat) : Option Nat := (([[some 1, some 3, some 12, some 15, some 17, some 18, some 21], [some 2], [], [none, none, none, none, none, none, some 4, some 5, some 6, some 7, some 8, some 9, some 10, some 11], [], [], [], [], [], [], [], [], [some 3, some 13, some 14], [], [], [some 3, some 16], [], [some 3], [some 3, some 12, some 19, some 20], [], [], [some 3, some 12, some 22, some 23, some 24], [], [], [], [some 26, some 27, some 28, some 29, some 30], [], [], [], [], [], [], [some 33, some 34, some 35, some 36, some 37], [], [], [], [], [], [], [some 40, some 41, some 42, some 43, some 44], [], [], [], [], [], [], [some 47, some 48, some 49, some 50, some 51], [], [], [], [], [], []] : List (List (Option Nat))).getD a []).getD k none
def shM : List (Nat × Nat) := [(11, 30), (0, 200), (0, 108), (0, 4860), (0, 4860), (0, 64), (0, 216), (0, 9720), (0, 128), (0, 2), (0, 64), (0, 108), (0, 6), (0, 6), (0, 108), (0, 108), (0, 54), (0, 54), (0, 16), (0, 16), (0, 16)]
def rM (k : Nat) : Option Nat := ([none, some 58, none, none, some 59, some 60, some 61, none, some 62, none, some 63, some 64, some 65, some 66, none, none, some 67, some 68, none, some 69, some 70, none, some 71, some 72, some 73, some 74, some 75, some 76, none, some 77] : List (Option Nat)).getD k none
/-- the class's own cells lie where they were made, their fixed references too -/
def LC (sh : List (Nat × Nat)) (R : Nat → Nat → Option Nat) : Prop := (∀ (a : Nat) (q : Nat × Nat), shC[a]? = some q → sh[a]? = some q) ∧ (∀ (a k v : Nat), rC a k = some v → R a k = some v)
/-- the reference's -/
def LM (sh : List (Nat × Nat)) (R : Nat → Nat → Option Nat) : Prop := (∀ (a : Nat) (q : Nat × Nat), (if 57 ≤ a then shM[a - 57]? else none) = some q → sh[a]? = some q) ∧ (∀ (a k v : Nat), (if a = 57 then rM k else none) = some v → R a k = some v)
/-- a State's address -/
def isS (s : Nat) : Prop := s = 25 ∨ s = 32 ∨ s = 39 ∨ s = 46
section LAY
variable {sh : List (Nat × Nat)} {R : Nat → Nat → Option Nat} {s : Nat}
theorem LC.s0 (hL : LC sh R) (h : isS s) : sh[s]? = some (7, 9) := by rcases h with rfl | rfl | rfl | rfl <;> exact hL.1 _ _ rfl
theorem LC.s1 (hL : LC sh R) (h : isS s) : sh[s + 1]? = some (0, 108) := by rcases h with rfl | rfl | rfl | rfl <;> exact hL.1 _ _ rfl
theorem LC.s2 (hL : LC sh R) (h : isS s) : sh[s + 2]? = some (0, 16) := by rcases h with rfl | rfl | rfl | rfl <;> exact hL.1 _ _ rfl
theorem LC.s3 (hL : LC sh R) (h : isS s) : sh[s + 3]? = some (0, 16) := by rcases h with rfl | rfl | rfl | rfl <;> exact hL.1 _ _ rfl
theorem LC.s4 (hL : LC sh R) (h : isS s) : sh[s + 4]? = some (0, 16) := by rcases h with rfl | rfl | rfl | rfl <;> exact hL.1 _ _ rfl
theorem LC.s5 (hL : LC sh R) (h : isS s) : sh[s + 5]? = some (0, 16) := by rcases h with rfl | rfl | rfl | rfl <;> exact hL.1 _ _ rfl
theorem LC.r0 (hL : LC sh R) (h : isS s) : R s 0 = some (s + 1) := by rcases h with rfl | rfl | rfl | rfl <;> exact hL.2 _ _ _ rfl
theorem LC.r1 (hL : LC sh R) (h : isS s) : R s 1 = some (s + 2) := by rcases h with rfl | rfl | rfl | rfl <;> exact hL.2 _ _ _ rfl
theorem LC.r2 (hL : LC sh R) (h : isS s) : R s 2 = some (s + 3) := by rcases h with rfl | rfl | rfl | rfl <;> exact hL.2 _ _ _ rfl
theorem LC.r3 (hL : LC sh R) (h : isS s) : R s 3 = some (s + 4) := by rcases h with rfl | rfl | rfl | rfl <;> exact hL.2 _ _ _ rfl
theorem LC.r4 (hL : LC sh R) (h : isS s) : R s 4 = some (s + 5) := by rcases h with rfl | rfl | rfl | rfl <;> exact hL.2 _ _ _ rfl
end LAY
/-- K and the numbers that go with it: K, H, EDGES, HOSTS, SWITCHES, LINKS -/
def KP (K H E HO S L : Int) : Prop := (K = 2 ∧ H = 1 ∧ E = 2 ∧ HO = 2 ∧ S = 5 ∧ L = 4) ∨ (K = 4 ∧ H = 2 ∧ E = 8 ∧ HO = 16 ∧ S = 20 ∧ L = 32) ∨ (K = 6 ∧ H = 3 ∧ E = 18 ∧ HO = 54 ∧ S = 45 ∧ L = 108)
theorem upA_s {I : Nat → Int → Int} {a : Nat} {f : Int → Int} : upA I a f a = f := if_pos rfl
theorem upA_n {I : Nat → Int → Int} {a b : Nat} {f : Int → Int} (h : b ≠ a) : upA I a f b = I b := if_neg h
theorem upF_s {f : Int → Int} {i v : Int} : upF f i v i = v := if_pos rfl
theorem upF_n {f : Int → Int} {i j v : Int} (h : j ≠ i) : upF f i v j = f j := if_neg h
/-- a read: the answer is v, the heap stays -/
abbrev RV (X : Nat × (Int → Int)) (d y : Nat) (as : List VV) (h : Hp) (v : Int) : Prop := WPM X d y as h 0 0 (fun r h' => r = .inl v ∧ h' = h)
/-- a question: whether P, the heap stays -/
abbrev BV (X : Nat × (Int → Int)) (d y : Nat) (as : List VV) (h : Hp) (P : Prop) : Prop := WPM X d y as h 0 0 (fun r h' => h' = h ∧ ((r = .inl 1 ∧ P) ∨ (r = .inl 0 ∧ ¬ P)))
