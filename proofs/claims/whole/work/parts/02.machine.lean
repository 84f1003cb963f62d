/-! ===== THE PURE MACHINE: virtual heaps, ints as numbers, one step ===== -/
/-- a value: a number, or a reference (a virtual address, or null) -/
abbrev VV : Type := Int ⊕ Option Nat
/-- a virtual heap: shapes (kind, length) by address: kind 0 an int array, 1 a char array, c + 2 an object of class c; ref fields; int fields and array elements -/
abbrev Hp : Type := List (Nat × Nat) × (Nat → Nat → Option Nat) × (Nat → Int → Int)
/-- tag, three numbers, a number, a list -/
abbrev Op : Type := Nat × Nat × Nat × Nat × Int × List Nat
/-- pc, locals, stack, heap, cells and slots that may still be made -/
abbrev St : Type := Nat × List VV × List VV × Hp × Nat × Nat
abbrev inR (z : Int) : Prop := -2147483648 ≤ z ∧ z < 2147483648
def upF (f : Int → Int) (i v : Int) : Int → Int := fun j => if j = i then v else f j
def upA (I : Nat → Int → Int) (a : Nat) (f : Int → Int) : Nat → Int → Int := fun b => if b = a then f else I b
def upK (f : Nat → Option Nat) (k : Nat) (v : Option Nat) : Nat → Option Nat := fun j => if j = k then v else f j
def upR (R : Nat → Nat → Option Nat) (a : Nat) (f : Nat → Option Nat) : Nat → Nat → Option Nat := fun b => if b = a then f else R b
def cpF (f g : Int → Int) (sp dp n : Int) : Int → Int := fun j => if dp ≤ j ∧ j < dp + n then f (sp + (j - dp)) else g j
/-- the text constant, the script: references outside the virtual heap -/
abbrev STR : Nat := 1000000
abbrev SCR : Nat := 1000001
def n_iload (a pc : Nat) (ls st : List VV) (h : Hp) (bc bs : Nat) (t : St) : Prop := ∃ v, ls[a]? = some (.inl v) ∧ t = (pc + (if a < 4 then 1 else 2), ls, .inl v :: st, h, bc, bs)
def n_aload (a pc : Nat) (ls st : List VV) (h : Hp) (bc bs : Nat) (t : St) : Prop := ∃ v, ls[a]? = some (.inr (some v)) ∧ t = (pc + (if a < 4 then 1 else 2), ls, .inr (some v) :: st, h, bc, bs)
def n_istore (a pc : Nat) (ls st : List VV) (h : Hp) (bc bs : Nat) (t : St) : Prop := ∃ v st', st = .inl v :: st' ∧ a < ls.length ∧ t = (pc + (if a < 4 then 1 else 2), ls.set a (.inl v), st', h, bc, bs)
def n_astore (a pc : Nat) (ls st : List VV) (h : Hp) (bc bs : Nat) (t : St) : Prop := ∃ v st', st = .inr (some v) :: st' ∧ a < ls.length ∧ t = (pc + (if a < 4 then 1 else 2), ls.set a (.inr (some v)), st', h, bc, bs)
/-- a constant: z, the instruction's length n -/
def n_const (n : Nat) (z : Int) (pc : Nat) (ls st : List VV) (h : Hp) (bc bs : Nat) (t : St) : Prop := t = (pc + n, ls, .inl z :: st, h, bc, bs)
def n_bin (f : Int → Int → Int) (P : Int → Int → Prop) (pc : Nat) (ls st : List VV) (h : Hp) (bc bs : Nat) (t : St) : Prop := ∃ x y st', st = .inl y :: .inl x :: st' ∧ P x y ∧ t = (pc + 1, ls, .inl (f x y) :: st', h, bc, bs)
def n_iinc (a : Nat) (z : Int) (pc : Nat) (ls st : List VV) (h : Hp) (bc bs : Nat) (t : St) : Prop := ∃ v, ls[a]? = some (.inl v) ∧ inR (v + z) ∧ t = (pc + 3, ls.set a (.inl (v + z)), st, h, bc, bs)
def n_i2c (pc : Nat) (ls st : List VV) (h : Hp) (bc bs : Nat) (t : St) : Prop := ∃ x st', st = .inl x :: st' ∧ (0 ≤ x ∧ x < 65536) ∧ t = (pc + 1, ls, .inl x :: st', h, bc, bs)
def n_dup (pc : Nat) (ls st : List VV) (h : Hp) (bc bs : Nat) (t : St) : Prop := ∃ v st', st = v :: st' ∧ t = (pc + 1, ls, v :: v :: st', h, bc, bs)
def n_dup2 (pc : Nat) (ls st : List VV) (h : Hp) (bc bs : Nat) (t : St) : Prop := ∃ v w st', st = v :: w :: st' ∧ t = (pc + 1, ls, v :: w :: v :: w :: st', h, bc, bs)
def n_pop (pc : Nat) (ls st : List VV) (h : Hp) (bc bs : Nat) (t : St) : Prop := ∃ v st', st = v :: st' ∧ t = (pc + 1, ls, st', h, bc, bs)
def n_goto (a : Nat) (ls st : List VV) (h : Hp) (bc bs : Nat) (t : St) : Prop := t = (a, ls, st, h, bc, bs)
def n_if (P : Int → Prop) (a pc : Nat) (ls st : List VV) (h : Hp) (bc bs : Nat) (t : St) : Prop := ∃ x st', st = .inl x :: st' ∧ ((P x ∧ t = (a, ls, st', h, bc, bs)) ∨ (¬ P x ∧ t = (pc + 3, ls, st', h, bc, bs)))
def n_icmp (P : Int → Int → Prop) (a pc : Nat) (ls st : List VV) (h : Hp) (bc bs : Nat) (t : St) : Prop := ∃ x y st', st = .inl y :: .inl x :: st' ∧ ((P x y ∧ t = (a, ls, st', h, bc, bs)) ∨ (¬ P x y ∧ t = (pc + 3, ls, st', h, bc, bs)))
def n_getI (ci k pc : Nat) (ls st : List VV) (h : Hp) (bc bs : Nat) (t : St) : Prop := ∃ o n st', st = .inr (some o) :: st' ∧ h.1[o]? = some (ci + 2, n) ∧ t = (pc + 3, ls, .inl (h.2.2 o k) :: st', h, bc, bs)
def n_getR (ci k pc : Nat) (ls st : List VV) (h : Hp) (bc bs : Nat) (t : St) : Prop := ∃ o n st', st = .inr (some o) :: st' ∧ h.1[o]? = some (ci + 2, n) ∧ t = (pc + 3, ls, .inr (h.2.1 o k) :: st', h, bc, bs)
def n_putI (P : Int → Prop) (ci k pc : Nat) (ls st : List VV) (h : Hp) (bc bs : Nat) (t : St) : Prop := ∃ o n v st', st = .inl v :: .inr (some o) :: st' ∧ h.1[o]? = some (ci + 2, n) ∧ P v ∧ t = (pc + 3, ls, st', (h.1, h.2.1, upA h.2.2 o (upF (h.2.2 o) k v)), bc, bs)
def n_putR (ci k pc : Nat) (ls st : List VV) (h : Hp) (bc bs : Nat) (t : St) : Prop := ∃ o n v st', st = .inr (some v) :: .inr (some o) :: st' ∧ h.1[o]? = some (ci + 2, n) ∧ v < h.1.length ∧ t = (pc + 3, ls, st', (h.1, upR h.2.1 o (upK (h.2.1 o) k (some v)), h.2.2), bc, bs)
def n_ald (kd pc : Nat) (ls st : List VV) (h : Hp) (bc bs : Nat) (t : St) : Prop := ∃ (i : Int) (o n : Nat) (st' : List VV), st = .inl i :: .inr (some o) :: st' ∧ h.1[o]? = some (kd, n) ∧ (0 ≤ i ∧ i < n) ∧ t = (pc + 1, ls, .inl (h.2.2 o i) :: st', h, bc, bs)
def n_ast (kd : Nat) (P : Int → Prop) (pc : Nat) (ls st : List VV) (h : Hp) (bc bs : Nat) (t : St) : Prop := ∃ (i v : Int) (o n : Nat) (st' : List VV), st = .inl v :: .inl i :: .inr (some o) :: st' ∧ h.1[o]? = some (kd, n) ∧ (0 ≤ i ∧ i < n) ∧ P v ∧ t = (pc + 1, ls, st', (h.1, h.2.1, upA h.2.2 o (upF (h.2.2 o) i v)), bc, bs)
def n_alen (pc : Nat) (ls st : List VV) (h : Hp) (bc bs : Nat) (t : St) : Prop := ∃ (o n : Nat) (st' : List VV), st = .inr (some o) :: st' ∧ h.1[o]? = some (0, n) ∧ t = (pc + 1, ls, .inl (n : Int) :: st', h, bc, bs)
def n_newa (kd pc : Nat) (ls st : List VV) (h : Hp) (bc bs : Nat) (t : St) : Prop := ∃ (n : Nat) (st' : List VV), st = .inl (n : Int) :: st' ∧ n ≤ 100000 ∧ 1 ≤ bc ∧ n ≤ bs ∧ h.1.length < 1000 ∧ t = (pc + 2, ls, .inr (some h.1.length) :: st', (h.1 ++ [(kd, n)], upR h.2.1 h.1.length (fun _ => none), upA h.2.2 h.1.length (fun _ => 0)), bc - 1, bs - n)
def n_new (ci N pc : Nat) (ls st : List VV) (h : Hp) (bc bs : Nat) (t : St) : Prop := 1 ≤ bc ∧ N ≤ bs ∧ h.1.length < 1000 ∧ t = (pc + 3, ls, .inr (some h.1.length) :: st, (h.1 ++ [(ci + 2, N)], upR h.2.1 h.1.length (fun _ => none), upA h.2.2 h.1.length (fun _ => 0)), bc - 1, bs - N)
def n_objI (pc : Nat) (ls st : List VV) (h : Hp) (bc bs : Nat) (t : St) : Prop := ∃ (o : Nat) (st' : List VV), st = .inr (some o) :: st' ∧ st'.length ≤ 8 ∧ t = (pc + 3, ls, st', h, bc, bs)
def n_copy (pc : Nat) (ls st : List VV) (h : Hp) (bc bs : Nat) (t : St) : Prop := ∃ (n dp sp : Int) (a b na nb : Nat) (st' : List VV), st = .inl n :: .inl dp :: .inr (some b) :: .inl sp :: .inr (some a) :: st' ∧ h.1[a]? = some (0, na) ∧ h.1[b]? = some (0, nb) ∧ 0 ≤ n ∧ 0 ≤ sp ∧ 0 ≤ dp ∧ sp + n ≤ na ∧ dp + n ≤ nb ∧ st'.length ≤ 8 ∧ t = (pc + 3, ls, st', (h.1, h.2.1, upA h.2.2 b (cpF (h.2.2 a) (h.2.2 b) sp dp n)), bc, bs)
def n_swt (a : Nat) (tg : List Nat) (ls st : List VV) (h : Hp) (bc bs : Nat) (t : St) : Prop := ∃ x st', st = .inl x :: st' ∧ (((x < 0 ∨ (tg.length : Int) ≤ x) ∧ t = (a, ls, st', h, bc, bs)) ∨ ∃ (k b : Nat), x = (k : Int) ∧ tg[k]? = some b ∧ t = (b, ls, st', h, bc, bs))
/-- the first text: its letters -/
def txt0 : List Nat := [107, 52, 59, 102, 48, 46, 48, 46, 48, 62, 50, 46, 49, 46, 49, 44, 57, 59, 102, 48, 46, 49, 46, 48, 62, 50, 46, 49, 46, 48, 44, 53, 59, 102, 49, 46, 48, 46, 49, 62, 49, 46, 49, 46, 48, 44, 55, 59, 102, 51, 46, 49, 46, 49, 62, 48, 46, 48, 46, 49, 44, 51, 48, 59, 120, 53, 59]
def n_ldcS (pc : Nat) (ls st : List VV) (h : Hp) (bc bs : Nat) (t : St) : Prop := t = (pc + 2, ls, .inr (some STR) :: st, h, bc, bs)
def n_sLen (pc : Nat) (ls st : List VV) (h : Hp) (bc bs : Nat) (t : St) : Prop := ∃ st', st = .inr (some STR) :: st' ∧ st'.length ≤ 8 ∧ t = (pc + 3, ls, .inl 67 :: st', h, bc, bs)
def n_sCh (pc : Nat) (ls st : List VV) (h : Hp) (bc bs : Nat) (t : St) : Prop := ∃ (i b : Nat) (st' : List VV), st = .inl (i : Int) :: .inr (some STR) :: st' ∧ st'.length ≤ 8 ∧ txt0[i]? = some b ∧ t = (pc + 3, ls, .inl (b : Int) :: st', h, bc, bs)
def n_sld (X : Nat × (Int → Int)) (pc : Nat) (ls st : List VV) (h : Hp) (bc bs : Nat) (t : St) : Prop := ∃ (i : Int) (st' : List VV), st = .inl i :: .inr (some SCR) :: st' ∧ (0 ≤ i ∧ i < X.1) ∧ t = (pc + 1, ls, .inl (X.2 i) :: st', h, bc, bs)
def n_slen (X : Nat × (Int → Int)) (pc : Nat) (ls st : List VV) (h : Hp) (bc bs : Nat) (t : St) : Prop := ∃ st', st = .inr (some SCR) :: st' ∧ t = (pc + 1, ls, .inl (X.1 : Int) :: st', h, bc, bs)
def n_mm (f : Int → Int → Int) (pc : Nat) (ls st : List VV) (h : Hp) (bc bs : Nat) (t : St) : Prop := ∃ x y st', st = .inl y :: .inl x :: st' ∧ st'.length ≤ 8 ∧ t = (pc + 3, ls, .inl (f x y) :: st', h, bc, bs)
/-- one step that is no call and no return -/
def nx (X : Nat × (Int → Int)) (o : Op) (pc : Nat) (ls st : List VV) (h : Hp) (bc bs : Nat) (t : St) : Prop :=
  if o.1 = 0 then n_iload o.2.1 pc ls st h bc bs t else
  if o.1 = 1 then n_aload o.2.1 pc ls st h bc bs t else
  if o.1 = 2 then n_istore o.2.1 pc ls st h bc bs t else
  if o.1 = 3 then n_astore o.2.1 pc ls st h bc bs t else
  if o.1 = 4 then n_const 1 o.2.2.2.2.1 pc ls st h bc bs t else
  if o.1 = 5 then n_const 2 o.2.2.2.2.1 pc ls st h bc bs t else
  if o.1 = 6 then n_const 3 o.2.2.2.2.1 pc ls st h bc bs t else
  if o.1 = 7 then n_const 2 o.2.2.2.2.1 pc ls st h bc bs t else
  if o.1 = 8 then n_bin (fun x y => x + y) (fun x y => inR (x + y)) pc ls st h bc bs t else
  if o.1 = 9 then n_bin (fun x y => x - y) (fun x y => inR (x - y)) pc ls st h bc bs t else
  if o.1 = 10 then n_bin (fun x y => x * y) (fun x y => inR (x * y)) pc ls st h bc bs t else
  if o.1 = 11 then n_bin (fun x y => x / y) (fun x y => 0 ≤ x ∧ 0 < y) pc ls st h bc bs t else
  if o.1 = 12 then n_bin (fun x y => x % y) (fun x y => 0 ≤ x ∧ 0 < y) pc ls st h bc bs t else
  if o.1 = 13 then n_iinc o.2.1 o.2.2.2.2.1 pc ls st h bc bs t else
  if o.1 = 14 then n_bin (fun x _ => x % 32) (fun _ y => y = 31) pc ls st h bc bs t else
  if o.1 = 15 then n_i2c pc ls st h bc bs t else
  if o.1 = 16 then n_dup pc ls st h bc bs t else
  if o.1 = 17 then n_dup2 pc ls st h bc bs t else
  if o.1 = 18 then n_pop pc ls st h bc bs t else
  if o.1 = 19 then n_goto o.2.1 ls st h bc bs t else
  if o.1 = 20 then n_if (fun x => x = 0) o.2.1 pc ls st h bc bs t else
  if o.1 = 21 then n_if (fun x => x ≠ 0) o.2.1 pc ls st h bc bs t else
  if o.1 = 22 then n_if (fun x => x < 0) o.2.1 pc ls st h bc bs t else
  if o.1 = 23 then n_if (fun x => 0 ≤ x) o.2.1 pc ls st h bc bs t else
  if o.1 = 24 then n_if (fun x => 0 < x) o.2.1 pc ls st h bc bs t else
  if o.1 = 25 then n_if (fun x => x ≤ 0) o.2.1 pc ls st h bc bs t else
  if o.1 = 26 then n_icmp (fun x y => x = y) o.2.1 pc ls st h bc bs t else
  if o.1 = 27 then n_icmp (fun x y => x ≠ y) o.2.1 pc ls st h bc bs t else
  if o.1 = 28 then n_icmp (fun x y => x < y) o.2.1 pc ls st h bc bs t else
  if o.1 = 29 then n_icmp (fun x y => y ≤ x) o.2.1 pc ls st h bc bs t else
  if o.1 = 30 then n_icmp (fun x y => y < x) o.2.1 pc ls st h bc bs t else
  if o.1 = 31 then n_icmp (fun x y => x ≤ y) o.2.1 pc ls st h bc bs t else
  if o.1 = 32 then n_getI o.2.2.1 o.2.2.2.1 pc ls st h bc bs t else
  if o.1 = 33 then n_getR o.2.2.1 o.2.2.2.1 pc ls st h bc bs t else
  if o.1 = 34 then n_putI (fun _ => True) o.2.2.1 o.2.2.2.1 pc ls st h bc bs t else
  if o.1 = 35 then n_putI (fun v => v = 0 ∨ v = 1) o.2.2.1 o.2.2.2.1 pc ls st h bc bs t else
  if o.1 = 36 then n_putR o.2.2.1 o.2.2.2.1 pc ls st h bc bs t else
  if o.1 = 37 then n_putR o.2.2.1 o.2.2.2.1 pc ls st h bc bs t else
  if o.1 = 38 then n_ald 0 pc ls st h bc bs t else
  if o.1 = 39 then n_ast 0 (fun _ => True) pc ls st h bc bs t else
  if o.1 = 40 then n_ald 1 pc ls st h bc bs t else
  if o.1 = 41 then n_ast 1 (fun v => 0 ≤ v ∧ v < 65536) pc ls st h bc bs t else
  if o.1 = 42 then n_alen pc ls st h bc bs t else
  if o.1 = 43 then n_newa 0 pc ls st h bc bs t else
  if o.1 = 44 then n_newa 1 pc ls st h bc bs t else
  if o.1 = 45 then n_new o.2.2.1 o.2.2.2.1 pc ls st h bc bs t else
  if o.1 = 49 then n_objI pc ls st h bc bs t else
  if o.1 = 50 then n_copy pc ls st h bc bs t else
  if o.1 = 51 then n_swt o.2.1 o.2.2.2.2.2 ls st h bc bs t else
  if o.1 = 54 then n_ldcS pc ls st h bc bs t else
  if o.1 = 55 then n_sLen pc ls st h bc bs t else
  if o.1 = 56 then n_sCh pc ls st h bc bs t else
  if o.1 = 57 then n_sld X pc ls st h bc bs t else
  if o.1 = 58 then n_slen X pc ls st h bc bs t else
  if o.1 = 61 then n_mm max pc ls st h bc bs t else
  if o.1 = 62 then n_mm min pc ls st h bc bs t else False
/-- the instruction that an op stands for -/
def ins (pc : Nat) (o : Op) : Instr × Nat :=
  if o.1 = 0 then (if o.2.1 < 4 then (.iload_n (Fin.ofNat 4 o.2.1), 1) else (.iload o.2.1, 2)) else
  if o.1 = 1 then (if o.2.1 < 4 then (.aload_n (Fin.ofNat 4 o.2.1), 1) else (.aload o.2.1, 2)) else
  if o.1 = 2 then (if o.2.1 < 4 then (.istore_n (Fin.ofNat 4 o.2.1), 1) else (.istore o.2.1, 2)) else
  if o.1 = 3 then (if o.2.1 < 4 then (.astore_n (Fin.ofNat 4 o.2.1), 1) else (.astore o.2.1, 2)) else
  if o.1 = 4 then (.iconst o.2.2.2.2.1, 1) else
  if o.1 = 5 then (.bipush o.2.2.2.2.1, 2) else
  if o.1 = 6 then (.sipush o.2.2.2.2.1, 3) else
  if o.1 = 7 then (.ldc o.2.1, 2) else
  if o.1 = 8 then (.iadd, 1) else
  if o.1 = 9 then (.isub, 1) else
  if o.1 = 10 then (.imul, 1) else
  if o.1 = 11 then (.idiv, 1) else
  if o.1 = 12 then (.irem, 1) else
  if o.1 = 13 then (.iinc o.2.1 o.2.2.2.2.1, 3) else
  if o.1 = 14 then (.iand, 1) else
  if o.1 = 15 then (.i2c, 1) else
  if o.1 = 16 then (.dup, 1) else
  if o.1 = 17 then (.dup2, 1) else
  if o.1 = 18 then (.pop, 1) else
  if o.1 = 19 then (.goto ((o.2.1 : Int) - pc), 3) else
  if o.1 = 20 then (.ifCond .eq ((o.2.1 : Int) - pc), 3) else
  if o.1 = 21 then (.ifCond .ne ((o.2.1 : Int) - pc), 3) else
  if o.1 = 22 then (.ifCond .lt ((o.2.1 : Int) - pc), 3) else
  if o.1 = 23 then (.ifCond .ge ((o.2.1 : Int) - pc), 3) else
  if o.1 = 24 then (.ifCond .gt ((o.2.1 : Int) - pc), 3) else
  if o.1 = 25 then (.ifCond .le ((o.2.1 : Int) - pc), 3) else
  if o.1 = 26 then (.if_icmp .eq ((o.2.1 : Int) - pc), 3) else
  if o.1 = 27 then (.if_icmp .ne ((o.2.1 : Int) - pc), 3) else
  if o.1 = 28 then (.if_icmp .lt ((o.2.1 : Int) - pc), 3) else
  if o.1 = 29 then (.if_icmp .ge ((o.2.1 : Int) - pc), 3) else
  if o.1 = 30 then (.if_icmp .gt ((o.2.1 : Int) - pc), 3) else
  if o.1 = 31 then (.if_icmp .le ((o.2.1 : Int) - pc), 3) else
  if o.1 = 32 then (.getfield o.2.1, 3) else
  if o.1 = 33 then (.getfield o.2.1, 3) else
  if o.1 = 34 then (.putfield o.2.1, 3) else
  if o.1 = 35 then (.putfield o.2.1, 3) else
  if o.1 = 36 then (.putfield o.2.1, 3) else
  if o.1 = 37 then (.putfield o.2.1, 3) else
  if o.1 = 38 then (.iaload, 1) else
  if o.1 = 39 then (.iastore, 1) else
  if o.1 = 40 then (.caload, 1) else
  if o.1 = 41 then (.castore, 1) else
  if o.1 = 42 then (.arraylength, 1) else
  if o.1 = 43 then (.newarray .int, 2) else
  if o.1 = 44 then (.newarray .char, 2) else
  if o.1 = 45 then (.new o.2.1, 3) else
  if o.1 = 46 then (.invokevirtual o.2.1, 3) else
  if o.1 = 47 then (.invokestatic o.2.1, 3) else
  if o.1 = 48 then (.invokespecial o.2.1, 3) else
  if o.1 = 49 then (.invokespecial o.2.1, 3) else
  if o.1 = 50 then (.invokestatic o.2.1, 3) else
  if o.1 = 51 then (.tableswitch ((o.2.1 : Int) - pc) 0 ((o.2.2.2.2.2.length : Int) - 1) (o.2.2.2.2.2.map (fun t : Nat => (t : Int) - pc)).toArray, 1 + (3 - pc % 4) + 12 + 4 * o.2.2.2.2.2.length) else
  if o.1 = 52 then (.ireturn, 1) else
  if o.1 = 53 then (.return_, 1) else
  if o.1 = 54 then (.ldc o.2.1, 2) else
  if o.1 = 55 then (.invokevirtual o.2.1, 3) else
  if o.1 = 56 then (.invokevirtual o.2.1, 3) else
  if o.1 = 57 then (.iaload, 1) else
  if o.1 = 58 then (.arraylength, 1) else
  if o.1 = 59 then (.invokespecial o.2.1, 3) else
  if o.1 = 60 then (.invokestatic o.2.1, 3) else
  if o.1 = 61 then (.invokestatic o.2.1, 3) else
  if o.1 = 62 then (.invokestatic o.2.1, 3) else (.nop, 1)
