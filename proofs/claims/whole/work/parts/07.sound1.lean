/-! ===== THE PURE MACHINE'S WORLD IN THE REAL HEAP ===== -/
def im (ad : Nat → Nat) (v : VV) : Value := match v with
  | .inl z => .int (Int32.ofInt z)
  | .inr none => .null
  | .inr (some k) => .ref (ad k)
def fv (ad : Nat → Nat) (h : Hp) (a ci k : Nat) : Value := if 2 ≤ fK ci k then im ad (.inr (h.2.1 a k)) else .int (Int32.ofInt (h.2.2 a k))
def ce (cI cC : ClassId) (ad : Nat → Nat) (h : Hp) (a : Nat) (q : Nat × Nat) : va_E :=
  if q.1 = 0 then .inl (cI, q.2, .inl (fun j => Int32.ofInt (h.2.2 a j)))
  else if q.1 = 1 then .inl (cC, q.2, .inl (fun j => Int32.ofInt (h.2.2 a j)))
  else .inr (q.1 - 2, (List.range q.2).map (fv ad h a (q.1 - 2)))
def wo (cI cC : ClassId) (ad : Nat → Nat) (h : Hp) : va_W := h.1.mapIdx (fun a q => (ad a, ce cI cC ad h a q))
def okV (h : Hp) (v : VV) : Prop := match v with
  | .inl z => inR z
  | .inr none => True
  | .inr (some k) => k < h.1.length ∨ STR ≤ k
def okH (h : Hp) : Prop := (∀ (a : Nat) (i : Int), inR (h.2.2 a i)) ∧ (∀ (a f k : Nat), h.2.1 a f = some k → k < h.1.length) ∧ (∀ (a : Nat) (q : Nat × Nat), h.1[a]? = some q → 2 ≤ q.1 → q.1 - 2 < 10 ∧ q.2 = nF (q.1 - 2)) ∧ h.1.length ≤ 1000 ∧ ∀ (a : Nat) (q : Nat × Nat), h.1[a]? = some q → q.2 ≤ 100000
theorem oI_t {z : Int} (h : inR z) : (Int32.ofInt z).toInt = z := Int32.toInt_ofInt_of_le (by have := h.1; simpa using this) (by have := h.2; simpa using this)
theorem oI_lt {x y : Int} (hx : inR x) (hy : inR y) : Int32.ofInt x < Int32.ofInt y ↔ x < y := by rw [Int32.lt_iff_toInt_lt, oI_t hx, oI_t hy]
theorem oI_le {x y : Int} (hx : inR x) (hy : inR y) : Int32.ofInt x ≤ Int32.ofInt y ↔ x ≤ y := by rw [Int32.le_iff_toInt_le, oI_t hx, oI_t hy]
theorem oI_eq {x y : Int} (hx : inR x) (hy : inR y) : Int32.ofInt x = Int32.ofInt y ↔ x = y := by rw [← Int32.toInt_inj, oI_t hx, oI_t hy]
theorem oI_0 : Int32.ofInt 0 = 0 := rfl
theorem inR_0 : inR 0 := ⟨by decide, by decide⟩
theorem oI_n {z : Int} (h : inR z) : (Int32.ofInt z).toNatClampNeg = z.toNat := Int32.toNatClampNeg_ofInt_of_le (by have := h.1; simpa using this) (by have := h.2; simpa using this)
theorem oI_div {x y : Int} (hx : inR x) (hy : inR y) (h0 : 0 ≤ x) (h1 : 0 < y) : Int32.ofInt x / Int32.ofInt y = Int32.ofInt (x / y) := by
  have hq : inR (x / y) := ⟨by have := Int.ediv_nonneg h0 (Int.le_of_lt h1); omega, by have := Int.ediv_le_self y h0; omega⟩
  rw [← Int32.toInt_inj, Int32.toInt_div_of_ne_right, oI_t hx, oI_t hy, oI_t hq, Int.tdiv_eq_ediv_of_nonneg h0]
  intro e
  have e2 : (Int32.ofInt y).toInt = (-1 : Int32).toInt := by rw [e]
  rw [oI_t hy] at e2
  have e3 : (-1 : Int32).toInt = -1 := by decide
  omega
theorem oI_rem {x y : Int} (hx : inR x) (hy : inR y) (h0 : 0 ≤ x) (h1 : 0 < y) : Int32.ofInt x - Int32.ofInt x / Int32.ofInt y * Int32.ofInt y = Int32.ofInt (x % y) := by
  rw [oI_div hx hy h0 h1, ← Int32.ofInt_mul, ← Int32.ofInt_sub, Int.emod_def, Int.mul_comm]
theorem oI_and {x : Int} : Int32.ofInt x &&& Int32.ofInt 31 = Int32.ofInt (x % 32) := by
  rw [pk_and (Int32.ofInt x) (m := Int32.ofInt 31) 5 (by decide)]
  show Int32.ofNat _ = _
  rw [← Int32.ofInt_eq_ofNat]
  congr 1
  rw [Int32.toBitVec_ofInt, BitVec.toNat_ofInt]
  omega
theorem oI_b {z : Int} (h1 : -128 ≤ z) (h2 : z < 128) : (Int8.ofInt z).toInt32 = Int32.ofInt z := by
  rw [← Int32.toInt_inj, Int8.toInt_toInt32, oI_t ⟨by omega, by omega⟩, Int8.toInt_ofInt_of_le (by simpa using h1) (by simpa using h2)]
theorem oI_s {z : Int} (h1 : -32768 ≤ z) (h2 : z < 32768) : (Int16.ofInt z).toInt32 = Int32.ofInt z := by
  rw [← Int32.toInt_inj, Int16.toInt_toInt32, oI_t ⟨by omega, by omega⟩, Int16.toInt_ofInt_of_le (by simpa using h1) (by simpa using h2)]
theorem oI_c {z : Int} (h1 : 0 ≤ z) (h2 : z < 65536) : ((Int32.ofInt z).toUInt32 % 65536).toInt32 = Int32.ofInt z := by
  rw [pk_char]
  show Int32.ofNat _ = _
  rw [← Int32.ofInt_eq_ofNat]
  congr 1
  rw [Int32.toBitVec_ofInt, BitVec.toNat_ofInt]
  omega
theorem ce_0 {cI cC : ClassId} {ad : Nat → Nat} {h : Hp} {a n : Nat} : ce cI cC ad h a (0, n) = .inl (cI, n, .inl (fun j => Int32.ofInt (h.2.2 a j))) := rfl
theorem ce_1 {cI cC : ClassId} {ad : Nat → Nat} {h : Hp} {a n : Nat} : ce cI cC ad h a (1, n) = .inl (cC, n, .inl (fun j => Int32.ofInt (h.2.2 a j))) := rfl
theorem ce_o {cI cC : ClassId} {ad : Nat → Nat} {h : Hp} {a n ci : Nat} : ce cI cC ad h a (ci + 2, n) = .inr (ci, (List.range n).map (fv ad h a ci)) := by
  unfold ce
  rw [if_neg (by show ¬ ci + 2 = 0; omega), if_neg (by show ¬ ci + 2 = 1; omega)]
  rfl
theorem wo_get {cI cC : ClassId} {ad : Nat → Nat} {h : Hp} {o : Nat} {q : Nat × Nat} (hq : h.1[o]? = some q) : (wo cI cC ad h)[o]? = some (ad o, ce cI cC ad h o q) := by
  simp [wo, List.getElem?_mapIdx, hq]
theorem wo_set {cI cC : ClassId} {ad : Nat → Nat} {h h2 : Hp} {o : Nat} {q : Nat × Nat} (hs : h2.1 = h.1) (hq : h.1[o]? = some q) (hc : ∀ a q, a ≠ o → ce cI cC ad h2 a q = ce cI cC ad h a q) : (wo cI cC ad h).set o (ad o, ce cI cC ad h2 o q) = wo cI cC ad h2 := by
  apply List.ext_getElem?
  intro i
  by_cases hi : i = o
  · subst hi
    rw [List.getElem?_set_self (by simp [wo]; exact (List.getElem?_eq_some_iff.mp hq).1)]
    rw [wo_get (h := h2) (by rw [hs]; exact hq)]
  · rw [List.getElem?_set_ne (Ne.symm hi)]
    simp only [wo, List.getElem?_mapIdx, hs]
    cases h.1[i]? with
    | none => rfl
    | some x => simp [hc i x hi]
theorem wo_push {cI cC : ClassId} {ad ad2 : Nat → Nat} {h h2 : Hp} {q : Nat} {x : Nat × Nat} (hs : h2.1 = h.1 ++ [x]) (hc : ∀ a y, h.1[a]? = some y → ce cI cC ad2 h2 a y = ce cI cC ad h a y) (ha : ∀ a, a < h.1.length → ad2 a = ad a) (hn : ad2 h.1.length = q) : wo cI cC ad h ++ [(q, ce cI cC ad2 h2 h.1.length x)] = wo cI cC ad2 h2 := by
  have hl : (wo cI cC ad h).length = h.1.length := by simp [wo]
  apply List.ext_getElem?
  intro i
  rcases Nat.lt_trichotomy i h.1.length with hi | hi | hi
  · rw [List.getElem?_append_left (by rw [hl]; exact hi)]
    simp only [wo, List.getElem?_mapIdx, hs, List.getElem?_append_left hi]
    have hz := List.getElem?_eq_getElem hi
    rw [hz]
    simp [hc i _ hz, ha i hi]
  · subst hi
    rw [List.getElem?_append_right (by rw [hl]; exact Nat.le_refl _), hl, Nat.sub_self]
    simp [wo, List.getElem?_mapIdx, hs, hn]
  · rw [List.getElem?_eq_none (by simp [hl]; omega), List.getElem?_eq_none (by simp [wo, hs]; omega)]
theorem im_cat (ad : Nat → Nat) (v : VV) : (im ad v).category = 1 := by
  match v with
  | .inl z => rfl
  | .inr none => rfl
  | .inr (some k) => rfl
theorem im_sum (ad : Nat → Nat) : ∀ (l : List VV), ((l.map (im ad)).map fun v => v.category).sum = l.length
  | [] => rfl
  | v :: l => by
    simp only [List.map_cons, List.sum_cons, List.length_cons, im_cat, im_sum ad l]
    omega
theorem al_cons {P : VV → Prop} {x : VV} {l : List VV} (h1 : P x) (h2 : ∀ v ∈ l, P v) : ∀ v ∈ x :: l, P v := List.forall_mem_cons.mpr ⟨h1, h2⟩
theorem al_set {P : VV → Prop} {x : VV} {l : List VV} {i : Nat} (h1 : P x) (h2 : ∀ v ∈ l, P v) : ∀ v ∈ l.set i x, P v := by
  intro v hv
  rcases List.mem_or_eq_of_mem_set hv with h | h
  · exact h2 v h
  · rw [h]; exact h1
/-- the locals -/
def Lc (ad : Nat → Nat) (ls : List VV) (rs : Array Slot) (nL : Nat) : Prop := rs.size = nL ∧ ls.length = nL ∧ lv_wf rs ∧ ∀ (i : Nat) (v : VV), ls[i]? = some v → v ≠ .inr none → rs[i]? = some (.val (im ad v))
def prs (ad : Nat → Nat) (ls : List VV) : List (Nat × Value) := (ls.mapIdx (fun i v => (i, v))).filterMap (fun q => if q.2 = .inr none then none else some (q.1, im ad q.2))
theorem prs_mem {ad : Nat → Nat} {ls : List VV} {q : Nat × Value} : q ∈ prs ad ls ↔ ∃ v, ls[q.1]? = some v ∧ v ≠ .inr none ∧ q.2 = im ad v := by
  unfold prs
  rw [List.mem_filterMap]
  constructor
  · rintro ⟨⟨i, v⟩, h1, h2⟩
    obtain ⟨k, hk⟩ := List.getElem?_of_mem h1
    rw [List.getElem?_mapIdx] at hk
    cases hl : ls[k]? with
    | none => rw [hl] at hk; cases hk
    | some w =>
      rw [hl] at hk
      have hk := Option.some.inj hk
      cases hk
      by_cases hn : v = .inr none
      · simp [hn] at h2
      · simp [hn] at h2
        subst h2
        exact ⟨v, hl, hn, rfl⟩
  · rintro ⟨v, h1, h2, h3⟩
    refine ⟨(q.1, v), ?_, ?_⟩
    · exact List.mem_of_getElem? (i := q.1) (by rw [List.getElem?_mapIdx, h1]; rfl)
    · simp [h2]
      rw [← h3]
theorem Lc.has {ad : Nat → Nat} {ls : List VV} {rs : Array Slot} {nL : Nat} (h : Lc ad ls rs nL) : lv_has rs nL (prs ad ls) := by
  refine ⟨h.1, h.2.2.1, fun q hq => ?_⟩
  obtain ⟨v, h1, h2, h3⟩ := prs_mem.mp hq
  rw [h3]
  exact h.2.2.2 _ _ h1 h2
theorem Lc.put {ad : Nat → Nat} {ls : List VV} {rs : Array Slot} {nL i : Nat} {x : VV} {X : Value} (hn : ls.length = nL) (hX : im ad x = X) (h : lv_has rs nL ((i, X) :: (prs ad ls).filter (fun q => !(q.1 == i) && !(q.1 + 1 == i && q.2.category == 2)))) : Lc ad (ls.set i x) rs nL := by
  refine ⟨h.1, by rw [List.length_set]; exact hn, h.2.1, fun j v hj hv => ?_⟩
  by_cases e : j = i
  · subst e
    have hl : j < ls.length := by
      have := (List.getElem?_eq_some_iff.mp hj).1
      rw [List.length_set] at this
      exact this
    rw [List.getElem?_set_self hl] at hj
    cases hj
    rw [hX]
    exact h.2.2 (j, X) List.mem_cons_self
  · rw [List.getElem?_set_ne (Ne.symm e)] at hj
    refine h.2.2 (j, im ad v) (List.mem_cons_of_mem _ (List.mem_filter.mpr ⟨prs_mem.mpr ⟨v, hj, hv, rfl⟩, ?_⟩))
    simp [e, im_cat]
