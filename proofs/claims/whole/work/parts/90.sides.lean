/-! ===== LAW: both worlds side by side ===== -/
section L90
variable {X : Nat × (Int → Int)} {d : Nat} {sh : List (Nat × Nat)} {R : Nat → Nat → Option Nat} {I : Nat → Int → Int} {K H E HO S L B : Int} {ρ γ : Nat → Nat} {M : Nat} {A A1 A2 : AS} {u : Int} {tx : Int → Int} {len : Int}
theorem CG.cells (hG : CG sh R I K H E HO S L B ρ γ M A A1 A2 u tx len) {sh' : List (Nat × Nat)} {R' : Nat → Nat → Option Nat} {I' : Nat → Int → Int} (hL' : LC sh' R') (hsh : ∀ (a : Nat) (x : Nat × Nat), sh[a]? = some x → sh'[a]? = some x) (hR : ∀ a k, a < 53 → R' a k = R a k) (hf : ∀ a, (a < 57 ∨ 77 < a) → a < sh.length → I' a = I a) (hz : 53 ≤ sh.length) : CG sh' R' I' K H E HO S L B ρ γ M A A1 A2 u tx len := by
  obtain ⟨hL, hK, hsp, hro, hri, hga, hgi, hM, hLS, hB, ⟨hcs, hab⟩, hc1, hc2, ⟨hu, hu0⟩, htx⟩ := hG
  have hgl : ∀ s, isS s → γ s < sh.length := fun s hs => (List.getElem?_eq_some_iff.mp (hga s hs).2.1).1
  have hk : ∀ k, 7 ≤ k → k ≤ 10 → ∀ a, (ρ k ≤ a ∧ a ≤ ρ k + 5) ∨ a = γ (ρ k) → I' a = I a := fun k q1 q2 a q => by
    have h1 := (hro k q1 q2).1.r
    have h2 := (hga _ (hro k q1 q2).1).2.2.1
    have h3 := hgl _ (hro k q1 q2).1
    exact hf a (by omega) (by omega)
  refine ⟨hL', hK, hsp.keep (fun a q1 q2 => hf a (by omega) (by omega)), fun k q1 q2 => ⟨(hro k q1 q2).1, by rw [hR 0 k (by omega)]; exact (hro k q1 q2).2⟩, hri, fun s hs => ?_, hgi, hM, hLS, hB, ⟨hcs.keep (hk 7 (by decide) (by decide)), hab⟩, fun q => ⟨(hc1 q).1.keep (hk 8 (by decide) (by decide)), (hc1 q).2⟩, fun q => ⟨(hc2 q).1.keep (hk 9 (by decide) (by decide)), (hc2 q).2⟩, ⟨hu, by rw [hf 0 (by omega) (by omega)]; exact hu0⟩, ?_⟩
  · have h1 := hs.r
    have h := hga s hs
    rw [hR s 6 (by omega), hf s (by omega) (by omega)]
    exact ⟨h.1, hsh _ _ h.2.1, h.2.2⟩
  · unfold TX at htx ⊢
    rw [hf 1 (by omega) (by omega), hf 2 (by omega) (by omega)]; exact htx
theorem LC.z (hL : LC sh R) : 53 ≤ sh.length := (List.getElem?_eq_some_iff.mp (hL.1 52 (0, 0) rfl)).1
/-- the reference's cells are not the class's -/
theorem CG.km (hG : CG sh R I K H E HO S L B ρ γ M A A1 A2 u tx len) {I' : Nat → Int → Int} (hf : ∀ a, a < 57 ∨ 77 < a → I' a = I a) : CG sh R I' K H E HO S L B ρ γ M A A1 A2 u tx len := hG.cells hG.1 (fun _ _ h => h) (fun _ _ _ => rfl) (fun a q _ => hf a q) hG.1.z
theorem rC_53 {a k v : Nat} (h : rC a k = some v) : a < 53 := by
  have hd : ∀ e ∈ rcL, e.1 < 53 := by decide
  exact hd _ (rC_in h)
theorem LC.ext (hL : LC sh R) {sh' : List (Nat × Nat)} {R' : Nat → Nat → Option Nat} (hsh : ∀ (a : Nat) (x : Nat × Nat), sh[a]? = some x → sh'[a]? = some x) (hR : ∀ a k, a < 53 → R' a k = R a k) : LC sh' R' := ⟨fun a q h => hsh a q (hL.1 a q h), fun a k v h => by rw [hR a k (rC_53 h)]; exact hL.2 a k v h⟩
theorem LM.rf {R' : Nat → Nat → Option Nat} (h : LM sh R) (e : RF R R') : LM sh R' := ⟨h.1, fun a k v q => by
  rw [e a k (Or.inl (fun z => by subst z; rw [if_neg (by decide)] at q; exact absurd q (by simp)))]; exact h.2 a k v q⟩
theorem LM.ext {sh' : List (Nat × Nat)} {R' : Nat → Nat → Option Nat} (h : LM sh R) (hsh : ∀ (a : Nat) (x : Nat × Nat), sh[a]? = some x → sh'[a]? = some x) (hR : ∀ k, R' 57 k = R 57 k) : LM sh' R' := ⟨fun a q e => hsh a q (h.1 a q e), fun a k v q => by
  by_cases c : a = 57
  · subst c; rw [hR]; exact h.2 _ k v q
  · rw [if_neg c] at q; exact absurd q (by simp)⟩
/-- the class's cells are not the reference's -/
theorem MG.kc {sh' : List (Nat × Nat)} {R' : Nat → Nat → Option Nat} {I' : Nat → Int → Int} {z : ZZ} (h : MG sh R I K H E HO S L B z tx len) (hM : LM sh' R') (e : ∀ a, 57 ≤ a → a ≤ 77 → I' a = I a) : MG sh' R' I' K H E HO S L B z tx len := by
  obtain ⟨⟨_, hK, hpo, hha, hms, hab, hB⟩, h9, hw, ht⟩ := h
  have e57 : I' 57 = I 57 := e 57 (by omega) (by omega)
  refine ⟨⟨hM, hK, by rw [e57]; exact hpo, by rw [e57]; exact hha, ⟨by rw [e57]; exact hms.1, fun l q1 q2 => by rw [e 59 (by omega) (by omega)]; exact hms.2.1 l q1 q2, fun n l q1 q2 q3 q4 => by rw [e 60 (by omega) (by omega)]; exact hms.2.2.1 n l q1 q2 q3 q4, fun f q1 q2 => by rw [e 62 (by omega) (by omega)]; exact hms.2.2.2 f q1 q2⟩, hab, hB⟩, by rw [e57]; exact h9, hw.keep (fun a q1 q2 => e a (by omega) (by omega)), ht.keep (by rw [e57]) (e 58 (by omega) (by omega))⟩
theorem MG.sc {I' : Nat → Int → Int} {z : ZZ} (h : MG sh R I K H E HO S L B z tx len) (e : SC I I') : MG sh R I' K H E HO S L B z tx len := ⟨e.mf h.1, by rw [e.2 9 (by decide) (by decide)]; exact h.2.1, h.2.2.1.keep (fun a q1 q2 => e.1 a (by omega) (by omega) (by omega)), h.2.2.2.keep (e.2 0 (by decide) (by decide)) (e.1 58 (by decide) (by decide) (by decide))⟩
theorem MG.sx {I' : Nat → Int → Int} {z : ZZ} (h : MG sh R I K H E HO S L B z tx len) (e : SX I I') : MG sh R I' K H E HO S L B z tx len := ⟨h.1.keep (fun a q => e.1 a (by omega) (by omega) (by omega)) (fun j q => e.2 j (by omega) (by omega) (by omega)), by rw [e.2 9 (by decide) (by decide) (by decide)]; exact h.2.1, h.2.2.1.keep (fun a q1 q2 => e.1 a (by omega) (by omega) (by omega)), e.mt h.2.2.2⟩
theorem MM.fn {w : Int → Int → Int} {Pr : Int → Int → Prop} {f m f' m' : Int} (h : MM w Pr f m) (h' : MM w Pr f' m') : f = f' ∧ m = m' := by
  rcases h with ⟨rfl, rfl, h1⟩ | ⟨⟨a, b, p1, e1⟩, h2, ⟨c, d, p3, e3⟩, h4⟩ <;> rcases h' with ⟨rfl, rfl, k1⟩ | ⟨⟨a', b', q1, e1'⟩, k2, ⟨c', d', q3, e3'⟩, k4⟩
  · exact ⟨rfl, rfl⟩
  · exact absurd q1 (h1 _ _)
  · exact absurd p1 (k1 _ _)
  · have := h2 _ _ q1; have := k2 _ _ p1; have := h4 _ _ q3; have := k4 _ _ p3
    omega
theorem pairR_fn {w v v' : Int} (h : pairR H E HO A w v) (h' : pairR H E HO A w v') : v = v' := by
  rcases h with ⟨e, h⟩ | ⟨e, h⟩ | ⟨e, m, h⟩ | ⟨e, m, h⟩ | ⟨e, h⟩ <;> rcases h' with ⟨e', h'⟩ | ⟨e', h'⟩ | ⟨e', m', h'⟩ | ⟨e', m', h'⟩ | ⟨e', h'⟩ <;> first | (exact absurd e' (by omega)) | (exact h.trans h'.symm) | (exact (h.fn h').1) | (exact (h.fn h').2)
end L90
/-- how law goes on: its loop, with n rounds left -/
def LWI (sh : List (Nat × Nat)) (R : Nat → Nat → Option Nat) (I : Nat → Int → Int) (K H E HO S L B : Int) (ρ γ : Nat → Nat) (M : Nat) (z : ZZ) (tx : Int → Int) (len : Int) (n bc bs : Nat) : Prop := CW sh R I K H E HO S L B ρ γ M z tx len ∧ MG sh R I K H E HO S L B z tx len ∧ (B + (n : Int) ≤ 100000 ∧ n ≤ 1000) ∧ ((M = 640 ∧ sh.length = 78 ∧ 4 ≤ bc ∧ 19440 ≤ bs) ∨ (M = 4860 ∧ sh.length = 82))
def LAWG (X : Nat × (Int → Int)) (d n : Nat) : Prop := ∀ (i : Int) (sh : List (Nat × Nat)) (R : Nat → Nat → Option Nat) (I : Nat → Int → Int) (K H E HO S L B : Int) (ρ γ : Nat → Nat) (M : Nat) (z : ZZ) (tx : Int → Int) (len : Int) (bc bs : Nat), LWI sh R I K H E HO S L B ρ γ M z tx len n bc bs → 0 ≤ i → (X.1 : Int) - i < 5 * ((n : Int) + 1) → WP X (d + 10) 188 18 [.inr (some SCR), .inr (some 0), .inr (some 57), .inl i] [] (sh, R, I) bc bs (fun r _ => r = .inl 1)
