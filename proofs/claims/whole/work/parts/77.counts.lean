/-! ===== REFERENCE: what its counts are, in the class's words ===== -/
theorem cnt_1 {P : Int → Bool} (n : Nat) : cnt P (n + 1) = (if P 0 then 1 else 0) + cnt (fun x => P (1 + x)) n := by
  unfold cnt
  rw [Nat.add_comm n 1, sumN_app]
  simp [sumN]
theorem sumN_ge {g : Int → Int} {f : Nat} (h : ∀ i : Nat, 0 ≤ g i) : ∀ n : Nat, f < n → g f ≤ sumN g n
  | 0, q => absurd q (by omega)
  | n + 1, q => by
    have h1 := h n
    have h2 := (sumN_le (f := fun i => -(g i)) (C := 0))
    have h3 : 0 ≤ sumN g n := by
      have : ∀ m : Nat, 0 ≤ sumN g m := by
        intro m
        induction m with
        | zero => exact Int.le_refl _
        | succ m ih => rw [sumN]; have := h m; omega
      exact this n
    rw [sumN]
    by_cases c : f = n
    · subst c; omega
    · have := sumN_ge h n (f := f) (by omega); omega
abbrev cV (H E : Int) (A : AS) : Int → Int := cS H E A (aNf A) (aSh A)
abbrev qV (H E : Int) (A : AS) : Int → Int → Int := qS H E A (aSh A)
section SP77
variable {K H E HO S L B : Int} {A : AS}
theorem pL_r (hK : KP K H E HO S L) {n b ss : Int} (hn : 0 ≤ n ∧ n < E) (hb : 0 ≤ b ∧ b < HO) {t : Nat} (ht : t + 1 < pV H E A n b ss) : 0 ≤ pL H E A n b ss t ∧ pL H E A n b ss t < L := by
  have hr := hK.r
  have hpn := pN_range (A := A) (s := ss) hK (n := n) (b := b) ⟨hn.1, by omega⟩ hb t (fun j hj => pV_go (by omega))
  have hp0 := pV_go ht
  rcases nl_range (A := A) (s := ss) hK hpn hb with q | q
  · have h9 : pL H E A n b ss t = nl H E A (pN H E A n b ss t) b ss := rfl
    omega
  · exact q
theorem cV_y {f : Int} (hf : 0 ≤ f ∧ f < aNf A) (h : pA H E A (aFr A f / H) (aTo A f) (aSh A f) = true) : cV H E A f = pV H E A (aFr A f / H) (aTo A f) (aSh A f) + 1 := by
  show cS H E A (aNf A) (aSh A) f = _
  unfold cS stC
  rw [if_pos hf, if_pos h]
theorem cV_n {f : Int} (h : ¬ (0 ≤ f ∧ f < aNf A) ∨ ¬ pA H E A (aFr A f / H) (aTo A f) (aSh A f) = true) : cV H E A f = 0 := by
  show cS H E A (aNf A) (aSh A) f = _
  unfold cS stC
  rcases h with h | h
  · rw [if_neg h]
  · rw [if_neg h]
    split <;> rfl
theorem kG_n {f u : Int} (h : ¬ (0 ≤ f ∧ f < aNf A) ∨ ¬ pA H E A (aFr A f / H) (aTo A f) (aSh A f) = true) : kG (cV H E A) (qV H E A) u f = 0 := by
  unfold kG
  rw [cV_n h]
  rfl
theorem kG_y {f u : Int} (hf : 0 ≤ f ∧ f < aNf A) (h : pA H E A (aFr A f / H) (aTo A f) (aSh A f) = true) {n : Nat} (hn : pV H E A (aFr A f / H) (aTo A f) (aSh A f) = n + 1) : kG (cV H E A) (qV H E A) u f = (if 216 + aFr A f = u then 1 else 0) + cnt (fun x => decide (stL H E A (aFr A f / H) (aTo A f) (aSh A f) x.toNat = u)) n + (if 270 + aTo A f = u then 1 else 0) := by
  unfold kG
  rw [cV_y hf h, hn, show (((n + 1 : Nat) : Int) + 1).toNat = n + 1 + 1 by omega, cnt_s, cnt_1]
  have e0 : qV H E A f 0 = 216 + aFr A f := by show stQ H E A f (aSh A f) 0 = _; unfold stQ; rw [if_pos rfl]
  have e1 : qV H E A f ((n + 1 : Nat) : Int) = 270 + aTo A f := by show stQ H E A f (aSh A f) _ = _; unfold stQ; rw [if_neg (by omega), if_neg (by omega)]
  have e2 : cnt (fun x => decide (qV H E A f (1 + x) = u)) n = cnt (fun x => decide (stL H E A (aFr A f / H) (aTo A f) (aSh A f) x.toNat = u)) n := by
    apply cnt_ext
    intro i hi
    have e3 : qV H E A f (1 + (i : Int)) = stL H E A (aFr A f / H) (aTo A f) (aSh A f) i := by
      show stQ H E A f (aSh A f) _ = _
      unfold stQ
      rw [if_neg (by omega), if_pos (by omega), show ((1 : Int) + (i : Int) - 1).toNat = i by omega]
    simp only [e3, Int.toNat_natCast]
  rw [e2]
  simp only [e0, e1, decide_eq_true_iff]
theorem bU {p l nn H : Int} (hp : 0 ≤ p ∧ p < 108) (hl : 0 ≤ l ∧ l < 108) : decide ((if p / H = nn then p else 108 + p) = l) = (decide (p = l) && decide (l / H = nn)) := by
  apply Bool.eq_iff_iff.mpr
  rw [Bool.and_eq_true, decide_eq_true_iff, decide_eq_true_iff, decide_eq_true_iff]
  by_cases c : p / H = nn
  · rw [if_pos c]
    exact ⟨fun e => by subst e; exact ⟨rfl, c⟩, fun e => e.1⟩
  · rw [if_neg c]
    exact ⟨fun e => absurd e (by omega), fun e => by obtain ⟨e1, e2⟩ := e; subst e1; exact absurd e2 c⟩
theorem bD {p l nn H : Int} (hp : 0 ≤ p ∧ p < 108) (hl : 0 ≤ l ∧ l < 108) : decide ((if p / H = nn then p else 108 + p) = 108 + l) = (decide (p = l) && !decide (l / H = nn)) := by
  apply Bool.eq_iff_iff.mpr
  rw [Bool.and_eq_true, Bool.not_eq_true', decide_eq_true_iff, decide_eq_true_iff, decide_eq_false_iff_not]
  by_cases c : p / H = nn
  · rw [if_pos c]
    exact ⟨fun e => absurd e (by omega), fun e => by obtain ⟨e1, e2⟩ := e; subst e1; exact absurd c e2⟩
  · rw [if_neg c]
    exact ⟨fun e => by have e1 : p = l := by omega
                       subst e1; exact ⟨rfl, c⟩, fun e => by rw [e.1]⟩
theorem cnt_no {P : Int → Bool} : ∀ {n : Nat}, (∀ i : Nat, i < n → P i = false) → cnt P n = 0
  | 0, _ => rfl
  | n + 1, h => by rw [cnt_f (h n (by omega)), cnt_no (fun i hi => h i (by omega))]
theorem kG_u (hK : KP K H E HO S L) (hab : AB H HO S L B A) {f u : Int} (hf : 0 ≤ f ∧ f < aNf A) (h : pA H E A (aFr A f / H) (aTo A f) (aSh A f) = true) : (∀ l, 0 ≤ l → l < 108 → kG (cV H E A) (qV H E A) l f = uC H E A (aFr A f / H) (aTo A f) (aSh A f) l ∧ kG (cV H E A) (qV H E A) (108 + l) f = dC H E A (aFr A f / H) (aTo A f) (aSh A f) l) ∧ (∀ a, 0 ≤ a → a < 54 → kG (cV H E A) (qV H E A) (216 + a) f = (if aFr A f = a then 1 else 0) ∧ kG (cV H E A) (qV H E A) (270 + a) f = (if aTo A f = a then 1 else 0)) := by
  have hr := hK.r
  have hf2 := hab.2.2.2 f hf.1 hf.2
  have hen := edge_r hK hf2.1
  have hv := pV_r (H := H) (E := E) (A := A) (n := aFr A f / H) (b := aTo A f) (s := aSh A f)
  have hpl := fun t ht => pL_r (A := A) (t := t) (ss := aSh A f) hK hen hf2.2.1 ht
  obtain ⟨n, hn⟩ : ∃ n, pV H E A (aFr A f / H) (aTo A f) (aSh A f) = n + 1 := ⟨_, (Nat.succ_pred_eq_of_pos hv.1).symm⟩
  have hy := fun u => kG_y (u := u) hf h hn
  refine ⟨fun l q1 q2 => ⟨?_, ?_⟩, fun a q1 q2 => ⟨?_, ?_⟩⟩
  · rw [hy, if_neg (by omega), if_neg (by omega), Int.zero_add, Int.add_zero]
    unfold uC
    rw [hn]
    apply cnt_ext
    intro i hi
    have := hpl i (by omega)
    unfold stL uP
    simp only [Int.toNat_natCast]
    exact bU ⟨this.1, by omega⟩ ⟨q1, q2⟩
  · rw [hy, if_neg (by omega), if_neg (by omega), Int.zero_add, Int.add_zero]
    unfold dC
    rw [hn]
    apply cnt_ext
    intro i hi
    have := hpl i (by omega)
    unfold stL dP
    simp only [Int.toNat_natCast]
    exact bD ⟨this.1, by omega⟩ ⟨q1, q2⟩
  · rw [hy, if_neg (show ¬ 270 + aTo A f = 216 + a by omega), cnt_no]
    · split <;> split <;> omega
    · intro i hi
      have := hpl i (by omega)
      unfold stL
      simp only [Int.toNat_natCast]
      apply decide_eq_false
      split <;> omega
  · rw [hy, if_neg (show ¬ 216 + aFr A f = 270 + a by omega), cnt_no]
    · split <;> split <;> omega
    · intro i hi
      have := hpl i (by omega)
      unfold stL
      simp only [Int.toNat_natCast]
      apply decide_eq_false
      split <;> omega
theorem usG_nf (h : 0 ≤ aNf A ∧ aNf A ≤ 16) {u : Int} : usG (cV H E A) (qV H E A) u = sumN (kG (cV H E A) (qV H E A) u) (aNf A).toNat := by
  unfold usG
  rw [show (16 : Nat) = (aNf A).toNat + (16 - (aNf A).toNat) by omega, sumN_app]
  have e : sumN (fun i => kG (cV H E A) (qV H E A) u (((aNf A).toNat : Int) + i)) (16 - (aNf A).toNat) = sumN (fun _ => 0) (16 - (aNf A).toNat) := sumN_ext _ (fun i _ => kG_n (Or.inl (by omega)))
  rw [e, sumN_z, Int.add_zero]
/-- the most of what a way shares -/
def moR (us : Int → Int) (st : Nat → Int) (o i : Int) : Nat → Int
  | 0 => max o i
  | k + 1 => max (moR us st o i k) (us (st k))
theorem moR_ge {us : Int → Int} {st : Nat → Int} {o i : Int} : ∀ k, o ≤ moR us st o i k
  | 0 => by rw [moR]; omega
  | k + 1 => by have := moR_ge (us := us) (st := st) (o := o) (i := i) k; rw [moR]; omega
theorem moR_le {us : Int → Int} {st : Nat → Int} {o i C : Int} (h : ∀ u, us u ≤ C) (ho : o ≤ C) (hi : i ≤ C) : ∀ k, moR us st o i k ≤ C
  | 0 => by rw [moR]; omega
  | k + 1 => by have := moR_le (st := st) h ho hi k; have := h (st k); rw [moR]; omega
theorem shV_y (hab : AB H HO S L B A) {f : Int} (hf : 0 ≤ f ∧ f < aNf A) (hK : KP K H E HO S L) (h : pA H E A (aFr A f / H) (aTo A f) (aSh A f) = true) {n : Nat} (hn : pV H E A (aFr A f / H) (aTo A f) (aSh A f) = n + 1) : 0 < moR (usG (cV H E A) (qV H E A)) (stL H E A (aFr A f / H) (aTo A f) (aSh A f)) (usG (cV H E A) (qV H E A) (216 + aFr A f)) (usG (cV H E A) (qV H E A) (270 + aTo A f)) n ∧ shV H E A (aNf A) (aSh A) f = 720720 / moR (usG (cV H E A) (qV H E A)) (stL H E A (aFr A f / H) (aTo A f) (aSh A f)) (usG (cV H E A) (qV H E A) (216 + aFr A f)) (usG (cV H E A) (qV H E A) (270 + aTo A f)) n := by
  have hr := hK.r
  have hf2 := hab.2.2.2 f hf.1 hf.2
  have hus : ∀ u, 0 ≤ usG (cV H E A) (qV H E A) u ∧ usG (cV H E A) (qV H E A) u ≤ 96 := fun u => usG_le (fun _ _ _ => cS_r)
  have h1 : (1 : Int) ≤ usG (cV H E A) (qV H E A) (216 + aFr A f) := by
    have e1 := ((kG_u (u := 0) hK hab hf h).2 (aFr A f) hf2.1.1 (by omega)).1
    rw [if_pos rfl] at e1
    have hnf := hab.2.2.1
    have e2 := sumN_ge (g := kG (cV H E A) (qV H E A) (216 + aFr A f)) (f := f.toNat) (fun i => (kG_le cS_r).1) 16 (by omega)
    rw [show ((f.toNat : Nat) : Int) = f by omega, e1] at e2
    exact e2
  have hm : moG (cV H E A) (qV H E A) f (n + 1 + 1) = moR (usG (cV H E A) (qV H E A)) (stL H E A (aFr A f / H) (aTo A f) (aSh A f)) (usG (cV H E A) (qV H E A) (216 + aFr A f)) (usG (cV H E A) (qV H E A) (270 + aTo A f)) n := by
    have e0 : qV H E A f ((0 : Nat) : Int) = 216 + aFr A f := by show stQ H E A f (aSh A f) _ = _; unfold stQ; rw [if_pos (by omega)]
    have e1 : qV H E A f ((n + 1 : Nat) : Int) = 270 + aTo A f := by show stQ H E A f (aSh A f) _ = _; unfold stQ; rw [if_neg (by omega), if_neg (by omega)]
    have e3 : ∀ i : Nat, i < n → qV H E A f ((i + 1 : Nat) : Int) = stL H E A (aFr A f / H) (aTo A f) (aSh A f) i := by
      intro i hi
      show stQ H E A f (aSh A f) _ = _
      unfold stQ
      rw [if_neg (by omega), if_pos (by omega), show (((i + 1 : Nat) : Int) - 1).toNat = i by omega]
    have key : ∀ k : Nat, k ≤ n → max (moG (cV H E A) (qV H E A) f (k + 1)) (usG (cV H E A) (qV H E A) (270 + aTo A f)) = moR (usG (cV H E A) (qV H E A)) (stL H E A (aFr A f / H) (aTo A f) (aSh A f)) (usG (cV H E A) (qV H E A) (216 + aFr A f)) (usG (cV H E A) (qV H E A) (270 + aTo A f)) k := by
      intro k
      induction k with
      | zero =>
        intro _
        rw [moG, moG, moR, e0]
        omega
      | succ k ih =>
        intro hk
        rw [moG, moR, ← ih (by omega), e3 k (by omega)]
        omega
    rw [moG, e1]
    exact key n (Nat.le_refl _)
  have hp := moR_ge (us := usG (cV H E A) (qV H E A)) (st := stL H E A (aFr A f / H) (aTo A f) (aSh A f)) (o := usG (cV H E A) (qV H E A) (216 + aFr A f)) (i := usG (cV H E A) (qV H E A) (270 + aTo A f)) n
  refine ⟨by omega, ?_⟩
  unfold shV shG
  rw [show (cS H E A (aNf A) (aSh A) f).toNat = n + 1 + 1 by have := cV_y hf h; unfold cV at this; omega]
  rw [show moG (cS H E A (aNf A) (aSh A)) (qS H E A (aSh A)) f (n + 1 + 1) = _ from hm, if_pos (by omega)]
theorem shV_n {f : Int} (h : ¬ pA H E A (aFr A f / H) (aTo A f) (aSh A f) = true) : shV H E A (aNf A) (aSh A) f = 0 := by
  unfold shV shG
  rw [show cS H E A (aNf A) (aSh A) f = 0 from cV_n (Or.inr h)]
  rfl
end SP77
