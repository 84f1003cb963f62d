/-! ===== REFERENCE: pairs ===== -/
theorem sumN_app {f : Int → Int} (a : Nat) : ∀ b : Nat, sumN f (a + b) = sumN f a + sumN (fun i => f ((a : Int) + i)) b
  | 0 => by simp [sumN]
  | b + 1 => by
    rw [← Nat.add_assoc, sumN, sumN_app a b, sumN, Int.natCast_add]
    omega
theorem sumN_blk {f : Int → Int} (h : Nat) : ∀ e : Nat, sumN f (e * h) = sumN (fun x => sumN (fun i => f (x * (h : Int) + i)) h) e
  | 0 => by simp [sumN]
  | e + 1 => by
    rw [Nat.succ_mul, sumN_app, sumN_blk h e, sumN, Int.natCast_mul]
theorem hostsum {G : Int → Int → Int} {e h : Nat} (hh : h = 1 ∨ h = 2 ∨ h = 3) (N : Nat) : sumN (fun a => sumN (fun b => if a = b then 0 else G (a / (h : Int)) b) N) (e * h) = sumN (fun x => sumN (fun b => (if b / (h : Int) = x then (h : Int) - 1 else h) * G x b) N) e := by
  rw [sumN_blk]
  apply sumN_ext
  intro x _
  rw [sumN_swap]
  apply sumN_ext
  intro b _
  rcases hh with rfl | rfl | rfl
  · have e0 : ((x : Int) * ((1 : Nat) : Int) + ((0 : Nat) : Int)) / ((1 : Nat) : Int) = x := by omega
    simp only [sumN, e0]
    generalize G x b = g
    split <;> split <;> omega
  · have e0 : ((x : Int) * ((2 : Nat) : Int) + ((0 : Nat) : Int)) / ((2 : Nat) : Int) = x := by omega
    have e1 : ((x : Int) * ((2 : Nat) : Int) + ((1 : Nat) : Int)) / ((2 : Nat) : Int) = x := by omega
    simp only [sumN, e0, Nat.zero_add, e1]
    generalize G x b = g
    split <;> split <;> split <;> omega
  · have e0 : ((x : Int) * ((3 : Nat) : Int) + ((0 : Nat) : Int)) / ((3 : Nat) : Int) = x := by omega
    have e1 : ((x : Int) * ((3 : Nat) : Int) + ((1 : Nat) : Int)) / ((3 : Nat) : Int) = x := by omega
    have e2 : ((x : Int) * ((3 : Nat) : Int) + ((2 : Nat) : Int)) / ((3 : Nat) : Int) = x := by omega
    simp only [sumN, e0, Nat.zero_add, e1, Nat.reduceAdd, e2]
    generalize G x b = g
    split <;> split <;> split <;> split <;> omega
theorem KP.nat {K H E HO S L : Int} (hK : KP K H E HO S L) : ∃ e h : Nat, (h = 1 ∨ h = 2 ∨ h = 3) ∧ E = (e : Int) ∧ H = (h : Int) ∧ HO.toNat = e * h ∧ E.toNat = e := by
  rcases hK with ⟨rfl, rfl, rfl, rfl, rfl, rfl⟩ | ⟨rfl, rfl, rfl, rfl, rfl, rfl⟩ | ⟨rfl, rfl, rfl, rfl, rfl, rfl⟩
  · exact ⟨2, 1, by omega, rfl, rfl, rfl, rfl⟩
  · exact ⟨8, 2, by omega, rfl, rfl, rfl, rfl⟩
  · exact ⟨18, 3, by omega, rfl, rfl, rfl, rfl⟩
/-- the sum over pairs of hosts, so far -/
def hsS (f : Int → Int → Int) (N a b : Nat) : Int := sumN (fun x => sumN (f x) N) a + sumN (f a) b
theorem hsS_s {f : Int → Int → Int} {N a b : Nat} : hsS f N a (b + 1) = hsS f N a b + f a b := by unfold hsS; rw [sumN]; omega
theorem hsS_r {f : Int → Int → Int} {N a : Nat} : hsS f N (a + 1) 0 = hsS f N a N := by unfold hsS; rw [sumN, sumN]; omega
theorem hsS_le {f : Int → Int → Int} {C : Int} (hf : ∀ x y : Nat, 0 ≤ f x y ∧ f x y ≤ C) {N a b : Nat} (h1 : a ≤ 54) (h2 : b ≤ 54) (h3 : N ≤ 54) (hC : 0 ≤ C) : 0 ≤ hsS f N a b ∧ hsS f N a b ≤ 2970 * C := by
  have h4 : ∀ x : Nat, ∀ M : Nat, M ≤ 54 → 0 ≤ sumN (f x) M ∧ sumN (f x) M ≤ 54 * C := by
    intro x M hM
    have := sumN_le (f := f x) (C := C) M (fun i _ => hf x i)
    have h5 : (M : Int) * C ≤ 54 * C := Int.mul_le_mul_of_nonneg_right (by omega) hC
    omega
  have h6 := sumN_le (f := fun x => sumN (f x) N) (C := 54 * C) a (fun i _ => h4 i N h3)
  have h7 : (a : Int) * (54 * C) ≤ 54 * (54 * C) := Int.mul_le_mul_of_nonneg_right (by omega) (by omega)
  have h8 := h4 a b h2
  unfold hsS
  omega
/-- a pair with ways, a pair that comes through -/
def fW (H E : Int) (A : AS) (a b : Int) : Int := if a = b then 0 else if 0 < waysS H E (opC A (-4)) (a / H) (b / H) then 1 else 0
def fA (H E : Int) (A : AS) (a b : Int) : Int := if a = b then 0 else if pA H E A (a / H) b 0 then 1 else 0
theorem fW_le {H E : Int} {A : AS} (a b : Int) : 0 ≤ fW H E A a b ∧ fW H E A a b ≤ 1 := by unfold fW; split; omega; split <;> omega
theorem fA_le {H E : Int} {A : AS} (a b : Int) : 0 ≤ fA H E A a b ∧ fA H E A a b ≤ 1 := by unfold fA; split; omega; split <;> omega
theorem fA_sum {K H E HO S L : Int} {A : AS} (hK : KP K H E HO S L) : sumN (fun a => sumN (fA H E A a) HO.toNat) HO.toNat = svS (gA H E A) HO E := by
  obtain ⟨e, h, hh, rfl, rfl, e3, e4⟩ := hK.nat
  unfold svS
  rw [e4, e3]
  refine (hostsum (G := fun x b => if pA h e A x b 0 then 1 else 0) hh (e * h)).trans ?_
  apply sumN_ext
  intro x _
  apply sumN_ext
  intro b _
  unfold gA
  split <;> split <;> omega
theorem fW_sum {K H E HO S L : Int} {A : AS} (hK : KP K H E HO S L) : sumN (fun a => sumN (fW H E A a) HO.toNat) HO.toNat = joinS H E (opC A (-4)) := by
  obtain ⟨e, h, hh, rfl, rfl, e3, e4⟩ := hK.nat
  unfold joinS
  rw [e4, e3]
  refine (hostsum (G := fun x b => if 0 < waysS h e (opC A (-4)) x (b / h) then 1 else 0) hh (e * h)).trans ?_
  apply sumN_ext
  intro x _
  rw [sumN_blk]
  apply sumN_ext
  intro y _
  unfold jpS prS
  rcases hh with rfl | rfl | rfl
  · have e0 : ((y : Int) * ((1 : Nat) : Int) + ((0 : Nat) : Int)) / ((1 : Nat) : Int) = y := by omega
    simp only [sumN, e0]
    split <;> split <;> first | omega | (split <;> omega)
  · have e0 : ((y : Int) * ((2 : Nat) : Int) + ((0 : Nat) : Int)) / ((2 : Nat) : Int) = y := by omega
    have e1 : ((y : Int) * ((2 : Nat) : Int) + ((1 : Nat) : Int)) / ((2 : Nat) : Int) = y := by omega
    simp only [sumN, e0, Nat.zero_add, e1]
    split <;> split <;> first | omega | (split <;> omega)
  · have e0 : ((y : Int) * ((3 : Nat) : Int) + ((0 : Nat) : Int)) / ((3 : Nat) : Int) = y := by omega
    have e1 : ((y : Int) * ((3 : Nat) : Int) + ((1 : Nat) : Int)) / ((3 : Nat) : Int) = y := by omega
    have e2 : ((y : Int) * ((3 : Nat) : Int) + ((2 : Nat) : Int)) / ((3 : Nat) : Int) = y := by omega
    simp only [sumN, e0, Nat.zero_add, e1, Nat.reduceAdd, e2]
    split <;> split <;> first | omega | (split <;> omega)
/-- the pairs of hosts that have been asked -/
def hPr (N a b : Nat) (x y : Int) : Prop := (0 ≤ x ∧ 0 ≤ y ∧ y < N) ∧ x ≠ y ∧ (x < a ∨ (x = a ∧ y < b))
theorem hPr_e {N a b : Nat} (h : a = b) (x y : Int) : hPr N a (b + 1) x y ↔ hPr N a b x y := by unfold hPr; omega
theorem hPr_s {N a b : Nat} (h : a ≠ b) (hb : b < N) (x y : Int) : hPr N a (b + 1) x y ↔ hPr N a b x y ∨ (x = a ∧ y = b) := by unfold hPr; omega
theorem hPr_r {N a : Nat} (x y : Int) : hPr N (a + 1) 0 x y ↔ hPr N a N x y := by unfold hPr; omega
/-- least and most, as the reference has them -/
def LMo (w : Int → Int → Int) (Pr : Int → Int → Prop) (l m : Int) : Prop := ∃ f q, MM w Pr f q ∧ l = (if f < 0 then -1 else f) ∧ m = max q 0
theorem LMo.r {w : Int → Int → Int} {Pr : Int → Int → Prop} {l m : Int} (h : LMo w Pr l m) (hw : ∀ x y, 0 ≤ w x y ∧ w x y ≤ 9) : -1 ≤ l ∧ l ≤ 9 ∧ 0 ≤ m ∧ m ≤ 9 := by
  obtain ⟨f, q, h1, rfl, rfl⟩ := h
  rcases h1 with ⟨rfl, rfl, _⟩ | ⟨⟨a, b, _, h3⟩, _, ⟨c, d, _, h5⟩, _⟩
  · omega
  · have := hw a b; have := hw c d
    split <;> omega
theorem LMo.add {w : Int → Int → Int} {Pr Pr' : Int → Int → Prop} {l m a b l' m' : Int} (h : LMo w Pr l m) (hw : ∀ x y, 0 ≤ w x y ∧ w x y ≤ 9) (he : ∀ e o, Pr' e o ↔ Pr e o ∨ (e = a ∧ o = b)) (hl : l' = if l < 0 ∨ w a b < l then w a b else l) (hm : m' = if m < w a b then w a b else m) : LMo w Pr' l' m' := by
  obtain ⟨f, q, h1, rfl, rfl⟩ := h
  have h2 := MM.add (hw a b).1 h1 he (fun e o _ => (hw e o).1)
  refine ⟨_, _, h2, ?_, ?_⟩
  · have := hw a b
    have hf : f = -4 ∨ 0 ≤ f := by
      rcases h1 with ⟨rfl, _⟩ | ⟨⟨x, y, _, h3⟩, _⟩
      · exact Or.inl rfl
      · have := hw x y; omega
    rw [hl]
    rcases hf with rfl | hf
    · simp only [if_pos]; rw [if_pos (by omega), if_neg (by omega)]
    · rw [if_neg (show ¬ f = -4 by omega), if_neg (show ¬ f < 0 by omega), if_neg (show ¬ min f (w a b) < 0 by omega)]
      split <;> omega
  · have := hw a b
    rw [hm]; split <;> omega
theorem LMo.ext {w : Int → Int → Int} {Pr Pr' : Int → Int → Prop} {l m : Int} (h : LMo w Pr l m) (he : ∀ e o, Pr e o ↔ Pr' e o) : LMo w Pr' l m := by
  obtain ⟨f, q, h1, h2⟩ := h
  exact ⟨f, q, h1.ext he, h2⟩
/-- over all hosts: as over the edges -/
theorem LMo.fin {K H E HO S L : Int} (hK : KP K H E HO S L) {w : Int → Int → Int} {l m : Int} (hw : ∀ x y, 0 ≤ w x y ∧ w x y ≤ 9) (h : LMo (fun a b => w (a / H) (b / H)) (hPr HO.toNat HO.toNat 0) l m) : MM w (fun e o => (0 ≤ e ∧ e < E) ∧ (0 ≤ o ∧ o < E) ∧ 0 < prS H e o) l m := by
  obtain ⟨f, q, h1, rfl, rfl⟩ := h
  have hr := hK.r
  have A1 : ∀ x y, hPr HO.toNat HO.toNat 0 x y → (0 ≤ x / H ∧ x / H < E) ∧ (0 ≤ y / H ∧ y / H < E) ∧ 0 < prS H (x / H) (y / H) := by
    intro x y hp
    unfold hPr at hp
    unfold prS
    rcases hK with ⟨rfl, rfl, rfl, rfl, rfl, rfl⟩ | ⟨rfl, rfl, rfl, rfl, rfl, rfl⟩ | ⟨rfl, rfl, rfl, rfl, rfl, rfl⟩ <;> (refine ⟨by omega, by omega, ?_⟩; split <;> omega)
  have A2 : ∀ e o, ((0 ≤ e ∧ e < E) ∧ (0 ≤ o ∧ o < E) ∧ 0 < prS H e o) → ∃ x y, hPr HO.toNat HO.toNat 0 x y ∧ x / H = e ∧ y / H = o := by
    intro e o hp
    unfold prS at hp
    by_cases c : e = o
    · subst c
      rw [if_pos rfl] at hp
      refine ⟨e * H, e * H + 1, ?_⟩
      unfold hPr
      rcases hK with ⟨rfl, rfl, rfl, rfl, rfl, rfl⟩ | ⟨rfl, rfl, rfl, rfl, rfl, rfl⟩ | ⟨rfl, rfl, rfl, rfl, rfl, rfl⟩ <;> omega
    · refine ⟨e * H, o * H, ?_⟩
      unfold hPr
      rcases hK with ⟨rfl, rfl, rfl, rfl, rfl, rfl⟩ | ⟨rfl, rfl, rfl, rfl, rfl, rfl⟩ | ⟨rfl, rfl, rfl, rfl, rfl, rfl⟩ <;> omega
  rcases h1 with ⟨_, _, h2⟩ | ⟨⟨a, b, h2, h3⟩, h4, ⟨c, d, h5, h6⟩, h7⟩
  · refine absurd ?_ (h2 0 1)
    unfold hPr
    rcases hK with ⟨rfl, rfl, rfl, rfl, rfl, rfl⟩ | ⟨rfl, rfl, rfl, rfl, rfl, rfl⟩ | ⟨rfl, rfl, rfl, rfl, rfl, rfl⟩ <;> omega
  · have w1 := hw (a / H) (b / H)
    have w2 := hw (c / H) (d / H)
    simp only [] at h3 h6
    rw [if_neg (by omega), show max q 0 = q by omega]
    refine Or.inr ⟨⟨_, _, A1 a b h2, h3⟩, fun e o hp => ?_, ⟨_, _, A1 c d h5, h6⟩, fun e o hp => ?_⟩
    · obtain ⟨x, y, p1, rfl, rfl⟩ := A2 e o hp
      exact h4 x y p1
    · obtain ⟨x, y, p1, rfl, rfl⟩ := A2 e o hp
      exact h7 x y p1
/-- only what a letter leaves behind is another -/
def SC (I I1 : Nat → Int → Int) : Prop := (∀ a, a ≠ 57 → a ≠ 69 → a ≠ 70 → I1 a = I a) ∧ ∀ j, j ≠ 18 → j ≠ 21 → I1 57 j = I 57 j
theorem SC.rfl {I : Nat → Int → Int} : SC I I := ⟨fun _ _ _ _ => Eq.refl _, fun _ _ _ => Eq.refl _⟩
theorem SC.tr {I I1 I2 : Nat → Int → Int} (h : SC I I1) (h2 : SC I1 I2) : SC I I2 := ⟨fun a q1 q2 q3 => (h2.1 a q1 q2 q3).trans (h.1 a q1 q2 q3), fun j q1 q2 => (h2.2 j q1 q2).trans (h.2 j q1 q2)⟩
section M74
variable {X : Nat × (Int → Int)} {d : Nat} {sh : List (Nat × Nat)} {R : Nat → Nat → Option Nat} {I : Nat → Int → Int} {K H E HO S L B : Int} {A : AS}
theorem SC.mf {I1 : Nat → Int → Int} (hF : MF sh R I K H E HO S L B A) (h : SC I I1) : MF sh R I1 K H E HO S L B A := hF.keep (fun a q => h.1 a (by omega) (by omega) (by omega)) (fun j q => h.2 j (by omega) (by omega))
abbrev QMP (X : Nat × (Int → Int)) (d y : Nat) (as : List VV) (sh : List (Nat × Nat)) (R : Nat → Nat → Option Nat) (I : Nat → Int → Int) (P : Int → Prop) : Prop := WPM X d y as (sh, R, I) 0 0 (fun r h' => ∃ v, r = .inl v ∧ P v ∧ ∃ I', h' = (sh, R, I') ∧ SC I I')
/-- where pairs is: host a, host b -/
def PIv (I I1 : Nat → Int → Int) (H E HO : Int) (A : AS) (t : Int) (a b : Nat) (w c l m : Int) : Prop := w = hsS (fW H E A) HO.toNat a b ∧ c = (if t = 1 then hsS (fA H E A) HO.toNat a b else 0) ∧ LMo (fun x y => waysS H E (opC A (-4)) (x / H) (y / H)) (hPr HO.toNat a b) l m ∧ SC I I1
theorem m169f (hF : MF sh R I K H E HO S L B A) {t : Int} (ht : 0 ≤ t ∧ t ≤ 3) {I1 : Nat → Int → Int} {w c l m : Int} {v6 v7 v8 : VV} (h : PIv I I1 H E HO A t HO.toNat 0 w c l m) : WP X (d + 6) 169 153 [.inr (some 57), .inl t, .inl w, .inl c, .inl l, .inl m, v6, v7, v8] [] (sh, R, I1) 0 0 (fun r h' => ∃ v, r = .inl v ∧ pairR H E HO A t v ∧ ∃ I', h' = (sh, R, I') ∧ SC I I') := by
  have hF0 := hF
  obtain ⟨hM, hK, hpo, hha, hms, hab, hB⟩ := hF
  have hr := hK.r
  obtain ⟨h1, h2, h3, h4⟩ := h
  have hw : ∀ x y, 0 ≤ waysS H E (opC A (-4)) x y ∧ waysS H E (opC A (-4)) x y ≤ 9 := fun x y => waysS_le (by omega)
  have h5 := LMo.fin (w := waysS H E (opC A (-4))) hK hw h3
  have e1 : w = joinS H E (opC A (-4)) := by rw [h1, ← fW_sum hK]; unfold hsS; rw [show sumN (fW H E A HO.toNat) 0 = 0 from _root_.rfl, Int.add_zero]
  have e2 : t = 1 → c = svS (gA H E A) HO E := fun z => by rw [h2, if_pos z, ← fA_sum hK]; unfold hsS; rw [show sumN (fA H E A HO.toNat) 0 = 0 from _root_.rfl, Int.add_zero]
  refine w_iload (pc' := 154) k169_153 rfl rfl ?_
  refine w_if_ne (pc' := 157) k169_154 rfl (fun c_154 => ?_) (fun c_154 => ?_)
  · refine w_iload (pc' := 162) k169_161 rfl rfl ?_
    refine w_c1 (pc' := 163) k169_162 rfl ?_
    refine w_ic_ne (pc' := 166) k169_163 rfl (fun c_163 => ?_) (fun c_163 => ?_)
    · refine w_iload (pc' := 171) k169_170 rfl rfl ?_
      refine w_c1 (pc' := 172) k169_171 rfl ?_
      refine w_ic_ne (pc' := 175) k169_172 rfl (fun c_172 => ?_) (fun c_172 => ?_)
      · refine w_iload (pc' := 182) k169_180 rfl rfl ?_
        exact w_reti k169_182 ⟨_, _root_.rfl, Or.inr (Or.inr (Or.inr (Or.inl ⟨by omega, _, h5⟩))), _, _root_.rfl, h4⟩
      · refine w_iload (pc' := 177) k169_175 rfl rfl ?_
        refine w_goto k169_177 ?_
        exact w_reti k169_182 ⟨_, _root_.rfl, Or.inr (Or.inr (Or.inl ⟨c_172, _, h5⟩)), _, _root_.rfl, h4⟩
    · refine w_iload (pc' := 167) k169_166 rfl rfl ?_
      refine w_goto k169_167 ?_
      exact w_reti k169_182 ⟨_, _root_.rfl, Or.inr (Or.inl ⟨c_163, e2 c_163⟩), _, _root_.rfl, h4⟩
  · refine w_iload (pc' := 158) k169_157 rfl rfl ?_
    refine w_goto k169_158 ?_
    exact w_reti k169_182 ⟨_, _root_.rfl, Or.inl ⟨c_154, e1⟩, _, _root_.rfl, h4⟩
theorem m169i (hF : MF sh R I K H E HO S L B A) {t : Int} (ht : 0 ≤ t ∧ t ≤ 3) {a N : Nat} (hN : HO = (N : Int)) (ha : a < N) {Q : VV → Hp → Prop} (C : ∀ (I1 : Nat → Int → Int) (w c l m : Int) (v7 v8 : VV), PIv I I1 H E HO A t a N w c l m → WP X (d + 6) 169 147 [.inr (some 57), .inl t, .inl w, .inl c, .inl l, .inl m, .inl (a : Int), v7, v8] [] (sh, R, I1) 0 0 Q) : ∀ (k b : Nat) (I1 : Nat → Int → Int) (w c l m j : Int) (v8 : VV), b + k = N → j = (b : Int) → PIv I I1 H E HO A t a b w c l m → WP X (d + 6) 169 36 [.inr (some 57), .inl t, .inl w, .inl c, .inl l, .inl m, .inl (a : Int), .inl j, v8] [] (sh, R, I1) 0 0 Q := by
  have hF0 := hF
  obtain ⟨hM, hK, hpo, hha, hms, hab, hB⟩ := hF
  have hr := hK.r
  have hw : ∀ x y : Int, 0 ≤ waysS H E (opC A (-4)) (x / H) (y / H) ∧ waysS H E (opC A (-4)) (x / H) (y / H) ≤ 9 := fun x y => waysS_le (by omega)
  have hNN : HO.toNat = N := by omega
  intro k
  induction k with
  | zero =>
    rintro b I1 w c l m j v8 hk rfl hP
    have hF1 := hP.2.2.2.mf hF0
    have e : b = N := by omega
    subst e
    refine w_iload (pc' := 38) k169_36 rfl rfl ?_
    refine w_aload (pc' := 39) k169_38 rfl rfl ?_
    refine w_callE (pc' := 42) (as := [.inr (some 57)]) k169_39 rfl rfl (co_v rfl rfl (hM.1 57 (11, 30) rfl)) (by decide) (m129 hF1) ?_
    refine w_ic_ge (pc' := 45) k169_42 rfl (fun c_42 => ?_) (fun c_42 => absurd c_42 (by omega))
    exact C _ _ _ _ _ _ _ hP
  | succ k ih =>
    rintro b I1 w c l m j v8 hk rfl hP
    have hF1 := hP.2.2.2.mf hF0
    have hP0 := hP
    obtain ⟨h1, h2, h3, h4⟩ := hP
    have hlm := h3.r (fun x y => hw x y)
    have hw1 := hsS_le (f := fW H E A) (C := 1) (fun x y => fW_le x y) (N := N) (a := a) (b := b) (by omega) (by omega) (by omega) (by omega)
    have hc1 := hsS_le (f := fA H E A) (C := 1) (fun x y => fA_le x y) (N := N) (a := a) (b := b) (by omega) (by omega) (by omega) (by omega)
    rw [hNN] at h1 h2
    have hwr : 0 ≤ w ∧ w ≤ 2970 := by omega
    have hcr : 0 ≤ c ∧ c ≤ 2970 := by rw [h2]; split <;> omega
    have hwab := hw a b
    refine w_iload (pc' := 38) k169_36 rfl rfl ?_
    refine w_aload (pc' := 39) k169_38 rfl rfl ?_
    refine w_callE (pc' := 42) (as := [.inr (some 57)]) k169_39 rfl rfl (co_v rfl rfl (hM.1 57 (11, 30) rfl)) (by decide) (m129 hF1) ?_
    refine w_ic_ge (pc' := 45) k169_42 rfl (fun c_42 => absurd c_42 (by omega)) (fun c_42 => ?_)
    refine w_iload (pc' := 47) k169_45 rfl rfl ?_
    refine w_iload (pc' := 49) k169_47 rfl rfl ?_
    refine w_ic_eq (pc' := 52) k169_49 rfl (fun c_49 => ?_) (fun c_49 => ?_)
    · refine w_iinc (pc' := 144) (ls' := [_, _, _, _, _, _, _, _, _]) k169_141 rfl rfl (by omega) rfl ?_
      refine w_goto k169_144 ?_
      refine ih (b + 1) _ _ _ _ _ _ _ (by omega) (by omega) ⟨?_, ?_, h3.ext (fun x y => (hPr_e (by omega) x y).symm), h4⟩
      · rw [hNN, hsS_s, ← h1]; unfold fW; rw [if_pos (by omega), Int.add_zero]
      · rw [hNN, h2, hsS_s]; unfold fA; rw [if_pos (show (a : Int) = b by omega), Int.add_zero]
    · refine w_aload (pc' := 53) k169_52 rfl rfl ?_
      refine w_iload (pc' := 55) k169_53 rfl rfl ?_
      refine w_iload (pc' := 57) k169_55 rfl rfl ?_
      refine w_callE (pc' := 60) (as := [.inr (some 57), .inl _, .inl _]) k169_57 rfl rfl (co_v rfl rfl (hM.1 57 (11, 30) rfl)) (by decide) (m167 hF1 (by omega) (by omega)) ?_
      refine w_istore (pc' := 62) (ls' := [_, _, _, _, _, _, _, _, _]) k169_60 rfl rfl rfl ?_
      refine w_iload (pc' := 63) k169_62 rfl rfl ?_
      refine w_iload (pc' := 65) k169_63 rfl rfl ?_
      refine w_if_le (pc' := 68) k169_65 rfl (fun c_65 => ?_) (fun c_65 => ?_)
      · refine w_c1 (pc' := 73) k169_72 rfl ?_
        refine w_iadd (pc' := 74) k169_73 rfl (by omega) ?_
        refine w_istore (pc' := 75) (ls' := [_, _, _, _, _, _, _, _, _]) k169_74 rfl rfl rfl ?_
        refine w_iload (pc' := 77) k169_75 rfl rfl ?_
        refine w_if_lt (pc' := 80) k169_77 rfl (fun c_77 => ?_) (fun c_77 => ?_)
        · refine w_iload (pc' := 89) k169_87 rfl rfl ?_
          refine w_goto k169_89 ?_
          refine w_istore (pc' := 96) (ls' := [_, _, _, _, _, _, _, _, _]) k169_94 rfl rfl rfl ?_
          refine w_iload (pc' := 98) k169_96 rfl rfl ?_
          refine w_iload (pc' := 100) k169_98 rfl rfl ?_
          refine w_ic_le (pc' := 103) k169_100 rfl (fun c_100 => ?_) (fun c_100 => ?_)
          · refine w_iload (pc' := 110) k169_108 rfl rfl ?_
            refine w_istore (pc' := 112) (ls' := [_, _, _, _, _, _, _, _, _]) k169_110 rfl rfl rfl ?_
            refine w_iload (pc' := 113) k169_112 rfl rfl ?_
            refine w_c1 (pc' := 114) k169_113 rfl ?_
            refine w_ic_ne (pc' := 117) k169_114 rfl (fun c_114 => ?_) (fun c_114 => ?_)
            · refine w_iinc (pc' := 144) (ls' := [_, _, _, _, _, _, _, _, _]) k169_141 rfl rfl (by omega) rfl ?_
              refine w_goto k169_144 ?_
              exact ih (b + 1) _ _ _ _ _ _ _ (by omega) (by omega) ⟨(by rw [hNN, hsS_s, ← h1]; unfold fW; rw [if_neg c_49, if_neg (by omega)]), (by rw [hNN, h2, if_neg c_114, if_neg c_114]), h3.add (a := (a : Int)) (b := (b : Int)) hw (fun x y => by rw [hNN]; exact hPr_s (by omega) (by omega) x y) (by split <;> omega) (by split <;> omega), h4⟩
            · refine w_aload (pc' := 118) k169_117 rfl rfl ?_
              refine w_iload (pc' := 120) k169_118 rfl rfl ?_
              refine w_iload (pc' := 122) k169_120 rfl rfl ?_
              refine w_c1 (pc' := 123) k169_122 rfl ?_
              refine w_callV (pc' := 126) (as := [.inr (some 57), .inl _, .inl _, .inl _]) k169_123 rfl rfl (co_v rfl rfl (hM.1 57 (11, 30) rfl)) (by decide) (m163 hF1 (by omega) (by omega) (by have := hK.r; exact ⟨by omega, Int.mul_pos (by omega) (by omega)⟩)) (fun r_123 h_123 hq => ?_)
              obtain ⟨I_1, rfl, rs⟩ := hq
              refine w_iload (pc' := 127) k169_126 rfl rfl ?_
              refine w_aload (pc' := 128) k169_127 rfl rfl ?_
              refine w_getI (pc' := 131) (ki := 21) (v := (if pA H E A ((a : Int) / H) b 0 then (1 : Int) else 0)) k169_128 rfl (hM.1 57 (11, 30) rfl) rfl rs.2.2.2.1 ?_
              refine w_if_eq (pc' := 134) k169_131 rfl (fun c_131 => ?_) (fun c_131 => ?_)
              · refine w_c1 (pc' := 139) k169_138 rfl ?_
                have hz1 : ¬ pA H E A ((a : Int) / H) b 0 = true := by intro z; rw [if_pos z] at c_131; exact absurd c_131 (by decide)
                refine w_iadd (pc' := 140) k169_139 rfl (by omega) ?_
                refine w_istore (pc' := 141) (ls' := [_, _, _, _, _, _, _, _, _]) k169_140 rfl rfl rfl ?_
                refine w_iinc (pc' := 144) (ls' := [_, _, _, _, _, _, _, _, _]) k169_141 rfl rfl (by omega) rfl ?_
                refine w_goto k169_144 ?_
                exact ih (b + 1) _ _ _ _ _ _ _ (by omega) (by omega) ⟨(by rw [hNN, hsS_s, ← h1]; unfold fW; rw [if_neg c_49, if_neg (by omega)]), (by rw [hNN, h2, if_pos c_114, if_pos c_114, hsS_s]; unfold fA; rw [if_neg c_49, if_neg hz1]), h3.add (a := (a : Int)) (b := (b : Int)) hw (fun x y => by rw [hNN]; exact hPr_s (by omega) (by omega) x y) (by split <;> omega) (by split <;> omega), (h4.tr ⟨rs.1, rs.2.1⟩)⟩
              · refine w_c1 (pc' := 135) k169_134 rfl ?_
                refine w_goto k169_135 ?_
                have hz1 : pA H E A ((a : Int) / H) b 0 = true := by exact Decidable.byContradiction (fun z => by rw [if_neg z] at c_131; exact absurd _root_.rfl c_131)
                refine w_iadd (pc' := 140) k169_139 rfl (by omega) ?_
                refine w_istore (pc' := 141) (ls' := [_, _, _, _, _, _, _, _, _]) k169_140 rfl rfl rfl ?_
                refine w_iinc (pc' := 144) (ls' := [_, _, _, _, _, _, _, _, _]) k169_141 rfl rfl (by omega) rfl ?_
                refine w_goto k169_144 ?_
                exact ih (b + 1) _ _ _ _ _ _ _ (by omega) (by omega) ⟨(by rw [hNN, hsS_s, ← h1]; unfold fW; rw [if_neg c_49, if_neg (by omega)]), (by rw [hNN, h2, if_pos c_114, if_pos c_114, hsS_s]; unfold fA; rw [if_neg c_49, if_pos hz1]), h3.add (a := (a : Int)) (b := (b : Int)) hw (fun x y => by rw [hNN]; exact hPr_s (by omega) (by omega) x y) (by split <;> omega) (by split <;> omega), (h4.tr ⟨rs.1, rs.2.1⟩)⟩
          · refine w_iload (pc' := 105) k169_103 rfl rfl ?_
            refine w_goto k169_105 ?_
            refine w_istore (pc' := 112) (ls' := [_, _, _, _, _, _, _, _, _]) k169_110 rfl rfl rfl ?_
            refine w_iload (pc' := 113) k169_112 rfl rfl ?_
            refine w_c1 (pc' := 114) k169_113 rfl ?_
            refine w_ic_ne (pc' := 117) k169_114 rfl (fun c_114 => ?_) (fun c_114 => ?_)
            · refine w_iinc (pc' := 144) (ls' := [_, _, _, _, _, _, _, _, _]) k169_141 rfl rfl (by omega) rfl ?_
              refine w_goto k169_144 ?_
              exact ih (b + 1) _ _ _ _ _ _ _ (by omega) (by omega) ⟨(by rw [hNN, hsS_s, ← h1]; unfold fW; rw [if_neg c_49, if_neg (by omega)]), (by rw [hNN, h2, if_neg c_114, if_neg c_114]), h3.add (a := (a : Int)) (b := (b : Int)) hw (fun x y => by rw [hNN]; exact hPr_s (by omega) (by omega) x y) (by split <;> omega) (by split <;> omega), h4⟩
            · refine w_aload (pc' := 118) k169_117 rfl rfl ?_
              refine w_iload (pc' := 120) k169_118 rfl rfl ?_
              refine w_iload (pc' := 122) k169_120 rfl rfl ?_
              refine w_c1 (pc' := 123) k169_122 rfl ?_
              refine w_callV (pc' := 126) (as := [.inr (some 57), .inl _, .inl _, .inl _]) k169_123 rfl rfl (co_v rfl rfl (hM.1 57 (11, 30) rfl)) (by decide) (m163 hF1 (by omega) (by omega) (by have := hK.r; exact ⟨by omega, Int.mul_pos (by omega) (by omega)⟩)) (fun r_123 h_123 hq => ?_)
              obtain ⟨I_1, rfl, rs⟩ := hq
              refine w_iload (pc' := 127) k169_126 rfl rfl ?_
              refine w_aload (pc' := 128) k169_127 rfl rfl ?_
              refine w_getI (pc' := 131) (ki := 21) (v := (if pA H E A ((a : Int) / H) b 0 then (1 : Int) else 0)) k169_128 rfl (hM.1 57 (11, 30) rfl) rfl rs.2.2.2.1 ?_
              refine w_if_eq (pc' := 134) k169_131 rfl (fun c_131 => ?_) (fun c_131 => ?_)
              · refine w_c1 (pc' := 139) k169_138 rfl ?_
                have hz1 : ¬ pA H E A ((a : Int) / H) b 0 = true := by intro z; rw [if_pos z] at c_131; exact absurd c_131 (by decide)
                refine w_iadd (pc' := 140) k169_139 rfl (by omega) ?_
                refine w_istore (pc' := 141) (ls' := [_, _, _, _, _, _, _, _, _]) k169_140 rfl rfl rfl ?_
                refine w_iinc (pc' := 144) (ls' := [_, _, _, _, _, _, _, _, _]) k169_141 rfl rfl (by omega) rfl ?_
                refine w_goto k169_144 ?_
                exact ih (b + 1) _ _ _ _ _ _ _ (by omega) (by omega) ⟨(by rw [hNN, hsS_s, ← h1]; unfold fW; rw [if_neg c_49, if_neg (by omega)]), (by rw [hNN, h2, if_pos c_114, if_pos c_114, hsS_s]; unfold fA; rw [if_neg c_49, if_neg hz1]), h3.add (a := (a : Int)) (b := (b : Int)) hw (fun x y => by rw [hNN]; exact hPr_s (by omega) (by omega) x y) (by split <;> omega) (by split <;> omega), (h4.tr ⟨rs.1, rs.2.1⟩)⟩
              · refine w_c1 (pc' := 135) k169_134 rfl ?_
                refine w_goto k169_135 ?_
                have hz1 : pA H E A ((a : Int) / H) b 0 = true := by exact Decidable.byContradiction (fun z => by rw [if_neg z] at c_131; exact absurd _root_.rfl c_131)
                refine w_iadd (pc' := 140) k169_139 rfl (by omega) ?_
                refine w_istore (pc' := 141) (ls' := [_, _, _, _, _, _, _, _, _]) k169_140 rfl rfl rfl ?_
                refine w_iinc (pc' := 144) (ls' := [_, _, _, _, _, _, _, _, _]) k169_141 rfl rfl (by omega) rfl ?_
                refine w_goto k169_144 ?_
                exact ih (b + 1) _ _ _ _ _ _ _ (by omega) (by omega) ⟨(by rw [hNN, hsS_s, ← h1]; unfold fW; rw [if_neg c_49, if_neg (by omega)]), (by rw [hNN, h2, if_pos c_114, if_pos c_114, hsS_s]; unfold fA; rw [if_neg c_49, if_pos hz1]), h3.add (a := (a : Int)) (b := (b : Int)) hw (fun x y => by rw [hNN]; exact hPr_s (by omega) (by omega) x y) (by split <;> omega) (by split <;> omega), (h4.tr ⟨rs.1, rs.2.1⟩)⟩
        · refine w_iload (pc' := 82) k169_80 rfl rfl ?_
          refine w_iload (pc' := 84) k169_82 rfl rfl ?_
          refine w_ic_ge (pc' := 87) k169_84 rfl (fun c_84 => ?_) (fun c_84 => ?_)
          · refine w_iload (pc' := 94) k169_92 rfl rfl ?_
            refine w_istore (pc' := 96) (ls' := [_, _, _, _, _, _, _, _, _]) k169_94 rfl rfl rfl ?_
            refine w_iload (pc' := 98) k169_96 rfl rfl ?_
            refine w_iload (pc' := 100) k169_98 rfl rfl ?_
            refine w_ic_le (pc' := 103) k169_100 rfl (fun c_100 => ?_) (fun c_100 => ?_)
            · refine w_iload (pc' := 110) k169_108 rfl rfl ?_
              refine w_istore (pc' := 112) (ls' := [_, _, _, _, _, _, _, _, _]) k169_110 rfl rfl rfl ?_
              refine w_iload (pc' := 113) k169_112 rfl rfl ?_
              refine w_c1 (pc' := 114) k169_113 rfl ?_
              refine w_ic_ne (pc' := 117) k169_114 rfl (fun c_114 => ?_) (fun c_114 => ?_)
              · refine w_iinc (pc' := 144) (ls' := [_, _, _, _, _, _, _, _, _]) k169_141 rfl rfl (by omega) rfl ?_
                refine w_goto k169_144 ?_
                exact ih (b + 1) _ _ _ _ _ _ _ (by omega) (by omega) ⟨(by rw [hNN, hsS_s, ← h1]; unfold fW; rw [if_neg c_49, if_neg (by omega)]), (by rw [hNN, h2, if_neg c_114, if_neg c_114]), h3.add (a := (a : Int)) (b := (b : Int)) hw (fun x y => by rw [hNN]; exact hPr_s (by omega) (by omega) x y) (by split <;> omega) (by split <;> omega), h4⟩
              · refine w_aload (pc' := 118) k169_117 rfl rfl ?_
                refine w_iload (pc' := 120) k169_118 rfl rfl ?_
                refine w_iload (pc' := 122) k169_120 rfl rfl ?_
                refine w_c1 (pc' := 123) k169_122 rfl ?_
                refine w_callV (pc' := 126) (as := [.inr (some 57), .inl _, .inl _, .inl _]) k169_123 rfl rfl (co_v rfl rfl (hM.1 57 (11, 30) rfl)) (by decide) (m163 hF1 (by omega) (by omega) (by have := hK.r; exact ⟨by omega, Int.mul_pos (by omega) (by omega)⟩)) (fun r_123 h_123 hq => ?_)
                obtain ⟨I_1, rfl, rs⟩ := hq
                refine w_iload (pc' := 127) k169_126 rfl rfl ?_
                refine w_aload (pc' := 128) k169_127 rfl rfl ?_
                refine w_getI (pc' := 131) (ki := 21) (v := (if pA H E A ((a : Int) / H) b 0 then (1 : Int) else 0)) k169_128 rfl (hM.1 57 (11, 30) rfl) rfl rs.2.2.2.1 ?_
                refine w_if_eq (pc' := 134) k169_131 rfl (fun c_131 => ?_) (fun c_131 => ?_)
                · refine w_c1 (pc' := 139) k169_138 rfl ?_
                  have hz1 : ¬ pA H E A ((a : Int) / H) b 0 = true := by intro z; rw [if_pos z] at c_131; exact absurd c_131 (by decide)
                  refine w_iadd (pc' := 140) k169_139 rfl (by omega) ?_
                  refine w_istore (pc' := 141) (ls' := [_, _, _, _, _, _, _, _, _]) k169_140 rfl rfl rfl ?_
                  refine w_iinc (pc' := 144) (ls' := [_, _, _, _, _, _, _, _, _]) k169_141 rfl rfl (by omega) rfl ?_
                  refine w_goto k169_144 ?_
                  exact ih (b + 1) _ _ _ _ _ _ _ (by omega) (by omega) ⟨(by rw [hNN, hsS_s, ← h1]; unfold fW; rw [if_neg c_49, if_neg (by omega)]), (by rw [hNN, h2, if_pos c_114, if_pos c_114, hsS_s]; unfold fA; rw [if_neg c_49, if_neg hz1]), h3.add (a := (a : Int)) (b := (b : Int)) hw (fun x y => by rw [hNN]; exact hPr_s (by omega) (by omega) x y) (by split <;> omega) (by split <;> omega), (h4.tr ⟨rs.1, rs.2.1⟩)⟩
                · refine w_c1 (pc' := 135) k169_134 rfl ?_
                  refine w_goto k169_135 ?_
                  have hz1 : pA H E A ((a : Int) / H) b 0 = true := by exact Decidable.byContradiction (fun z => by rw [if_neg z] at c_131; exact absurd _root_.rfl c_131)
                  refine w_iadd (pc' := 140) k169_139 rfl (by omega) ?_
                  refine w_istore (pc' := 141) (ls' := [_, _, _, _, _, _, _, _, _]) k169_140 rfl rfl rfl ?_
                  refine w_iinc (pc' := 144) (ls' := [_, _, _, _, _, _, _, _, _]) k169_141 rfl rfl (by omega) rfl ?_
                  refine w_goto k169_144 ?_
                  exact ih (b + 1) _ _ _ _ _ _ _ (by omega) (by omega) ⟨(by rw [hNN, hsS_s, ← h1]; unfold fW; rw [if_neg c_49, if_neg (by omega)]), (by rw [hNN, h2, if_pos c_114, if_pos c_114, hsS_s]; unfold fA; rw [if_neg c_49, if_pos hz1]), h3.add (a := (a : Int)) (b := (b : Int)) hw (fun x y => by rw [hNN]; exact hPr_s (by omega) (by omega) x y) (by split <;> omega) (by split <;> omega), (h4.tr ⟨rs.1, rs.2.1⟩)⟩
            · refine w_iload (pc' := 105) k169_103 rfl rfl ?_
              refine w_goto k169_105 ?_
              refine w_istore (pc' := 112) (ls' := [_, _, _, _, _, _, _, _, _]) k169_110 rfl rfl rfl ?_
              refine w_iload (pc' := 113) k169_112 rfl rfl ?_
              refine w_c1 (pc' := 114) k169_113 rfl ?_
              refine w_ic_ne (pc' := 117) k169_114 rfl (fun c_114 => ?_) (fun c_114 => ?_)
              · refine w_iinc (pc' := 144) (ls' := [_, _, _, _, _, _, _, _, _]) k169_141 rfl rfl (by omega) rfl ?_
                refine w_goto k169_144 ?_
                exact ih (b + 1) _ _ _ _ _ _ _ (by omega) (by omega) ⟨(by rw [hNN, hsS_s, ← h1]; unfold fW; rw [if_neg c_49, if_neg (by omega)]), (by rw [hNN, h2, if_neg c_114, if_neg c_114]), h3.add (a := (a : Int)) (b := (b : Int)) hw (fun x y => by rw [hNN]; exact hPr_s (by omega) (by omega) x y) (by split <;> omega) (by split <;> omega), h4⟩
              · refine w_aload (pc' := 118) k169_117 rfl rfl ?_
                refine w_iload (pc' := 120) k169_118 rfl rfl ?_
                refine w_iload (pc' := 122) k169_120 rfl rfl ?_
                refine w_c1 (pc' := 123) k169_122 rfl ?_
                refine w_callV (pc' := 126) (as := [.inr (some 57), .inl _, .inl _, .inl _]) k169_123 rfl rfl (co_v rfl rfl (hM.1 57 (11, 30) rfl)) (by decide) (m163 hF1 (by omega) (by omega) (by have := hK.r; exact ⟨by omega, Int.mul_pos (by omega) (by omega)⟩)) (fun r_123 h_123 hq => ?_)
                obtain ⟨I_1, rfl, rs⟩ := hq
                refine w_iload (pc' := 127) k169_126 rfl rfl ?_
                refine w_aload (pc' := 128) k169_127 rfl rfl ?_
                refine w_getI (pc' := 131) (ki := 21) (v := (if pA H E A ((a : Int) / H) b 0 then (1 : Int) else 0)) k169_128 rfl (hM.1 57 (11, 30) rfl) rfl rs.2.2.2.1 ?_
                refine w_if_eq (pc' := 134) k169_131 rfl (fun c_131 => ?_) (fun c_131 => ?_)
                · refine w_c1 (pc' := 139) k169_138 rfl ?_
                  have hz1 : ¬ pA H E A ((a : Int) / H) b 0 = true := by intro z; rw [if_pos z] at c_131; exact absurd c_131 (by decide)
                  refine w_iadd (pc' := 140) k169_139 rfl (by omega) ?_
                  refine w_istore (pc' := 141) (ls' := [_, _, _, _, _, _, _, _, _]) k169_140 rfl rfl rfl ?_
                  refine w_iinc (pc' := 144) (ls' := [_, _, _, _, _, _, _, _, _]) k169_141 rfl rfl (by omega) rfl ?_
                  refine w_goto k169_144 ?_
                  exact ih (b + 1) _ _ _ _ _ _ _ (by omega) (by omega) ⟨(by rw [hNN, hsS_s, ← h1]; unfold fW; rw [if_neg c_49, if_neg (by omega)]), (by rw [hNN, h2, if_pos c_114, if_pos c_114, hsS_s]; unfold fA; rw [if_neg c_49, if_neg hz1]), h3.add (a := (a : Int)) (b := (b : Int)) hw (fun x y => by rw [hNN]; exact hPr_s (by omega) (by omega) x y) (by split <;> omega) (by split <;> omega), (h4.tr ⟨rs.1, rs.2.1⟩)⟩
                · refine w_c1 (pc' := 135) k169_134 rfl ?_
                  refine w_goto k169_135 ?_
                  have hz1 : pA H E A ((a : Int) / H) b 0 = true := by exact Decidable.byContradiction (fun z => by rw [if_neg z] at c_131; exact absurd _root_.rfl c_131)
                  refine w_iadd (pc' := 140) k169_139 rfl (by omega) ?_
                  refine w_istore (pc' := 141) (ls' := [_, _, _, _, _, _, _, _, _]) k169_140 rfl rfl rfl ?_
                  refine w_iinc (pc' := 144) (ls' := [_, _, _, _, _, _, _, _, _]) k169_141 rfl rfl (by omega) rfl ?_
                  refine w_goto k169_144 ?_
                  exact ih (b + 1) _ _ _ _ _ _ _ (by omega) (by omega) ⟨(by rw [hNN, hsS_s, ← h1]; unfold fW; rw [if_neg c_49, if_neg (by omega)]), (by rw [hNN, h2, if_pos c_114, if_pos c_114, hsS_s]; unfold fA; rw [if_neg c_49, if_pos hz1]), h3.add (a := (a : Int)) (b := (b : Int)) hw (fun x y => by rw [hNN]; exact hPr_s (by omega) (by omega) x y) (by split <;> omega) (by split <;> omega), (h4.tr ⟨rs.1, rs.2.1⟩)⟩
          · refine w_iload (pc' := 89) k169_87 rfl rfl ?_
            refine w_goto k169_89 ?_
            refine w_istore (pc' := 96) (ls' := [_, _, _, _, _, _, _, _, _]) k169_94 rfl rfl rfl ?_
            refine w_iload (pc' := 98) k169_96 rfl rfl ?_
            refine w_iload (pc' := 100) k169_98 rfl rfl ?_
            refine w_ic_le (pc' := 103) k169_100 rfl (fun c_100 => ?_) (fun c_100 => ?_)
            · refine w_iload (pc' := 110) k169_108 rfl rfl ?_
              refine w_istore (pc' := 112) (ls' := [_, _, _, _, _, _, _, _, _]) k169_110 rfl rfl rfl ?_
              refine w_iload (pc' := 113) k169_112 rfl rfl ?_
              refine w_c1 (pc' := 114) k169_113 rfl ?_
              refine w_ic_ne (pc' := 117) k169_114 rfl (fun c_114 => ?_) (fun c_114 => ?_)
              · refine w_iinc (pc' := 144) (ls' := [_, _, _, _, _, _, _, _, _]) k169_141 rfl rfl (by omega) rfl ?_
                refine w_goto k169_144 ?_
                exact ih (b + 1) _ _ _ _ _ _ _ (by omega) (by omega) ⟨(by rw [hNN, hsS_s, ← h1]; unfold fW; rw [if_neg c_49, if_neg (by omega)]), (by rw [hNN, h2, if_neg c_114, if_neg c_114]), h3.add (a := (a : Int)) (b := (b : Int)) hw (fun x y => by rw [hNN]; exact hPr_s (by omega) (by omega) x y) (by split <;> omega) (by split <;> omega), h4⟩
              · refine w_aload (pc' := 118) k169_117 rfl rfl ?_
                refine w_iload (pc' := 120) k169_118 rfl rfl ?_
                refine w_iload (pc' := 122) k169_120 rfl rfl ?_
                refine w_c1 (pc' := 123) k169_122 rfl ?_
                refine w_callV (pc' := 126) (as := [.inr (some 57), .inl _, .inl _, .inl _]) k169_123 rfl rfl (co_v rfl rfl (hM.1 57 (11, 30) rfl)) (by decide) (m163 hF1 (by omega) (by omega) (by have := hK.r; exact ⟨by omega, Int.mul_pos (by omega) (by omega)⟩)) (fun r_123 h_123 hq => ?_)
                obtain ⟨I_1, rfl, rs⟩ := hq
                refine w_iload (pc' := 127) k169_126 rfl rfl ?_
                refine w_aload (pc' := 128) k169_127 rfl rfl ?_
                refine w_getI (pc' := 131) (ki := 21) (v := (if pA H E A ((a : Int) / H) b 0 then (1 : Int) else 0)) k169_128 rfl (hM.1 57 (11, 30) rfl) rfl rs.2.2.2.1 ?_
                refine w_if_eq (pc' := 134) k169_131 rfl (fun c_131 => ?_) (fun c_131 => ?_)
                · refine w_c1 (pc' := 139) k169_138 rfl ?_
                  have hz1 : ¬ pA H E A ((a : Int) / H) b 0 = true := by intro z; rw [if_pos z] at c_131; exact absurd c_131 (by decide)
                  refine w_iadd (pc' := 140) k169_139 rfl (by omega) ?_
                  refine w_istore (pc' := 141) (ls' := [_, _, _, _, _, _, _, _, _]) k169_140 rfl rfl rfl ?_
                  refine w_iinc (pc' := 144) (ls' := [_, _, _, _, _, _, _, _, _]) k169_141 rfl rfl (by omega) rfl ?_
                  refine w_goto k169_144 ?_
                  exact ih (b + 1) _ _ _ _ _ _ _ (by omega) (by omega) ⟨(by rw [hNN, hsS_s, ← h1]; unfold fW; rw [if_neg c_49, if_neg (by omega)]), (by rw [hNN, h2, if_pos c_114, if_pos c_114, hsS_s]; unfold fA; rw [if_neg c_49, if_neg hz1]), h3.add (a := (a : Int)) (b := (b : Int)) hw (fun x y => by rw [hNN]; exact hPr_s (by omega) (by omega) x y) (by split <;> omega) (by split <;> omega), (h4.tr ⟨rs.1, rs.2.1⟩)⟩
                · refine w_c1 (pc' := 135) k169_134 rfl ?_
                  refine w_goto k169_135 ?_
                  have hz1 : pA H E A ((a : Int) / H) b 0 = true := by exact Decidable.byContradiction (fun z => by rw [if_neg z] at c_131; exact absurd _root_.rfl c_131)
                  refine w_iadd (pc' := 140) k169_139 rfl (by omega) ?_
                  refine w_istore (pc' := 141) (ls' := [_, _, _, _, _, _, _, _, _]) k169_140 rfl rfl rfl ?_
                  refine w_iinc (pc' := 144) (ls' := [_, _, _, _, _, _, _, _, _]) k169_141 rfl rfl (by omega) rfl ?_
                  refine w_goto k169_144 ?_
                  exact ih (b + 1) _ _ _ _ _ _ _ (by omega) (by omega) ⟨(by rw [hNN, hsS_s, ← h1]; unfold fW; rw [if_neg c_49, if_neg (by omega)]), (by rw [hNN, h2, if_pos c_114, if_pos c_114, hsS_s]; unfold fA; rw [if_neg c_49, if_pos hz1]), h3.add (a := (a : Int)) (b := (b : Int)) hw (fun x y => by rw [hNN]; exact hPr_s (by omega) (by omega) x y) (by split <;> omega) (by split <;> omega), (h4.tr ⟨rs.1, rs.2.1⟩)⟩
            · refine w_iload (pc' := 105) k169_103 rfl rfl ?_
              refine w_goto k169_105 ?_
              refine w_istore (pc' := 112) (ls' := [_, _, _, _, _, _, _, _, _]) k169_110 rfl rfl rfl ?_
              refine w_iload (pc' := 113) k169_112 rfl rfl ?_
              refine w_c1 (pc' := 114) k169_113 rfl ?_
              refine w_ic_ne (pc' := 117) k169_114 rfl (fun c_114 => ?_) (fun c_114 => ?_)
              · refine w_iinc (pc' := 144) (ls' := [_, _, _, _, _, _, _, _, _]) k169_141 rfl rfl (by omega) rfl ?_
                refine w_goto k169_144 ?_
                exact ih (b + 1) _ _ _ _ _ _ _ (by omega) (by omega) ⟨(by rw [hNN, hsS_s, ← h1]; unfold fW; rw [if_neg c_49, if_neg (by omega)]), (by rw [hNN, h2, if_neg c_114, if_neg c_114]), h3.add (a := (a : Int)) (b := (b : Int)) hw (fun x y => by rw [hNN]; exact hPr_s (by omega) (by omega) x y) (by split <;> omega) (by split <;> omega), h4⟩
              · refine w_aload (pc' := 118) k169_117 rfl rfl ?_
                refine w_iload (pc' := 120) k169_118 rfl rfl ?_
                refine w_iload (pc' := 122) k169_120 rfl rfl ?_
                refine w_c1 (pc' := 123) k169_122 rfl ?_
                refine w_callV (pc' := 126) (as := [.inr (some 57), .inl _, .inl _, .inl _]) k169_123 rfl rfl (co_v rfl rfl (hM.1 57 (11, 30) rfl)) (by decide) (m163 hF1 (by omega) (by omega) (by have := hK.r; exact ⟨by omega, Int.mul_pos (by omega) (by omega)⟩)) (fun r_123 h_123 hq => ?_)
                obtain ⟨I_1, rfl, rs⟩ := hq
                refine w_iload (pc' := 127) k169_126 rfl rfl ?_
                refine w_aload (pc' := 128) k169_127 rfl rfl ?_
                refine w_getI (pc' := 131) (ki := 21) (v := (if pA H E A ((a : Int) / H) b 0 then (1 : Int) else 0)) k169_128 rfl (hM.1 57 (11, 30) rfl) rfl rs.2.2.2.1 ?_
                refine w_if_eq (pc' := 134) k169_131 rfl (fun c_131 => ?_) (fun c_131 => ?_)
                · refine w_c1 (pc' := 139) k169_138 rfl ?_
                  have hz1 : ¬ pA H E A ((a : Int) / H) b 0 = true := by intro z; rw [if_pos z] at c_131; exact absurd c_131 (by decide)
                  refine w_iadd (pc' := 140) k169_139 rfl (by omega) ?_
                  refine w_istore (pc' := 141) (ls' := [_, _, _, _, _, _, _, _, _]) k169_140 rfl rfl rfl ?_
                  refine w_iinc (pc' := 144) (ls' := [_, _, _, _, _, _, _, _, _]) k169_141 rfl rfl (by omega) rfl ?_
                  refine w_goto k169_144 ?_
                  exact ih (b + 1) _ _ _ _ _ _ _ (by omega) (by omega) ⟨(by rw [hNN, hsS_s, ← h1]; unfold fW; rw [if_neg c_49, if_neg (by omega)]), (by rw [hNN, h2, if_pos c_114, if_pos c_114, hsS_s]; unfold fA; rw [if_neg c_49, if_neg hz1]), h3.add (a := (a : Int)) (b := (b : Int)) hw (fun x y => by rw [hNN]; exact hPr_s (by omega) (by omega) x y) (by split <;> omega) (by split <;> omega), (h4.tr ⟨rs.1, rs.2.1⟩)⟩
                · refine w_c1 (pc' := 135) k169_134 rfl ?_
                  refine w_goto k169_135 ?_
                  have hz1 : pA H E A ((a : Int) / H) b 0 = true := by exact Decidable.byContradiction (fun z => by rw [if_neg z] at c_131; exact absurd _root_.rfl c_131)
                  refine w_iadd (pc' := 140) k169_139 rfl (by omega) ?_
                  refine w_istore (pc' := 141) (ls' := [_, _, _, _, _, _, _, _, _]) k169_140 rfl rfl rfl ?_
                  refine w_iinc (pc' := 144) (ls' := [_, _, _, _, _, _, _, _, _]) k169_141 rfl rfl (by omega) rfl ?_
                  refine w_goto k169_144 ?_
                  exact ih (b + 1) _ _ _ _ _ _ _ (by omega) (by omega) ⟨(by rw [hNN, hsS_s, ← h1]; unfold fW; rw [if_neg c_49, if_neg (by omega)]), (by rw [hNN, h2, if_pos c_114, if_pos c_114, hsS_s]; unfold fA; rw [if_neg c_49, if_pos hz1]), h3.add (a := (a : Int)) (b := (b : Int)) hw (fun x y => by rw [hNN]; exact hPr_s (by omega) (by omega) x y) (by split <;> omega) (by split <;> omega), (h4.tr ⟨rs.1, rs.2.1⟩)⟩
      · refine w_c1 (pc' := 69) k169_68 rfl ?_
        refine w_goto k169_69 ?_
        refine w_iadd (pc' := 74) k169_73 rfl (by omega) ?_
        refine w_istore (pc' := 75) (ls' := [_, _, _, _, _, _, _, _, _]) k169_74 rfl rfl rfl ?_
        refine w_iload (pc' := 77) k169_75 rfl rfl ?_
        refine w_if_lt (pc' := 80) k169_77 rfl (fun c_77 => ?_) (fun c_77 => ?_)
        · refine w_iload (pc' := 89) k169_87 rfl rfl ?_
          refine w_goto k169_89 ?_
          refine w_istore (pc' := 96) (ls' := [_, _, _, _, _, _, _, _, _]) k169_94 rfl rfl rfl ?_
          refine w_iload (pc' := 98) k169_96 rfl rfl ?_
          refine w_iload (pc' := 100) k169_98 rfl rfl ?_
          refine w_ic_le (pc' := 103) k169_100 rfl (fun c_100 => ?_) (fun c_100 => ?_)
          · refine w_iload (pc' := 110) k169_108 rfl rfl ?_
            refine w_istore (pc' := 112) (ls' := [_, _, _, _, _, _, _, _, _]) k169_110 rfl rfl rfl ?_
            refine w_iload (pc' := 113) k169_112 rfl rfl ?_
            refine w_c1 (pc' := 114) k169_113 rfl ?_
            refine w_ic_ne (pc' := 117) k169_114 rfl (fun c_114 => ?_) (fun c_114 => ?_)
            · refine w_iinc (pc' := 144) (ls' := [_, _, _, _, _, _, _, _, _]) k169_141 rfl rfl (by omega) rfl ?_
              refine w_goto k169_144 ?_
              exact ih (b + 1) _ _ _ _ _ _ _ (by omega) (by omega) ⟨(by rw [hNN, hsS_s, ← h1]; unfold fW; rw [if_neg c_49, if_pos (by omega)]), (by rw [hNN, h2, if_neg c_114, if_neg c_114]), h3.add (a := (a : Int)) (b := (b : Int)) hw (fun x y => by rw [hNN]; exact hPr_s (by omega) (by omega) x y) (by split <;> omega) (by split <;> omega), h4⟩
            · refine w_aload (pc' := 118) k169_117 rfl rfl ?_
              refine w_iload (pc' := 120) k169_118 rfl rfl ?_
              refine w_iload (pc' := 122) k169_120 rfl rfl ?_
              refine w_c1 (pc' := 123) k169_122 rfl ?_
              refine w_callV (pc' := 126) (as := [.inr (some 57), .inl _, .inl _, .inl _]) k169_123 rfl rfl (co_v rfl rfl (hM.1 57 (11, 30) rfl)) (by decide) (m163 hF1 (by omega) (by omega) (by have := hK.r; exact ⟨by omega, Int.mul_pos (by omega) (by omega)⟩)) (fun r_123 h_123 hq => ?_)
              obtain ⟨I_1, rfl, rs⟩ := hq
              refine w_iload (pc' := 127) k169_126 rfl rfl ?_
              refine w_aload (pc' := 128) k169_127 rfl rfl ?_
              refine w_getI (pc' := 131) (ki := 21) (v := (if pA H E A ((a : Int) / H) b 0 then (1 : Int) else 0)) k169_128 rfl (hM.1 57 (11, 30) rfl) rfl rs.2.2.2.1 ?_
              refine w_if_eq (pc' := 134) k169_131 rfl (fun c_131 => ?_) (fun c_131 => ?_)
              · refine w_c1 (pc' := 139) k169_138 rfl ?_
                have hz1 : ¬ pA H E A ((a : Int) / H) b 0 = true := by intro z; rw [if_pos z] at c_131; exact absurd c_131 (by decide)
                refine w_iadd (pc' := 140) k169_139 rfl (by omega) ?_
                refine w_istore (pc' := 141) (ls' := [_, _, _, _, _, _, _, _, _]) k169_140 rfl rfl rfl ?_
                refine w_iinc (pc' := 144) (ls' := [_, _, _, _, _, _, _, _, _]) k169_141 rfl rfl (by omega) rfl ?_
                refine w_goto k169_144 ?_
                exact ih (b + 1) _ _ _ _ _ _ _ (by omega) (by omega) ⟨(by rw [hNN, hsS_s, ← h1]; unfold fW; rw [if_neg c_49, if_pos (by omega)]), (by rw [hNN, h2, if_pos c_114, if_pos c_114, hsS_s]; unfold fA; rw [if_neg c_49, if_neg hz1]), h3.add (a := (a : Int)) (b := (b : Int)) hw (fun x y => by rw [hNN]; exact hPr_s (by omega) (by omega) x y) (by split <;> omega) (by split <;> omega), (h4.tr ⟨rs.1, rs.2.1⟩)⟩
              · refine w_c1 (pc' := 135) k169_134 rfl ?_
                refine w_goto k169_135 ?_
                have hz1 : pA H E A ((a : Int) / H) b 0 = true := by exact Decidable.byContradiction (fun z => by rw [if_neg z] at c_131; exact absurd _root_.rfl c_131)
                refine w_iadd (pc' := 140) k169_139 rfl (by omega) ?_
                refine w_istore (pc' := 141) (ls' := [_, _, _, _, _, _, _, _, _]) k169_140 rfl rfl rfl ?_
                refine w_iinc (pc' := 144) (ls' := [_, _, _, _, _, _, _, _, _]) k169_141 rfl rfl (by omega) rfl ?_
                refine w_goto k169_144 ?_
                exact ih (b + 1) _ _ _ _ _ _ _ (by omega) (by omega) ⟨(by rw [hNN, hsS_s, ← h1]; unfold fW; rw [if_neg c_49, if_pos (by omega)]), (by rw [hNN, h2, if_pos c_114, if_pos c_114, hsS_s]; unfold fA; rw [if_neg c_49, if_pos hz1]), h3.add (a := (a : Int)) (b := (b : Int)) hw (fun x y => by rw [hNN]; exact hPr_s (by omega) (by omega) x y) (by split <;> omega) (by split <;> omega), (h4.tr ⟨rs.1, rs.2.1⟩)⟩
          · refine w_iload (pc' := 105) k169_103 rfl rfl ?_
            refine w_goto k169_105 ?_
            refine w_istore (pc' := 112) (ls' := [_, _, _, _, _, _, _, _, _]) k169_110 rfl rfl rfl ?_
            refine w_iload (pc' := 113) k169_112 rfl rfl ?_
            refine w_c1 (pc' := 114) k169_113 rfl ?_
            refine w_ic_ne (pc' := 117) k169_114 rfl (fun c_114 => ?_) (fun c_114 => ?_)
            · refine w_iinc (pc' := 144) (ls' := [_, _, _, _, _, _, _, _, _]) k169_141 rfl rfl (by omega) rfl ?_
              refine w_goto k169_144 ?_
              exact ih (b + 1) _ _ _ _ _ _ _ (by omega) (by omega) ⟨(by rw [hNN, hsS_s, ← h1]; unfold fW; rw [if_neg c_49, if_pos (by omega)]), (by rw [hNN, h2, if_neg c_114, if_neg c_114]), h3.add (a := (a : Int)) (b := (b : Int)) hw (fun x y => by rw [hNN]; exact hPr_s (by omega) (by omega) x y) (by split <;> omega) (by split <;> omega), h4⟩
            · refine w_aload (pc' := 118) k169_117 rfl rfl ?_
              refine w_iload (pc' := 120) k169_118 rfl rfl ?_
              refine w_iload (pc' := 122) k169_120 rfl rfl ?_
              refine w_c1 (pc' := 123) k169_122 rfl ?_
              refine w_callV (pc' := 126) (as := [.inr (some 57), .inl _, .inl _, .inl _]) k169_123 rfl rfl (co_v rfl rfl (hM.1 57 (11, 30) rfl)) (by decide) (m163 hF1 (by omega) (by omega) (by have := hK.r; exact ⟨by omega, Int.mul_pos (by omega) (by omega)⟩)) (fun r_123 h_123 hq => ?_)
              obtain ⟨I_1, rfl, rs⟩ := hq
              refine w_iload (pc' := 127) k169_126 rfl rfl ?_
              refine w_aload (pc' := 128) k169_127 rfl rfl ?_
              refine w_getI (pc' := 131) (ki := 21) (v := (if pA H E A ((a : Int) / H) b 0 then (1 : Int) else 0)) k169_128 rfl (hM.1 57 (11, 30) rfl) rfl rs.2.2.2.1 ?_
              refine w_if_eq (pc' := 134) k169_131 rfl (fun c_131 => ?_) (fun c_131 => ?_)
              · refine w_c1 (pc' := 139) k169_138 rfl ?_
                have hz1 : ¬ pA H E A ((a : Int) / H) b 0 = true := by intro z; rw [if_pos z] at c_131; exact absurd c_131 (by decide)
                refine w_iadd (pc' := 140) k169_139 rfl (by omega) ?_
                refine w_istore (pc' := 141) (ls' := [_, _, _, _, _, _, _, _, _]) k169_140 rfl rfl rfl ?_
                refine w_iinc (pc' := 144) (ls' := [_, _, _, _, _, _, _, _, _]) k169_141 rfl rfl (by omega) rfl ?_
                refine w_goto k169_144 ?_
                exact ih (b + 1) _ _ _ _ _ _ _ (by omega) (by omega) ⟨(by rw [hNN, hsS_s, ← h1]; unfold fW; rw [if_neg c_49, if_pos (by omega)]), (by rw [hNN, h2, if_pos c_114, if_pos c_114, hsS_s]; unfold fA; rw [if_neg c_49, if_neg hz1]), h3.add (a := (a : Int)) (b := (b : Int)) hw (fun x y => by rw [hNN]; exact hPr_s (by omega) (by omega) x y) (by split <;> omega) (by split <;> omega), (h4.tr ⟨rs.1, rs.2.1⟩)⟩
              · refine w_c1 (pc' := 135) k169_134 rfl ?_
                refine w_goto k169_135 ?_
                have hz1 : pA H E A ((a : Int) / H) b 0 = true := by exact Decidable.byContradiction (fun z => by rw [if_neg z] at c_131; exact absurd _root_.rfl c_131)
                refine w_iadd (pc' := 140) k169_139 rfl (by omega) ?_
                refine w_istore (pc' := 141) (ls' := [_, _, _, _, _, _, _, _, _]) k169_140 rfl rfl rfl ?_
                refine w_iinc (pc' := 144) (ls' := [_, _, _, _, _, _, _, _, _]) k169_141 rfl rfl (by omega) rfl ?_
                refine w_goto k169_144 ?_
                exact ih (b + 1) _ _ _ _ _ _ _ (by omega) (by omega) ⟨(by rw [hNN, hsS_s, ← h1]; unfold fW; rw [if_neg c_49, if_pos (by omega)]), (by rw [hNN, h2, if_pos c_114, if_pos c_114, hsS_s]; unfold fA; rw [if_neg c_49, if_pos hz1]), h3.add (a := (a : Int)) (b := (b : Int)) hw (fun x y => by rw [hNN]; exact hPr_s (by omega) (by omega) x y) (by split <;> omega) (by split <;> omega), (h4.tr ⟨rs.1, rs.2.1⟩)⟩
        · refine w_iload (pc' := 82) k169_80 rfl rfl ?_
          refine w_iload (pc' := 84) k169_82 rfl rfl ?_
          refine w_ic_ge (pc' := 87) k169_84 rfl (fun c_84 => ?_) (fun c_84 => ?_)
          · refine w_iload (pc' := 94) k169_92 rfl rfl ?_
            refine w_istore (pc' := 96) (ls' := [_, _, _, _, _, _, _, _, _]) k169_94 rfl rfl rfl ?_
            refine w_iload (pc' := 98) k169_96 rfl rfl ?_
            refine w_iload (pc' := 100) k169_98 rfl rfl ?_
            refine w_ic_le (pc' := 103) k169_100 rfl (fun c_100 => ?_) (fun c_100 => ?_)
            · refine w_iload (pc' := 110) k169_108 rfl rfl ?_
              refine w_istore (pc' := 112) (ls' := [_, _, _, _, _, _, _, _, _]) k169_110 rfl rfl rfl ?_
              refine w_iload (pc' := 113) k169_112 rfl rfl ?_
              refine w_c1 (pc' := 114) k169_113 rfl ?_
              refine w_ic_ne (pc' := 117) k169_114 rfl (fun c_114 => ?_) (fun c_114 => ?_)
              · refine w_iinc (pc' := 144) (ls' := [_, _, _, _, _, _, _, _, _]) k169_141 rfl rfl (by omega) rfl ?_
                refine w_goto k169_144 ?_
                exact ih (b + 1) _ _ _ _ _ _ _ (by omega) (by omega) ⟨(by rw [hNN, hsS_s, ← h1]; unfold fW; rw [if_neg c_49, if_pos (by omega)]), (by rw [hNN, h2, if_neg c_114, if_neg c_114]), h3.add (a := (a : Int)) (b := (b : Int)) hw (fun x y => by rw [hNN]; exact hPr_s (by omega) (by omega) x y) (by split <;> omega) (by split <;> omega), h4⟩
              · refine w_aload (pc' := 118) k169_117 rfl rfl ?_
                refine w_iload (pc' := 120) k169_118 rfl rfl ?_
                refine w_iload (pc' := 122) k169_120 rfl rfl ?_
                refine w_c1 (pc' := 123) k169_122 rfl ?_
                refine w_callV (pc' := 126) (as := [.inr (some 57), .inl _, .inl _, .inl _]) k169_123 rfl rfl (co_v rfl rfl (hM.1 57 (11, 30) rfl)) (by decide) (m163 hF1 (by omega) (by omega) (by have := hK.r; exact ⟨by omega, Int.mul_pos (by omega) (by omega)⟩)) (fun r_123 h_123 hq => ?_)
                obtain ⟨I_1, rfl, rs⟩ := hq
                refine w_iload (pc' := 127) k169_126 rfl rfl ?_
                refine w_aload (pc' := 128) k169_127 rfl rfl ?_
                refine w_getI (pc' := 131) (ki := 21) (v := (if pA H E A ((a : Int) / H) b 0 then (1 : Int) else 0)) k169_128 rfl (hM.1 57 (11, 30) rfl) rfl rs.2.2.2.1 ?_
                refine w_if_eq (pc' := 134) k169_131 rfl (fun c_131 => ?_) (fun c_131 => ?_)
                · refine w_c1 (pc' := 139) k169_138 rfl ?_
                  have hz1 : ¬ pA H E A ((a : Int) / H) b 0 = true := by intro z; rw [if_pos z] at c_131; exact absurd c_131 (by decide)
                  refine w_iadd (pc' := 140) k169_139 rfl (by omega) ?_
                  refine w_istore (pc' := 141) (ls' := [_, _, _, _, _, _, _, _, _]) k169_140 rfl rfl rfl ?_
                  refine w_iinc (pc' := 144) (ls' := [_, _, _, _, _, _, _, _, _]) k169_141 rfl rfl (by omega) rfl ?_
                  refine w_goto k169_144 ?_
                  exact ih (b + 1) _ _ _ _ _ _ _ (by omega) (by omega) ⟨(by rw [hNN, hsS_s, ← h1]; unfold fW; rw [if_neg c_49, if_pos (by omega)]), (by rw [hNN, h2, if_pos c_114, if_pos c_114, hsS_s]; unfold fA; rw [if_neg c_49, if_neg hz1]), h3.add (a := (a : Int)) (b := (b : Int)) hw (fun x y => by rw [hNN]; exact hPr_s (by omega) (by omega) x y) (by split <;> omega) (by split <;> omega), (h4.tr ⟨rs.1, rs.2.1⟩)⟩
                · refine w_c1 (pc' := 135) k169_134 rfl ?_
                  refine w_goto k169_135 ?_
                  have hz1 : pA H E A ((a : Int) / H) b 0 = true := by exact Decidable.byContradiction (fun z => by rw [if_neg z] at c_131; exact absurd _root_.rfl c_131)
                  refine w_iadd (pc' := 140) k169_139 rfl (by omega) ?_
                  refine w_istore (pc' := 141) (ls' := [_, _, _, _, _, _, _, _, _]) k169_140 rfl rfl rfl ?_
                  refine w_iinc (pc' := 144) (ls' := [_, _, _, _, _, _, _, _, _]) k169_141 rfl rfl (by omega) rfl ?_
                  refine w_goto k169_144 ?_
                  exact ih (b + 1) _ _ _ _ _ _ _ (by omega) (by omega) ⟨(by rw [hNN, hsS_s, ← h1]; unfold fW; rw [if_neg c_49, if_pos (by omega)]), (by rw [hNN, h2, if_pos c_114, if_pos c_114, hsS_s]; unfold fA; rw [if_neg c_49, if_pos hz1]), h3.add (a := (a : Int)) (b := (b : Int)) hw (fun x y => by rw [hNN]; exact hPr_s (by omega) (by omega) x y) (by split <;> omega) (by split <;> omega), (h4.tr ⟨rs.1, rs.2.1⟩)⟩
            · refine w_iload (pc' := 105) k169_103 rfl rfl ?_
              refine w_goto k169_105 ?_
              refine w_istore (pc' := 112) (ls' := [_, _, _, _, _, _, _, _, _]) k169_110 rfl rfl rfl ?_
              refine w_iload (pc' := 113) k169_112 rfl rfl ?_
              refine w_c1 (pc' := 114) k169_113 rfl ?_
              refine w_ic_ne (pc' := 117) k169_114 rfl (fun c_114 => ?_) (fun c_114 => ?_)
              · refine w_iinc (pc' := 144) (ls' := [_, _, _, _, _, _, _, _, _]) k169_141 rfl rfl (by omega) rfl ?_
                refine w_goto k169_144 ?_
                exact ih (b + 1) _ _ _ _ _ _ _ (by omega) (by omega) ⟨(by rw [hNN, hsS_s, ← h1]; unfold fW; rw [if_neg c_49, if_pos (by omega)]), (by rw [hNN, h2, if_neg c_114, if_neg c_114]), h3.add (a := (a : Int)) (b := (b : Int)) hw (fun x y => by rw [hNN]; exact hPr_s (by omega) (by omega) x y) (by split <;> omega) (by split <;> omega), h4⟩
              · refine w_aload (pc' := 118) k169_117 rfl rfl ?_
                refine w_iload (pc' := 120) k169_118 rfl rfl ?_
                refine w_iload (pc' := 122) k169_120 rfl rfl ?_
                refine w_c1 (pc' := 123) k169_122 rfl ?_
                refine w_callV (pc' := 126) (as := [.inr (some 57), .inl _, .inl _, .inl _]) k169_123 rfl rfl (co_v rfl rfl (hM.1 57 (11, 30) rfl)) (by decide) (m163 hF1 (by omega) (by omega) (by have := hK.r; exact ⟨by omega, Int.mul_pos (by omega) (by omega)⟩)) (fun r_123 h_123 hq => ?_)
                obtain ⟨I_1, rfl, rs⟩ := hq
                refine w_iload (pc' := 127) k169_126 rfl rfl ?_
                refine w_aload (pc' := 128) k169_127 rfl rfl ?_
                refine w_getI (pc' := 131) (ki := 21) (v := (if pA H E A ((a : Int) / H) b 0 then (1 : Int) else 0)) k169_128 rfl (hM.1 57 (11, 30) rfl) rfl rs.2.2.2.1 ?_
                refine w_if_eq (pc' := 134) k169_131 rfl (fun c_131 => ?_) (fun c_131 => ?_)
                · refine w_c1 (pc' := 139) k169_138 rfl ?_
                  have hz1 : ¬ pA H E A ((a : Int) / H) b 0 = true := by intro z; rw [if_pos z] at c_131; exact absurd c_131 (by decide)
                  refine w_iadd (pc' := 140) k169_139 rfl (by omega) ?_
                  refine w_istore (pc' := 141) (ls' := [_, _, _, _, _, _, _, _, _]) k169_140 rfl rfl rfl ?_
                  refine w_iinc (pc' := 144) (ls' := [_, _, _, _, _, _, _, _, _]) k169_141 rfl rfl (by omega) rfl ?_
                  refine w_goto k169_144 ?_
                  exact ih (b + 1) _ _ _ _ _ _ _ (by omega) (by omega) ⟨(by rw [hNN, hsS_s, ← h1]; unfold fW; rw [if_neg c_49, if_pos (by omega)]), (by rw [hNN, h2, if_pos c_114, if_pos c_114, hsS_s]; unfold fA; rw [if_neg c_49, if_neg hz1]), h3.add (a := (a : Int)) (b := (b : Int)) hw (fun x y => by rw [hNN]; exact hPr_s (by omega) (by omega) x y) (by split <;> omega) (by split <;> omega), (h4.tr ⟨rs.1, rs.2.1⟩)⟩
                · refine w_c1 (pc' := 135) k169_134 rfl ?_
                  refine w_goto k169_135 ?_
                  have hz1 : pA H E A ((a : Int) / H) b 0 = true := by exact Decidable.byContradiction (fun z => by rw [if_neg z] at c_131; exact absurd _root_.rfl c_131)
                  refine w_iadd (pc' := 140) k169_139 rfl (by omega) ?_
                  refine w_istore (pc' := 141) (ls' := [_, _, _, _, _, _, _, _, _]) k169_140 rfl rfl rfl ?_
                  refine w_iinc (pc' := 144) (ls' := [_, _, _, _, _, _, _, _, _]) k169_141 rfl rfl (by omega) rfl ?_
                  refine w_goto k169_144 ?_
                  exact ih (b + 1) _ _ _ _ _ _ _ (by omega) (by omega) ⟨(by rw [hNN, hsS_s, ← h1]; unfold fW; rw [if_neg c_49, if_pos (by omega)]), (by rw [hNN, h2, if_pos c_114, if_pos c_114, hsS_s]; unfold fA; rw [if_neg c_49, if_pos hz1]), h3.add (a := (a : Int)) (b := (b : Int)) hw (fun x y => by rw [hNN]; exact hPr_s (by omega) (by omega) x y) (by split <;> omega) (by split <;> omega), (h4.tr ⟨rs.1, rs.2.1⟩)⟩
          · refine w_iload (pc' := 89) k169_87 rfl rfl ?_
            refine w_goto k169_89 ?_
            refine w_istore (pc' := 96) (ls' := [_, _, _, _, _, _, _, _, _]) k169_94 rfl rfl rfl ?_
            refine w_iload (pc' := 98) k169_96 rfl rfl ?_
            refine w_iload (pc' := 100) k169_98 rfl rfl ?_
            refine w_ic_le (pc' := 103) k169_100 rfl (fun c_100 => ?_) (fun c_100 => ?_)
            · refine w_iload (pc' := 110) k169_108 rfl rfl ?_
              refine w_istore (pc' := 112) (ls' := [_, _, _, _, _, _, _, _, _]) k169_110 rfl rfl rfl ?_
              refine w_iload (pc' := 113) k169_112 rfl rfl ?_
              refine w_c1 (pc' := 114) k169_113 rfl ?_
              refine w_ic_ne (pc' := 117) k169_114 rfl (fun c_114 => ?_) (fun c_114 => ?_)
              · refine w_iinc (pc' := 144) (ls' := [_, _, _, _, _, _, _, _, _]) k169_141 rfl rfl (by omega) rfl ?_
                refine w_goto k169_144 ?_
                exact ih (b + 1) _ _ _ _ _ _ _ (by omega) (by omega) ⟨(by rw [hNN, hsS_s, ← h1]; unfold fW; rw [if_neg c_49, if_pos (by omega)]), (by rw [hNN, h2, if_neg c_114, if_neg c_114]), h3.add (a := (a : Int)) (b := (b : Int)) hw (fun x y => by rw [hNN]; exact hPr_s (by omega) (by omega) x y) (by split <;> omega) (by split <;> omega), h4⟩
              · refine w_aload (pc' := 118) k169_117 rfl rfl ?_
                refine w_iload (pc' := 120) k169_118 rfl rfl ?_
                refine w_iload (pc' := 122) k169_120 rfl rfl ?_
                refine w_c1 (pc' := 123) k169_122 rfl ?_
                refine w_callV (pc' := 126) (as := [.inr (some 57), .inl _, .inl _, .inl _]) k169_123 rfl rfl (co_v rfl rfl (hM.1 57 (11, 30) rfl)) (by decide) (m163 hF1 (by omega) (by omega) (by have := hK.r; exact ⟨by omega, Int.mul_pos (by omega) (by omega)⟩)) (fun r_123 h_123 hq => ?_)
                obtain ⟨I_1, rfl, rs⟩ := hq
                refine w_iload (pc' := 127) k169_126 rfl rfl ?_
                refine w_aload (pc' := 128) k169_127 rfl rfl ?_
                refine w_getI (pc' := 131) (ki := 21) (v := (if pA H E A ((a : Int) / H) b 0 then (1 : Int) else 0)) k169_128 rfl (hM.1 57 (11, 30) rfl) rfl rs.2.2.2.1 ?_
                refine w_if_eq (pc' := 134) k169_131 rfl (fun c_131 => ?_) (fun c_131 => ?_)
                · refine w_c1 (pc' := 139) k169_138 rfl ?_
                  have hz1 : ¬ pA H E A ((a : Int) / H) b 0 = true := by intro z; rw [if_pos z] at c_131; exact absurd c_131 (by decide)
                  refine w_iadd (pc' := 140) k169_139 rfl (by omega) ?_
                  refine w_istore (pc' := 141) (ls' := [_, _, _, _, _, _, _, _, _]) k169_140 rfl rfl rfl ?_
                  refine w_iinc (pc' := 144) (ls' := [_, _, _, _, _, _, _, _, _]) k169_141 rfl rfl (by omega) rfl ?_
                  refine w_goto k169_144 ?_
                  exact ih (b + 1) _ _ _ _ _ _ _ (by omega) (by omega) ⟨(by rw [hNN, hsS_s, ← h1]; unfold fW; rw [if_neg c_49, if_pos (by omega)]), (by rw [hNN, h2, if_pos c_114, if_pos c_114, hsS_s]; unfold fA; rw [if_neg c_49, if_neg hz1]), h3.add (a := (a : Int)) (b := (b : Int)) hw (fun x y => by rw [hNN]; exact hPr_s (by omega) (by omega) x y) (by split <;> omega) (by split <;> omega), (h4.tr ⟨rs.1, rs.2.1⟩)⟩
                · refine w_c1 (pc' := 135) k169_134 rfl ?_
                  refine w_goto k169_135 ?_
                  have hz1 : pA H E A ((a : Int) / H) b 0 = true := by exact Decidable.byContradiction (fun z => by rw [if_neg z] at c_131; exact absurd _root_.rfl c_131)
                  refine w_iadd (pc' := 140) k169_139 rfl (by omega) ?_
                  refine w_istore (pc' := 141) (ls' := [_, _, _, _, _, _, _, _, _]) k169_140 rfl rfl rfl ?_
                  refine w_iinc (pc' := 144) (ls' := [_, _, _, _, _, _, _, _, _]) k169_141 rfl rfl (by omega) rfl ?_
                  refine w_goto k169_144 ?_
                  exact ih (b + 1) _ _ _ _ _ _ _ (by omega) (by omega) ⟨(by rw [hNN, hsS_s, ← h1]; unfold fW; rw [if_neg c_49, if_pos (by omega)]), (by rw [hNN, h2, if_pos c_114, if_pos c_114, hsS_s]; unfold fA; rw [if_neg c_49, if_pos hz1]), h3.add (a := (a : Int)) (b := (b : Int)) hw (fun x y => by rw [hNN]; exact hPr_s (by omega) (by omega) x y) (by split <;> omega) (by split <;> omega), (h4.tr ⟨rs.1, rs.2.1⟩)⟩
            · refine w_iload (pc' := 105) k169_103 rfl rfl ?_
              refine w_goto k169_105 ?_
              refine w_istore (pc' := 112) (ls' := [_, _, _, _, _, _, _, _, _]) k169_110 rfl rfl rfl ?_
              refine w_iload (pc' := 113) k169_112 rfl rfl ?_
              refine w_c1 (pc' := 114) k169_113 rfl ?_
              refine w_ic_ne (pc' := 117) k169_114 rfl (fun c_114 => ?_) (fun c_114 => ?_)
              · refine w_iinc (pc' := 144) (ls' := [_, _, _, _, _, _, _, _, _]) k169_141 rfl rfl (by omega) rfl ?_
                refine w_goto k169_144 ?_
                exact ih (b + 1) _ _ _ _ _ _ _ (by omega) (by omega) ⟨(by rw [hNN, hsS_s, ← h1]; unfold fW; rw [if_neg c_49, if_pos (by omega)]), (by rw [hNN, h2, if_neg c_114, if_neg c_114]), h3.add (a := (a : Int)) (b := (b : Int)) hw (fun x y => by rw [hNN]; exact hPr_s (by omega) (by omega) x y) (by split <;> omega) (by split <;> omega), h4⟩
              · refine w_aload (pc' := 118) k169_117 rfl rfl ?_
                refine w_iload (pc' := 120) k169_118 rfl rfl ?_
                refine w_iload (pc' := 122) k169_120 rfl rfl ?_
                refine w_c1 (pc' := 123) k169_122 rfl ?_
                refine w_callV (pc' := 126) (as := [.inr (some 57), .inl _, .inl _, .inl _]) k169_123 rfl rfl (co_v rfl rfl (hM.1 57 (11, 30) rfl)) (by decide) (m163 hF1 (by omega) (by omega) (by have := hK.r; exact ⟨by omega, Int.mul_pos (by omega) (by omega)⟩)) (fun r_123 h_123 hq => ?_)
                obtain ⟨I_1, rfl, rs⟩ := hq
                refine w_iload (pc' := 127) k169_126 rfl rfl ?_
                refine w_aload (pc' := 128) k169_127 rfl rfl ?_
                refine w_getI (pc' := 131) (ki := 21) (v := (if pA H E A ((a : Int) / H) b 0 then (1 : Int) else 0)) k169_128 rfl (hM.1 57 (11, 30) rfl) rfl rs.2.2.2.1 ?_
                refine w_if_eq (pc' := 134) k169_131 rfl (fun c_131 => ?_) (fun c_131 => ?_)
                · refine w_c1 (pc' := 139) k169_138 rfl ?_
                  have hz1 : ¬ pA H E A ((a : Int) / H) b 0 = true := by intro z; rw [if_pos z] at c_131; exact absurd c_131 (by decide)
                  refine w_iadd (pc' := 140) k169_139 rfl (by omega) ?_
                  refine w_istore (pc' := 141) (ls' := [_, _, _, _, _, _, _, _, _]) k169_140 rfl rfl rfl ?_
                  refine w_iinc (pc' := 144) (ls' := [_, _, _, _, _, _, _, _, _]) k169_141 rfl rfl (by omega) rfl ?_
                  refine w_goto k169_144 ?_
                  exact ih (b + 1) _ _ _ _ _ _ _ (by omega) (by omega) ⟨(by rw [hNN, hsS_s, ← h1]; unfold fW; rw [if_neg c_49, if_pos (by omega)]), (by rw [hNN, h2, if_pos c_114, if_pos c_114, hsS_s]; unfold fA; rw [if_neg c_49, if_neg hz1]), h3.add (a := (a : Int)) (b := (b : Int)) hw (fun x y => by rw [hNN]; exact hPr_s (by omega) (by omega) x y) (by split <;> omega) (by split <;> omega), (h4.tr ⟨rs.1, rs.2.1⟩)⟩
                · refine w_c1 (pc' := 135) k169_134 rfl ?_
                  refine w_goto k169_135 ?_
                  have hz1 : pA H E A ((a : Int) / H) b 0 = true := by exact Decidable.byContradiction (fun z => by rw [if_neg z] at c_131; exact absurd _root_.rfl c_131)
                  refine w_iadd (pc' := 140) k169_139 rfl (by omega) ?_
                  refine w_istore (pc' := 141) (ls' := [_, _, _, _, _, _, _, _, _]) k169_140 rfl rfl rfl ?_
                  refine w_iinc (pc' := 144) (ls' := [_, _, _, _, _, _, _, _, _]) k169_141 rfl rfl (by omega) rfl ?_
                  refine w_goto k169_144 ?_
                  exact ih (b + 1) _ _ _ _ _ _ _ (by omega) (by omega) ⟨(by rw [hNN, hsS_s, ← h1]; unfold fW; rw [if_neg c_49, if_pos (by omega)]), (by rw [hNN, h2, if_pos c_114, if_pos c_114, hsS_s]; unfold fA; rw [if_neg c_49, if_pos hz1]), h3.add (a := (a : Int)) (b := (b : Int)) hw (fun x y => by rw [hNN]; exact hPr_s (by omega) (by omega) x y) (by split <;> omega) (by split <;> omega), (h4.tr ⟨rs.1, rs.2.1⟩)⟩
theorem m169o (hF : MF sh R I K H E HO S L B A) {t : Int} (ht : 0 ≤ t ∧ t ≤ 3) {N : Nat} (hN : HO = (N : Int)) : ∀ (k a : Nat) (I1 : Nat → Int → Int) (w c l m j : Int) (v7 v8 : VV), a + k = N → j = (a : Int) → PIv I I1 H E HO A t a 0 w c l m → WP X (d + 6) 169 24 [.inr (some 57), .inl t, .inl w, .inl c, .inl l, .inl m, .inl j, v7, v8] [] (sh, R, I1) 0 0 (fun r h' => ∃ v, r = .inl v ∧ pairR H E HO A t v ∧ ∃ I', h' = (sh, R, I') ∧ SC I I') := by
  have hF0 := hF
  obtain ⟨hM, hK, hpo, hha, hms, hab, hB⟩ := hF
  have hr := hK.r
  have hNN : HO.toNat = N := by omega
  intro k
  induction k with
  | zero =>
    rintro a I1 w c l m j v7 v8 hk rfl hP
    have hF1 := hP.2.2.2.mf hF0
    have e : a = N := by omega
    subst e
    refine w_iload (pc' := 26) k169_24 rfl rfl ?_
    refine w_aload (pc' := 27) k169_26 rfl rfl ?_
    refine w_callE (pc' := 30) (as := [.inr (some 57)]) k169_27 rfl rfl (co_v rfl rfl (hM.1 57 (11, 30) rfl)) (by decide) (m129 hF1) ?_
    refine w_ic_ge (pc' := 33) k169_30 rfl (fun c_30 => ?_) (fun c_30 => absurd c_30 (by omega))
    exact m169f hF0 ht (hNN ▸ hP)
  | succ k ih =>
    rintro a I1 w c l m j v7 v8 hk rfl hP
    have hF1 := hP.2.2.2.mf hF0
    refine w_iload (pc' := 26) k169_24 rfl rfl ?_
    refine w_aload (pc' := 27) k169_26 rfl rfl ?_
    refine w_callE (pc' := 30) (as := [.inr (some 57)]) k169_27 rfl rfl (co_v rfl rfl (hM.1 57 (11, 30) rfl)) (by decide) (m129 hF1) ?_
    refine w_ic_ge (pc' := 33) k169_30 rfl (fun c_30 => absurd c_30 (by omega)) (fun c_30 => ?_)
    refine w_c1 (pc' := 34) k169_33 rfl ?_
    refine w_istore (pc' := 36) (ls' := [_, _, _, _, _, _, _, _, _]) k169_34 rfl rfl rfl ?_
    refine m169i hF0 ht hN (by omega) (fun I2 w2 c2 l2 m2 v7 v8 hP2 => ?_) N 0 _ _ _ _ _ _ _ (by omega) rfl hP
    refine w_iinc (pc' := 150) (ls' := [_, _, _, _, _, _, _, _, _]) k169_147 rfl rfl (by omega) rfl ?_
    refine w_goto k169_150 ?_
    refine ih (a + 1) _ _ _ _ _ _ _ _ (by omega) (by omega) ⟨?_, ?_, hP2.2.2.1.ext (fun x y => ?_), hP2.2.2.2⟩
    · rw [hP2.1, hsS_r, hNN]
    · rw [hP2.2.1, hsS_r, hNN]
    · rw [hNN]; exact (hPr_r x y).symm
theorem m169 (hF : MF sh R I K H E HO S L B A) {t : Int} : QMP X (d + 6) 169 [.inr (some 57), .inl t] sh R I (pairR H E HO A t) := by
  have hF0 := hF
  obtain ⟨hM, hK, hpo, hha, hms, hab, hB⟩ := hF
  have hr := hK.r
  show WP X (d + 6) 169 0 [.inr (some 57), .inl t, .inr none, .inr none, .inr none, .inr none, .inr none, .inr none, .inr none] [] (sh, R, I) 0 0 _
  refine w_iload (pc' := 1) k169_0 rfl rfl ?_
  refine w_c1 (pc' := 2) k169_1 rfl ?_
  refine w_c1 (pc' := 3) k169_2 rfl ?_
  refine w_callB (pc' := 6) (as := [.inl _, .inl _, .inl _]) k169_3 rfl rfl (co_s (Or.inl rfl) rfl rfl rfl) (by decide) (m117) (fun q_3 => ?_) (fun q_3 => ?_)
  · refine w_if_ne (pc' := 9) k169_6 rfl (fun _ => ?_) (fun c_6 => absurd c_6 (by decide))
    refine w_c1 (pc' := 12) k169_11 rfl ?_
    refine w_istore (pc' := 13) (ls' := [_, _, _, _, _, _, _, _, _]) k169_12 rfl rfl rfl ?_
    refine w_c1 (pc' := 14) k169_13 rfl ?_
    refine w_istore (pc' := 15) (ls' := [_, _, _, _, _, _, _, _, _]) k169_14 rfl rfl rfl ?_
    refine w_c1 (pc' := 16) k169_15 rfl ?_
    refine w_istore (pc' := 18) (ls' := [_, _, _, _, _, _, _, _, _]) k169_16 rfl rfl rfl ?_
    refine w_c1 (pc' := 19) k169_18 rfl ?_
    refine w_istore (pc' := 21) (ls' := [_, _, _, _, _, _, _, _, _]) k169_19 rfl rfl rfl ?_
    refine w_c1 (pc' := 22) k169_21 rfl ?_
    refine w_istore (pc' := 24) (ls' := [_, _, _, _, _, _, _, _, _]) k169_22 rfl rfl rfl ?_
    refine m169o hF0 q_3 (N := HO.toNat) (by omega) HO.toNat 0 _ _ _ _ _ _ _ _ (by omega) rfl ⟨rfl, ?_, ⟨-4, -4, Or.inl ⟨rfl, rfl, fun x y => ?_⟩, by decide, by decide⟩, SC.rfl⟩
    · split <;> rfl
    · unfold hPr; omega
  · refine w_if_ne (pc' := 9) k169_6 rfl (fun c_6 => absurd c_6 (by decide)) (fun _ => ?_)
    refine w_c1 (pc' := 10) k169_9 rfl ?_
    exact w_reti k169_10 ⟨_, rfl, Or.inr (Or.inr (Or.inr (Or.inr ⟨by omega, rfl⟩))), _, rfl, SC.rfl⟩
end M74
