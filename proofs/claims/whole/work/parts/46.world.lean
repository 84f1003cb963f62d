/-! ===== CLASS: the whole world, and its changes ===== -/
/-- the class's world: now A, last A1, before last A2, of which u may be undone; the text written -/
def CG (sh : List (Nat × Nat)) (R : Nat → Nat → Option Nat) (I : Nat → Int → Int) (K H E HO S L B : Int) (ρ γ : Nat → Nat) (M : Nat) (A A1 A2 : AS) (u : Int) (tx : Int → Int) (len : Int) : Prop :=
  LC sh R ∧ KP K H E HO S L ∧ SP I K H E HO S L ∧ (∀ k, 7 ≤ k → k ≤ 10 → isS (ρ k) ∧ R 0 k = some (ρ k)) ∧ (∀ i j, 7 ≤ i → i ≤ 10 → 7 ≤ j → j ≤ 10 → ρ i = ρ j → i = j) ∧ (∀ s, isS s → R s 6 = some (γ s) ∧ sh[γ s]? = some (0, M) ∧ (53 ≤ γ s ∧ (γ s < 57 ∨ 77 < γ s)) ∧ I s 7 = L ∧ I s 8 = S) ∧ (∀ s t, isS s → isS t → γ s = γ t → s = t) ∧ M ≤ 4860 ∧ L * S ≤ M ∧ B ≤ 1000000 ∧ (CS I (ρ 7) (γ (ρ 7)) S L A ∧ AB H HO S L B A) ∧ (1 ≤ u → CS I (ρ 8) (γ (ρ 8)) S L A1 ∧ AB H HO S L B A1) ∧ (2 ≤ u → CS I (ρ 9) (γ (ρ 9)) S L A2 ∧ AB H HO S L B A2) ∧ ((0 ≤ u ∧ u ≤ 2) ∧ I 0 11 = u) ∧ TX I tx len
section C46
variable {X : Nat × (Int → Int)} {d : Nat} {sh : List (Nat × Nat)} {R : Nat → Nat → Option Nat} {I : Nat → Int → Int} {K H E HO S L B : Int} {ρ γ : Nat → Nat} {M : Nat} {A A1 A2 : AS} {u : Int} {tx : Int → Int} {len : Int}
theorem CG.cf (hG : CG sh R I K H E HO S L B ρ γ M A A1 A2 u tx len) : CF sh R I K H E HO S L B (ρ 7) (γ (ρ 7)) M A := by
  obtain ⟨hL, hK, hsp, hro, hri, hga, hgi, hM, hLS, hB, ⟨hcs, hab⟩, -⟩ := hG
  have h7 := (hro 7 (by decide) (by decide)).1
  exact ⟨hL, hK, hsp, h7, (hga _ h7).1, (hga _ h7).2.1, (hga _ h7).2.2.1.1, hM, hLS, hcs, hab, hB⟩
theorem upR_s {R : Nat → Nat → Option Nat} {a : Nat} {f : Nat → Option Nat} : upR R a f a = f := if_pos rfl
theorem upR_n {R : Nat → Nat → Option Nat} {a b : Nat} {f : Nat → Option Nat} (h : b ≠ a) : upR R a f b = R b := if_neg h
theorem upK_s {f : Nat → Option Nat} {k : Nat} {v : Option Nat} : upK f k v k = v := if_pos rfl
theorem upK_n {f : Nat → Option Nat} {k j : Nat} {v : Option Nat} (h : j ≠ k) : upK f k v j = f j := if_neg h
theorem LC.mod {R' : Nat → Nat → Option Nat} (hL : LC sh R) (h : ∀ a k, rC a k ≠ none → R' a k = R a k) : LC sh R' := ⟨hL.1, fun a k v q => by rw [h a k (by rw [q]; exact Option.some_ne_none v)]; exact hL.2 a k v q⟩
theorem LC.lt {s : Nat} (hL : LC sh R) (h : isS s) : s < sh.length := by
  have := hL.s0 h
  exact (List.getElem?_eq_some_iff.mp this).1
theorem isS.r {s : Nat} (h : isS s) : 25 ≤ s ∧ s ≤ 46 := by rcases h with rfl | rfl | rfl | rfl <;> omega
theorem CG.upd (hG : CG sh R I K H E HO S L B ρ γ M A A1 A2 u tx len) {I' : Nat → Int → Int} {A' : AS} {B' : Int} {tx' : Int → Int} {len' : Int} (hf : ∀ a, a ≠ 1 → a ≠ 2 → (a < 12 ∨ 24 < a) → (a < ρ 7 ∨ ρ 7 + 5 < a) → a ≠ γ (ρ 7) → (a < ρ 10 ∨ ρ 10 + 5 < a) → a ≠ γ (ρ 10) → I' a = I a) (h7 : CS I' (ρ 7) (γ (ρ 7)) S L A') (hab' : AB H HO S L B' A') (hB' : B ≤ B' ∧ B' ≤ 1000000) (h10 : I' (ρ 10) 7 = L ∧ I' (ρ 10) 8 = S) (htx' : TX I' tx' len') : CG sh R I' K H E HO S L B' ρ γ M A' A1 A2 u tx' len' := by
  obtain ⟨hL, hK, hsp, hro, hri, hga, hgi, hM, hLS, hB, ⟨hcs, hab⟩, hc1, hc2, ⟨hu, hu0⟩, htx⟩ := hG
  have i7 := (hro 7 (by decide) (by decide)).1
  have i8 := (hro 8 (by decide) (by decide)).1
  have i9 := (hro 9 (by decide) (by decide)).1
  have i10 := (hro 10 (by decide) (by decide)).1
  have r7 := i7.r
  have r10 := i10.r
  have g7 := (hga _ i7).2.2.1
  have g10 := (hga _ i10).2.2.1
  have kp : ∀ s, isS s → s ≠ ρ 7 → s ≠ ρ 10 → ∀ a, (s ≤ a ∧ a ≤ s + 5) ∨ a = γ s → I' a = I a := by
    intro s h1 h2 h3 a h4
    have q1 := h1.apart i7 h2
    have q2 := h1.apart i10 h3
    have q3 := (hga s h1).2.2.1
    refine hf a (by omega) (by omega) (by omega) (by omega) ?_ (by omega) ?_
    · intro e
      rcases h4 with h4 | h4
      · omega
      · exact h2 (hgi _ _ h1 i7 (h4.symm.trans e))
    · intro e
      rcases h4 with h4 | h4
      · omega
      · exact h3 (hgi _ _ h1 i10 (h4.symm.trans e))
  have n87 : ρ 8 ≠ ρ 7 := fun e => absurd (hri 8 7 (by decide) (by decide) (by decide) (by decide) e) (by decide)
  have n810 : ρ 8 ≠ ρ 10 := fun e => absurd (hri 8 10 (by decide) (by decide) (by decide) (by decide) e) (by decide)
  have n97 : ρ 9 ≠ ρ 7 := fun e => absurd (hri 9 7 (by decide) (by decide) (by decide) (by decide) e) (by decide)
  have n910 : ρ 9 ≠ ρ 10 := fun e => absurd (hri 9 10 (by decide) (by decide) (by decide) (by decide) e) (by decide)
  refine ⟨hL, hK, hsp.keep (fun a q1 q2 => hf a (by omega) (by omega) (by omega) (by omega) (by omega) (by omega) (by omega)), hro, hri, fun s hs => ⟨(hga s hs).1, (hga s hs).2.1, (hga s hs).2.2.1, ?_⟩, hgi, hM, hLS, hB'.2, ⟨h7, hab'⟩, fun q => ⟨(hc1 q).1.keep (kp _ i8 n87 n810), (hc1 q).2.mono hB'.1⟩, fun q => ⟨(hc2 q).1.keep (kp _ i9 n97 n910), (hc2 q).2.mono hB'.1⟩, ⟨hu, ?_⟩, htx'⟩
  · by_cases e7 : s = ρ 7
    · rw [e7]; exact ⟨h7.2.1, h7.2.2.1⟩
    · by_cases e10 : s = ρ 10
      · rw [e10]; exact h10
      · rw [kp s hs e7 e10 s (Or.inl ⟨by omega, by omega⟩)]; exact (hga s hs).2.2.2
  · rw [hf 0 (by omega) (by omega) (by omega) (by omega) (by omega) (by omega) (by omega)]; exact hu0
/-- a question changes nothing of it -/
theorem CG.scr (hG : CG sh R I K H E HO S L B ρ γ M A A1 A2 u tx len) {I' : Nat → Int → Int} (hf : ∀ a, a < 12 ∨ 24 < a → I' a = I a) : CG sh R I' K H E HO S L B ρ γ M A A1 A2 u tx len := by
  have hF := hG.cf
  have h := hG
  obtain ⟨hL, hK, hsp, hro, hri, hga, hgi, hM, hLS, hB, ⟨hcs, hab⟩, hc1, hc2, ⟨hu, hu0⟩, htx⟩ := h
  have i7 := (hro 7 (by decide) (by decide)).1
  have i10 := (hro 10 (by decide) (by decide)).1
  have r7 := i7.r
  have r10 := i10.r
  have g7 := (hga _ i7).2.2.1
  refine hG.upd (fun a _ _ q _ _ _ _ => hf a q) (hcs.keep (fun a q => hf a (by omega))) hab ⟨Int.le_refl _, hB⟩ (by rw [hf (ρ 10) (by omega)]; exact (hga _ i10).2.2.2) ?_
  unfold TX at htx ⊢
  rw [hf 1 (by omega), hf 2 (by omega)]; exact htx
theorem m107 (hG : CG sh R I K H E HO S L B ρ γ M A A1 A2 u tx len)  : WPM X (d + 2) 107 [.inr (some 0)] (sh, R, I) 0 0 (fun _ h' => ∃ I', h' = (sh, R, I') ∧ OnlyS I I' (ρ 10) (γ (ρ 10)) ∧ CS I' (ρ 10) (γ (ρ 10)) S L A) := by
  have hG0 := hG
  have hF0 := hG.cf
  obtain ⟨hL, hK, hsp, hro, hri, hga, hgi, hM, hLS, hB, ⟨hcs, hab⟩, hc1, hc2, ⟨hu, hu0⟩, htx⟩ := hG
  obtain ⟨h_r7, t7⟩ := hro 7 (by decide) (by decide)
  obtain ⟨h_r8, t8⟩ := hro 8 (by decide) (by decide)
  obtain ⟨h_r9, t9⟩ := hro 9 (by decide) (by decide)
  obtain ⟨h_r10, t10⟩ := hro 10 (by decide) (by decide)
  obtain ⟨m_r7, n_r7, g_r7, -⟩ := hga _ h_r7
  obtain ⟨m_r10, n_r10, g_r10, hp7, hp8⟩ := hga _ h_r10
  have n710 : ρ 7 ≠ ρ 10 := fun e => absurd (hri 7 10 (by decide) (by decide) (by decide) (by decide) e) (by decide)
  show WP X (d + 2) 107 0 [.inr (some 0)] [] (sh, R, I) 0 0 _
  refine w_aload (pc' := 1) k107_0 rfl rfl ?_
  refine w_getR (pc' := 4) (v := (ρ 10)) k107_1 rfl (hL.1 0 (10, 12) rfl) t10 ?_
  refine w_aload (pc' := 5) k107_4 rfl rfl ?_
  refine w_getR (pc' := 8) (v := (ρ 7)) k107_5 rfl (hL.1 0 (10, 12) rfl) t7 ?_
  refine w_callV (pc' := 11) (as := [.inr (some (ρ 10)), .inr (some (ρ 7))]) k107_8 rfl rfl (co_v rfl rfl (hL.s0 h_r10)) (by decide) (m48 hF0 h_r10 n710 m_r10 n_r10 hLS ⟨g_r10.1, fun e => n710 (hgi _ _ h_r10 h_r7 e).symm⟩ hp7 hp8) (fun r_8 h_8 hq => ?_)
  obtain ⟨I_1, rfl, o1, o2⟩ := hq
  exact w_retv k107_11 ⟨_, rfl, o1, o2⟩
/-- kept for undo: the world stays, the spare holds what is now -/
theorem CG.kept (hG : CG sh R I K H E HO S L B ρ γ M A A1 A2 u tx len) {I' : Nat → Int → Int} (h1 : OnlyS I I' (ρ 10) (γ (ρ 10))) (h2 : CS I' (ρ 10) (γ (ρ 10)) S L A) : CG sh R I' K H E HO S L B ρ γ M A A1 A2 u tx len := by
  have h := hG
  obtain ⟨hL, hK, hsp, hro, hri, hga, hgi, hM, hLS, hB, ⟨hcs, hab⟩, hc1, hc2, ⟨hu, hu0⟩, htx⟩ := h
  have i7 := (hro 7 (by decide) (by decide)).1
  have i10 := (hro 10 (by decide) (by decide)).1
  have n710 : ρ 7 ≠ ρ 10 := fun e => absurd (hri 7 10 (by decide) (by decide) (by decide) (by decide) e) (by decide)
  have q1 := i7.apart i10 n710
  have g7 := (hga _ i7).2.2.1
  have g10 := (hga _ i10).2.2.1
  refine hG.upd (fun a _ _ _ _ _ p q => h1 a p q) (hcs.keep (fun a q => h1 a (by omega) ?_)) hab ⟨Int.le_refl _, hB⟩ ⟨h2.2.1, h2.2.2.1⟩ ?_
  · intro e
    rcases q with q | q
    · omega
    · exact n710 (hgi _ _ i7 i10 (q.symm.trans e))
  · unfold TX at htx ⊢
    rw [h1 1 (by omega) (by omega), h1 2 (by omega) (by omega)]; exact htx
/-- now has changed, the rest stays -/
theorem CG.chg (hG : CG sh R I K H E HO S L B ρ γ M A A1 A2 u tx len) {I' : Nat → Int → Int} {A' : AS} {B' : Int} (h1 : ∀ a, (a < 12 ∨ 24 < a) → (a < ρ 7 ∨ ρ 7 + 5 < a) → a ≠ γ (ρ 7) → I' a = I a) (h2 : CS I' (ρ 7) (γ (ρ 7)) S L A') (h3 : AB H HO S L B' A') (hB' : B ≤ B' ∧ B' ≤ 1000000) {A0 : AS} (h0 : CS I (ρ 10) (γ (ρ 10)) S L A0) : CG sh R I' K H E HO S L B' ρ γ M A' A1 A2 u tx len ∧ CS I' (ρ 10) (γ (ρ 10)) S L A0 := by
  have h := hG
  obtain ⟨hL, hK, hsp, hro, hri, hga, hgi, hM, hLS, hB, ⟨hcs, hab⟩, hc1, hc2, ⟨hu, hu0⟩, htx⟩ := h
  have i7 := (hro 7 (by decide) (by decide)).1
  have i10 := (hro 10 (by decide) (by decide)).1
  have n710 : ρ 7 ≠ ρ 10 := fun e => absurd (hri 7 10 (by decide) (by decide) (by decide) (by decide) e) (by decide)
  have q1 := i7.apart i10 n710
  have g7 := (hga _ i7).2.2.1
  have g10 := (hga _ i10).2.2.1
  have k0 : CS I' (ρ 10) (γ (ρ 10)) S L A0 := h0.keep (fun a q => h1 a (by omega) (by omega) (fun e => by
    rcases q with q | q
    · omega
    · exact n710 (hgi _ _ i7 i10 (e.symm.trans q))))
  refine ⟨hG.upd (fun a _ _ p q r _ _ => h1 a p q r) h2 h3 hB' ⟨k0.2.1, k0.2.2.1⟩ ?_, k0⟩
  unfold TX at htx ⊢
  rw [h1 1 (by omega) (by omega) (by omega), h1 2 (by omega) (by omega) (by omega)]; exact htx
def rotC (ρ : Nat → Nat) : Nat → Nat := fun k => if k = 8 then ρ 10 else if k = 9 then ρ 8 else if k = 10 then ρ 9 else ρ k
def rotU (ρ : Nat → Nat) : Nat → Nat := fun k => if k = 7 then ρ 8 else if k = 8 then ρ 9 else if k = 9 then ρ 7 else ρ k
theorem rot_i {ρ σ : Nat → Nat} (h : ∀ i j, 7 ≤ i → i ≤ 10 → 7 ≤ j → j ≤ 10 → ρ i = ρ j → i = j) (q : ∀ k, 7 ≤ k → k ≤ 10 → 7 ≤ σ k ∧ σ k ≤ 10) (q2 : ∀ i j, 7 ≤ i → i ≤ 10 → 7 ≤ j → j ≤ 10 → σ i = σ j → i = j) : ∀ i j, 7 ≤ i → i ≤ 10 → 7 ≤ j → j ≤ 10 → ρ (σ i) = ρ (σ j) → i = j := fun i j a b c e f => q2 i j a b c e (h _ _ (q i a b).1 (q i a b).2 (q j c e).1 (q j c e).2 f)
theorem rotC_e {ρ : Nat → Nat} : rotC ρ = fun k => ρ (rotC id k) := by funext k; unfold rotC; simp only [id]; split; rfl; split; rfl; split <;> rfl
theorem rotU_e {ρ : Nat → Nat} : rotU ρ = fun k => ρ (rotU id k) := by funext k; unfold rotU; simp only [id]; split; rfl; split; rfl; split <;> rfl
theorem rotC_r {k : Nat} (h : 7 ≤ k) (h2 : k ≤ 10) : 7 ≤ rotC id k ∧ rotC id k ≤ 10 := by unfold rotC; simp only [id]; split; omega; split; omega; split <;> omega
theorem rotU_r {k : Nat} (h : 7 ≤ k) (h2 : k ≤ 10) : 7 ≤ rotU id k ∧ rotU id k ≤ 10 := by unfold rotU; simp only [id]; split; omega; split; omega; split <;> omega
theorem rotC_j {i j : Nat} (h : 7 ≤ i) (h2 : i ≤ 10) (h3 : 7 ≤ j) (h4 : j ≤ 10) (e : rotC id i = rotC id j) : i = j := by
  rcases (show i = 7 ∨ i = 8 ∨ i = 9 ∨ i = 10 by omega) with rfl | rfl | rfl | rfl <;> rcases (show j = 7 ∨ j = 8 ∨ j = 9 ∨ j = 10 by omega) with rfl | rfl | rfl | rfl <;> first | rfl | exact absurd e (by decide)
theorem rotU_j {i j : Nat} (h : 7 ≤ i) (h2 : i ≤ 10) (h3 : 7 ≤ j) (h4 : j ≤ 10) (e : rotU id i = rotU id j) : i = j := by
  rcases (show i = 7 ∨ i = 8 ∨ i = 9 ∨ i = 10 by omega) with rfl | rfl | rfl | rfl <;> rcases (show j = 7 ∨ j = 8 ∨ j = 9 ∨ j = 10 by omega) with rfl | rfl | rfl | rfl <;> first | rfl | exact absurd e (by decide)
/-- only the four states' names at the class object have changed -/
def RF (R R' : Nat → Nat → Option Nat) : Prop := ∀ a k, a ≠ 0 ∨ k < 7 → R' a k = R a k
theorem RF.lc {R' : Nat → Nat → Option Nat} (h : RF R R') (hL : LC sh R) : LC sh R' := hL.mod (fun a k q => h a k (by
  by_cases e : a = 0
  · subst e
    right
    rcases (show k < 7 ∨ 7 ≤ k by omega) with q2 | q2
    · exact q2
    · obtain ⟨j, rfl⟩ : ∃ j, k = 7 + j := ⟨k - 7, by omega⟩
      exact absurd (by unfold rC; simp) q
  · exact Or.inl e))
theorem m108 (hG : CG sh R I K H E HO S L B ρ γ M A A1 A2 u tx len) {A0 : AS} (h0 : CS I (ρ 10) (γ (ρ 10)) S L A0) (hab0 : AB H HO S L B A0) : WPM X (d + 1) 108 [.inr (some 0)] (sh, R, I) 0 0 (fun _ h' => ∃ R' I', h' = (sh, R', I') ∧ (∀ a, a ≠ 0 → I' a = I a) ∧ RF R R' ∧ CG sh R' I' K H E HO S L B (rotC ρ) γ M A A0 A1 (min 2 (u + 1)) tx len) := by
  have hG0 := hG
  have hF0 := hG.cf
  obtain ⟨hL, hK, hsp, hro, hri, hga, hgi, hM, hLS, hB, ⟨hcs, hab⟩, hc1, hc2, ⟨hu, hu0⟩, htx⟩ := hG
  obtain ⟨h_r7, t7⟩ := hro 7 (by decide) (by decide)
  obtain ⟨h_r8, t8⟩ := hro 8 (by decide) (by decide)
  obtain ⟨h_r9, t9⟩ := hro 9 (by decide) (by decide)
  obtain ⟨h_r10, t10⟩ := hro 10 (by decide) (by decide)
  obtain ⟨m_r7, n_r7, g_r7, -⟩ := hga _ h_r7
  obtain ⟨m_r10, n_r10, g_r10, hp7, hp8⟩ := hga _ h_r10
  show WP X (d + 1) 108 0 [.inr (some 0), .inr none] [] (sh, R, I) 0 0 _
  refine w_aload (pc' := 1) k108_0 rfl rfl ?_
  refine w_getR (pc' := 4) (v := (ρ 9)) k108_1 rfl (hL.1 0 (10, 12) rfl) t9 ?_
  refine w_astore (pc' := 5) (ls' := [_, _]) k108_4 rfl rfl rfl ?_
  refine w_aload (pc' := 6) k108_5 rfl rfl ?_
  refine w_aload (pc' := 7) k108_6 rfl rfl ?_
  refine w_getR (pc' := 10) (v := (ρ 8)) k108_7 rfl (hL.1 0 (10, 12) rfl) t8 ?_
  refine w_putR (pc' := 13) k108_10 rfl (hL.1 0 (10, 12) rfl) (by first | exact hL.lt h_r8 | exact hL.lt h_r9 | exact hL.lt h_r10 | omega) ?_
  refine w_aload (pc' := 14) k108_13 rfl rfl ?_
  refine w_aload (pc' := 15) k108_14 rfl rfl ?_
  refine w_getR (pc' := 18) (v := (ρ 10)) k108_15 rfl (hL.1 0 (10, 12) rfl) (by rw [upR_s, upK_n (by decide)]; exact t10) ?_
  refine w_putR (pc' := 21) k108_18 rfl (hL.1 0 (10, 12) rfl) (by first | exact hL.lt h_r8 | exact hL.lt h_r9 | exact hL.lt h_r10 | omega) ?_
  refine w_aload (pc' := 22) k108_21 rfl rfl ?_
  refine w_aload (pc' := 23) k108_22 rfl rfl ?_
  refine w_putR (pc' := 26) k108_23 rfl (hL.1 0 (10, 12) rfl) (by first | exact hL.lt h_r8 | exact hL.lt h_r9 | exact hL.lt h_r10 | omega) ?_
  refine w_aload (pc' := 27) k108_26 rfl rfl ?_
  refine w_c1 (pc' := 28) k108_27 rfl ?_
  refine w_aload (pc' := 29) k108_28 rfl rfl ?_
  refine w_getI (pc' := 32) (ki := 11) (v := u) k108_29 rfl (hL.1 0 (10, 12) rfl) rfl hu0 ?_
  refine w_c1 (pc' := 33) k108_32 rfl ?_
  refine w_iadd (pc' := 34) k108_33 rfl (by first | exact hL.lt h_r8 | exact hL.lt h_r9 | exact hL.lt h_r10 | omega) ?_
  refine w_mn (pc' := 37) k108_34 rfl rfl ?_
  refine w_putI (pc' := 40) (ki := 11) k108_37 rfl (hL.1 0 (10, 12) rfl) rfl ?_
  have hRF : RF R (upR (upR (upR R 0 (upK (R 0) 9 (some (ρ 8)))) 0 (upK (upR R 0 (upK (R 0) 9 (some (ρ 8))) 0) 8 (some (ρ 10)))) 0 (upK (upR (upR R 0 (upK (R 0) 9 (some (ρ 8)))) 0 (upK (upR R 0 (upK (R 0) 9 (some (ρ 8))) 0) 8 (some (ρ 10))) 0) 10 (some (ρ 9)))) := by
    intro a k q
    by_cases e : a = 0
    · subst e
      rw [upR_s, upK_n (by omega), upR_s, upK_n (by omega), upR_s, upK_n (by omega)]
    · rw [upR_n e, upR_n e, upR_n e]
  have kk : ∀ a, a ≠ 0 → upA I 0 (upF (I 0) 11 (min 2 (u + 1))) a = I a := fun a q => upA_n q
  refine w_retv k108_40 ⟨_, _, rfl, kk, hRF, hRF.lc hL, hK, hsp.keep (fun a q1 q2 => kk a (by omega)), fun k q1 q2 => ?_, ?_, fun s hs => ?_, hgi, hM, hLS, hB, ⟨hcs.keep (fun a q => kk a ?_), hab⟩, fun q => ⟨h0.keep (fun a q => kk a ?_), hab0⟩, fun q => ⟨(hc1 (by omega)).1.keep (fun a q => kk a ?_), (hc1 (by omega)).2⟩, ⟨by omega, by rw [upA_s, upF_s]⟩, ?_⟩
  · rcases (show k = 7 ∨ k = 8 ∨ k = 9 ∨ k = 10 by omega) with rfl | rfl | rfl | rfl
    · exact ⟨h_r7, by rw [upR_s, upK_n (by decide), upR_s, upK_n (by decide), upR_s, upK_n (by decide)]; exact t7⟩
    · exact ⟨h_r10, by rw [upR_s, upK_n (by decide), upR_s, upK_s]; rfl⟩
    · exact ⟨h_r8, by rw [upR_s, upK_n (by decide), upR_s, upK_n (by decide), upR_s, upK_s]; rfl⟩
    · exact ⟨h_r9, by rw [upR_s, upK_s]; rfl⟩
  · rw [rotC_e]; exact rot_i hri (fun k a b => rotC_r a b) (fun i j a b c e f => rotC_j a b c e f)
  · have := hs.r
    rw [hRF s 6 (by omega), kk s (by omega)]; exact hga s hs
  · have := h_r7.r
    have := g_r7
    have q : (ρ 7 ≤ a ∧ a ≤ ρ 7 + 5) ∨ a = γ (ρ 7) := q
    omega
  · have := h_r10.r
    have q : (ρ 10 ≤ a ∧ a ≤ ρ 10 + 5) ∨ a = γ (ρ 10) := q
    omega
  · have := h_r8.r
    have := (hga _ h_r8).2.2.1
    have q : (ρ 8 ≤ a ∧ a ≤ ρ 8 + 5) ∨ a = γ (ρ 8) := q
    omega
  · unfold TX at htx ⊢
    rw [kk 1 (by decide), kk 2 (by decide)]; exact htx
end C46
