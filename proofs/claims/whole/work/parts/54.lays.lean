/-! ===== what a text tells is within bounds; lay ===== -/
def PSok (st : PS) : Prop := (st.1 = 0 ∨ st.1 = 2 ∨ st.1 = 4 ∨ st.1 = 6) ∧ (st.1 = 0 → st.2.1 = 0) ∧ (0 ≤ st.2.1 ∧ st.2.1 ≤ 16) ∧ (∀ f, 0 ≤ f → f < st.2.1 → (0 ≤ st.2.2.1 f ∧ st.2.2.1 f < st.1 * (st.1 / 2) * (st.1 / 2)) ∧ (0 ≤ st.2.2.2.1 f ∧ st.2.2.2.1 f < st.1 * (st.1 / 2) * (st.1 / 2)) ∧ st.2.2.1 f ≠ st.2.2.2.1 f ∧ (1 ≤ st.2.2.2.2.1 f ∧ st.2.2.2.2.1 f ≤ 99)) ∧ (∀ l, st.2.2.2.2.2 l = 0 ∨ st.2.2.2.2.2 l = 1)
section C54
variable {X : Nat × (Int → Int)} {d : Nat} {sh : List (Nat × Nat)} {R : Nat → Nat → Option Nat} {I : Nat → Int → Int} {K H E HO S L B : Int} {ρ γ : Nat → Nat} {M : Nat} {A A1 A2 : AS} {u : Int} {tx : Int → Int} {len : Int}
theorem num1 {p : Int} : (numS tx len p 1).1 ≤ 99 := by
  have h1 := fg_r (tx := tx) (len := len) (p := p)
  have h2 := fg_r (tx := tx) (len := len) (p := p + 1)
  unfold numS
  split
  · show (-1 : Int) ≤ 99
    omega
  · simp only [nmS]
    split
    · show fg tx len p ≤ 99
      omega
    · show 10 * fg tx len p + fg tx len (p + 1) ≤ 99
      omega
theorem item_ok {st st' : PS} {p p' : Int} (h : PSok st) (hi : itemR tx len st p st' p') : PSok st' := by
  obtain ⟨h1, h2, h3, h4, h5⟩ := h
  rcases hi with ⟨-, x2, -, rfl, -⟩ | ⟨-, x2, x3, -, rfl, -⟩ | ⟨-, x2, x3, -, rfl, -⟩
  · have e0 := h2 x2.1
    have x3 := x2.2
    refine ⟨Or.inr x3, fun _ => e0, h3, fun f q1 q2 => ?_, h5⟩
    have q2 : f < st.2.1 := q2
    omega
  · obtain ⟨y1, -, y2, y3, -, y4, y5⟩ := x3
    have k3 : st.1 = 2 ∨ st.1 = 4 ∨ st.1 = 6 := by omega
    have r1 := hst_r (tx := tx) (len := len) (p := p + 1) k3
    have r2 := hst_r (tx := tx) (len := len) (p := p + 7) k3
    refine ⟨h1, fun e => absurd e x2, ?_, fun f q1 q2 => ?_, h5⟩
    · show 0 ≤ st.2.1 + 1 ∧ st.2.1 + 1 ≤ 16
      omega
    · have q2 : f < st.2.1 + 1 := q2
      show (0 ≤ upF st.2.2.1 st.2.1 (hst tx len st.1 (p + 1)) f ∧ upF st.2.2.1 st.2.1 (hst tx len st.1 (p + 1)) f < st.1 * (st.1 / 2) * (st.1 / 2)) ∧ (0 ≤ upF st.2.2.2.1 st.2.1 (hst tx len st.1 (p + 7)) f ∧ upF st.2.2.2.1 st.2.1 (hst tx len st.1 (p + 7)) f < st.1 * (st.1 / 2) * (st.1 / 2)) ∧ upF st.2.2.1 st.2.1 (hst tx len st.1 (p + 1)) f ≠ upF st.2.2.2.1 st.2.1 (hst tx len st.1 (p + 7)) f ∧ (1 ≤ upF st.2.2.2.2.1 st.2.1 (numS tx len (p + 13) 1).1 f ∧ upF st.2.2.2.2.1 st.2.1 (numS tx len (p + 13) 1).1 f ≤ 99)
      by_cases e : f = st.2.1
      · rw [e, upF_s, upF_s, upF_s]
        exact ⟨⟨y1, r1.2⟩, ⟨y2, r2.2⟩, y3, y4, num1⟩
      · rw [upF_n e, upF_n e, upF_n e]
        exact h4 f q1 (by omega)
  · refine ⟨h1, h2, h3, h4, fun l => ?_⟩
    show upF st.2.2.2.2.2 (numS tx len (p + 1) 2).1 1 l = 0 ∨ upF st.2.2.2.2.2 (numS tx len (p + 1) 2).1 1 l = 1
    by_cases e : l = (numS tx len (p + 1) 2).1
    · rw [e, upF_s]; exact Or.inr rfl
    · rw [upF_n e]; exact h5 l
theorem read_ok : ∀ (n : Nat) {st stE : PS} {p r : Int}, PSok st → readR tx len n st p r stE → r = -4 → 0 ≤ p → PSok stE
  | 0, _, _, _, _, _, h, _, _ => h.elim
  | n + 1, st, stE, p, r, h, hr, e, hp => by
    rcases hr with ⟨-, -, rfl⟩ | ⟨-, -, rfl⟩ | ⟨-, st', p', hi, hr⟩
    · exact h
    · omega
    · have hg := itemR_go hi
      exact read_ok n (item_ok h hi) hr e (by omega)
theorem lay_AB (hK : KP K H E HO S L) {stE : PS} (hk : stE.1 = K) (h : readR tx len 300 ps0 0 (-4) stE) : AB H HO S L 1 (layA stE) := by
  have h0 : PSok ps0 := ⟨Or.inl rfl, fun _ => rfl, ⟨Int.le_refl _, by decide⟩, fun f q1 q2 => absurd q1 (by have q2 : f < 0 := q2; omega), fun l => Or.inl rfl⟩
  obtain ⟨h1, h2, h3, h4, h5⟩ := read_ok 300 h0 h rfl (Int.le_refl _)
  have eH : stE.1 * (stE.1 / 2) * (stE.1 / 2) = HO ∧ 0 < H * H := by
    rw [hk]
    rcases hK with ⟨rfl, rfl, rfl, rfl, rfl, rfl⟩ | ⟨rfl, rfl, rfl, rfl, rfl, rfl⟩ | ⟨rfl, rfl, rfl, rfl, rfl, rfl⟩ <;> decide
  refine ⟨fun l q1 q2 => ?_, fun n l q1 q2 q3 q4 => ?_, h3, fun f q1 q2 => ?_⟩
  · show 0 ≤ stE.2.2.2.2.2 l ∧ stE.2.2.2.2.2 l ≤ 1
    have := h5 l
    omega
  · show 0 ≤ stE.2.2.2.2.2 l ∧ stE.2.2.2.2.2 l ≤ 1
    have := h5 l
    omega
  · have h6 := h4 f q1 q2
    rw [eH.1] at h6
    exact ⟨h6.1, h6.2.1, h6.2.2.1, h6.2.2.2, Int.le_refl _, eH.2⟩
theorem m72f (hP : PW sh R I ρ γ M tx len) (hx : ∀ v stE, readR tx len 300 ps0 0 v stE → ¬ (v = -4 ∧ stE.1 ≠ 0)) : WPM X (d + 7) 72 [.inr (some 0)] (sh, R, I) 0 0 (fun r h' => r = .inl (-2) ∧ ∃ I', h' = (sh, R, I') ∧ DR I I' (ρ 10)) := by
  have hL := hP.1
  show WP X (d + 7) 72 0 [.inr (some 0)] [] (sh, R, I) 0 0 _
  refine w_aload (pc' := 1) k72_0 rfl rfl ?_
  refine w_callI (pc' := 4) (as := [.inr (some 0)]) k72_1 rfl rfl (co_v rfl rfl (hL.1 0 (10, 12) rfl)) (by decide) (m106f hP hx) (fun z_1 h_1 hq => ?_)
  obtain ⟨hz, I_1, rfl, w3⟩ := hq
  · have hz := Sum.inl.inj hz
    subst hz
    refine w_if_eq (pc' := 7) k72_4 rfl (fun _ => ?_) (fun c_4 => absurd c_4 (by decide))
    refine w_c2 (pc' := 19) k72_17 rfl ?_
    exact w_reti k72_19 ⟨rfl, _, rfl, w3⟩
theorem m72s (hP : PW sh R I ρ γ M tx len) (hK : KP K H E HO S L) (hx : ∀ v stE, readR tx len 300 ps0 0 v stE → v = -4 ∧ stE.1 = K) (hab : ∀ stE, readR tx len 300 ps0 0 (-4) stE → AB H HO S L 1 (layA stE)) {c : Nat} (hc : (L * S ≤ M ∧ c = 0) ∨ ((M : Int) < L * S ∧ c = 1)) (hlen : sh.length + 4 < 1000 ∧ (c = 1 → sh.length = 53 ∨ 78 ≤ sh.length)) : WPM X (d + 7) 72 [.inr (some 0)] (sh, R, I) (4 * c) (4 * (c * 4860)) (fun r h' => r = .inl HO ∧ ∃ stE sh' R' I', h' = (sh', R', I') ∧ readR tx len 300 ps0 0 (-4) stE ∧ sh'.length = sh.length + 4 * c ∧ (∀ (a : Nat) (q : Nat × Nat), sh[a]? = some q → sh'[a]? = some q) ∧ (∀ a, 57 ≤ a → a ≤ 77 → a < sh.length → I' a = I a) ∧ (∀ a k, 57 ≤ a → a ≤ 77 → a < sh.length → R' a k = R a k) ∧ CG sh' R' I' K H E HO S L 1 (rotL ρ) (gaL ρ γ sh.length c) (if c = 0 then M else (L * S).toNat) (layA stE) (layA stE) (layA stE) 0 tx len) := by
  have hL := hP.1
  have hLc := hL
  show WP X (d + 7) 72 0 [.inr (some 0)] [] (sh, R, I) (4 * c) (4 * (c * 4860)) _
  refine w_aload (pc' := 1) k72_0 rfl rfl ?_
  refine w_callM (pc' := 4) (as := [.inr (some 0)]) k72_1 rfl rfl (co_v rfl rfl (hL.1 0 (10, 12) rfl)) ⟨Nat.le_refl _, Nat.le_refl _⟩ (m106s hP hK hx hab hc hlen) (fun r_1 h_1 hq => ?_)
  obtain ⟨rfl, stE, sh_1, R_1, I_1, rfl, w1, w2, w3, w4, w5, w6⟩ := hq
  have hL := w6.1
  have hsp := w6.2.2.1
  show WP X (d + 7) 72 4 [.inr (some 0)] [.inl 1] (sh_1, R_1, I_1) _ _ _
  refine w_if_eq (pc' := 7) k72_4 rfl (fun c_4 => absurd c_4 (by decide)) (fun _ => ?_)
  refine w_aload (pc' := 8) k72_7 rfl rfl ?_
  refine w_getR (pc' := 11) (v := 3) k72_8 rfl (hL.1 0 (10, 12) rfl) (hL.2 0 1 3 rfl) ?_
  refine w_getI (pc' := 14) (ki := 3) (v := HO) k72_11 rfl (hL.1 3 (5, 14) rfl) rfl hsp.2.2.2.1 ?_
  refine w_goto k72_14 ?_
  exact w_reti k72_19 ⟨rfl, stE, sh_1, R_1, I_1, rfl, w1, w2, w3, w4, w5, w6⟩
end C54
