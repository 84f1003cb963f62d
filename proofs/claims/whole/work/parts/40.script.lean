/-! ===== CLASS: Script, letters and numbers ===== -/
section C40
variable {X : Nat × (Int → Int)} {d : Nat} {sh : List (Nat × Nat)} {R : Nat → Nat → Option Nat} {I : Nat → Int → Int} {s g_s M_s : Nat} {K H E HO S L B : Int} {A : AS}
variable {tx : Int → Int} {len : Int}
/-- THE TEXT as the Script holds it -/
def TX (I : Nat → Int → Int) (tx : Int → Int) (len : Int) : Prop := I 1 1 = len ∧ (0 ≤ len ∧ len ≤ 200) ∧ ∀ j, 0 ≤ j → j < len → I 2 j = tx j ∧ (1 ≤ tx j ∧ tx j < 256)
/-- only the place in the text has changed: it is p now -/
def AT (I I' : Nat → Int → Int) (p : Int) : Prop := (∀ a, a ≠ 1 → I' a = I a) ∧ I' 1 = upF (I 1) 3 p
theorem AT.tt {I I' : Nat → Int → Int} {p : Int} (h : AT I I' p) (ht : TX I tx len) : TX I' tx len := by
  refine ⟨by rw [h.2, upF_n (by decide)]; exact ht.1, ht.2.1, fun j h1 h2 => by rw [h.1 2 (by decide)]; exact ht.2.2 j h1 h2⟩
theorem AT.at {I I' : Nat → Int → Int} {p : Int} (h : AT I I' p) : I' 1 3 = p := by rw [h.2, upF_s]
theorem AT.k {I I' : Nat → Int → Int} {p : Int} (h : AT I I' p) : I' 1 2 = I 1 2 := by rw [h.2, upF_n (by decide)]
theorem AT.rf {I : Nat → Int → Int} {p : Int} (h : I 1 3 = p) : AT I I p := ⟨fun _ _ => rfl, by rw [← h, upF_id]⟩
theorem AT.tr {I I1 I2 : Nat → Int → Int} {p q : Int} (h : AT I I1 p) (h2 : AT I1 I2 q) : AT I I2 q := ⟨fun a ha => (h2.1 a ha).trans (h.1 a ha), by rw [h2.2, h.2, upF_uu]⟩
theorem AT.mk1 {I : Nat → Int → Int} {p : Int} : AT I (upA I 1 (upF (I 1) 3 p)) p := ⟨fun a ha => upA_n ha, upA_s⟩
theorem m21 (hL : LC sh R) (ht : TX I tx len) {p : Int} (hp : I 1 3 = p) (hp0 : 0 ≤ p ∧ p ≤ 1000) : WPM X (d + 1) 21 [.inr (some 1)] (sh, R, I) 0 0 (fun r h' => r = .inl (fg tx len p) ∧ ∃ I', h' = (sh, R, I') ∧ AT I I' (if fg tx len p < 0 then p else p + 1)) := by
  have hlen := ht.2.1
  show WP X (d + 1) 21 0 [.inr (some 1)] [] (sh, R, I) 0 0 _
  refine w_aload (pc' := 1) k21_0 rfl rfl ?_
  refine w_getI (pc' := 4) (ki := 3) (v := p) k21_1 rfl (hL.1 1 (4, 4) rfl) rfl hp ?_
  refine w_aload (pc' := 5) k21_4 rfl rfl ?_
  refine w_getI (pc' := 8) (ki := 1) (v := len) k21_5 rfl (hL.1 1 (4, 4) rfl) rfl ht.1 ?_
  refine w_ic_ge (pc' := 11) k21_8 rfl (fun c_8 => ?_) (fun c_8 => ?_)
  · refine w_c1 (pc' := 40) k21_39 rfl ?_
    have hf9 : fg tx len p = -1 := by unfold fg lt9; rw [if_neg (show ¬ p < len by omega)]; rfl
    refine w_reti k21_40 ⟨by rw [hf9], _, rfl, ?_⟩
    rw [hf9]
    exact AT.rf hp
  · refine w_aload (pc' := 12) k21_11 rfl rfl ?_
    refine w_getR (pc' := 15) (v := 2) k21_12 rfl (hL.1 1 (4, 4) rfl) (hL.2 1 0 2 rfl) ?_
    refine w_aload (pc' := 16) k21_15 rfl rfl ?_
    refine w_getI (pc' := 19) (ki := 3) (v := p) k21_16 rfl (hL.1 1 (4, 4) rfl) rfl hp ?_
    refine w_cald (pc' := 20) (v := tx p) k21_19 rfl (hL.1 2 (1, 200) rfl) (by omega) (ht.2.2 p hp0.1 c_8).1 ?_
    refine w_c2 (pc' := 22) k21_20 rfl ?_
    refine w_ic_lt (pc' := 25) k21_22 rfl (fun c_22 => ?_) (fun c_22 => ?_)
    · refine w_c1 (pc' := 40) k21_39 rfl ?_
      have hf9 : fg tx len p = -1 := by unfold fg lt9; rw [if_pos c_8, if_neg (by omega)]
      refine w_reti k21_40 ⟨by rw [hf9], _, rfl, ?_⟩
      rw [hf9]
      exact AT.rf hp
    · refine w_aload (pc' := 26) k21_25 rfl rfl ?_
      refine w_getR (pc' := 29) (v := 2) k21_26 rfl (hL.1 1 (4, 4) rfl) (hL.2 1 0 2 rfl) ?_
      refine w_aload (pc' := 30) k21_29 rfl rfl ?_
      refine w_getI (pc' := 33) (ki := 3) (v := p) k21_30 rfl (hL.1 1 (4, 4) rfl) rfl hp ?_
      refine w_cald (pc' := 34) (v := tx p) k21_33 rfl (hL.1 2 (1, 200) rfl) (by omega) (ht.2.2 p hp0.1 c_8).1 ?_
      refine w_c2 (pc' := 36) k21_34 rfl ?_
      refine w_ic_le (pc' := 39) k21_36 rfl (fun c_36 => ?_) (fun c_36 => ?_)
      · have htp := ht.2.2 p hp0.1 c_8
        refine w_aload (pc' := 42) k21_41 rfl rfl ?_
        refine w_dup (pc' := 43) k21_42 rfl ?_
        refine w_getI (pc' := 46) (ki := 3) (v := p) k21_43 rfl (hL.1 1 (4, 4) rfl) rfl hp ?_
        refine w_c1 (pc' := 47) k21_46 rfl ?_
        refine w_iadd (pc' := 48) k21_47 rfl (by omega) ?_
        refine w_putI (pc' := 51) (ki := 3) k21_48 rfl (hL.1 1 (4, 4) rfl) rfl ?_
        refine w_aload (pc' := 52) k21_51 rfl rfl ?_
        refine w_getR (pc' := 55) (v := 2) k21_52 rfl (hL.1 1 (4, 4) rfl) (hL.2 1 0 2 rfl) ?_
        refine w_aload (pc' := 56) k21_55 rfl rfl ?_
        refine w_getI (pc' := 59) (ki := 3) (v := p + 1) k21_56 rfl (hL.1 1 (4, 4) rfl) rfl (by rw [upA_s, upF_s]) ?_
        refine w_c1 (pc' := 60) k21_59 rfl ?_
        refine w_isub (pc' := 61) k21_60 rfl (by omega) ?_
        refine w_cald (pc' := 62) (v := tx p) k21_61 rfl (hL.1 2 (1, 200) rfl) (by have := ht.2.1; omega) (by rw [upA_n (by decide), show p + 1 - 1 = p by omega]; exact (ht.2.2 p hp0.1 c_8).1) ?_
        refine w_c2 (pc' := 64) k21_62 rfl ?_
        refine w_isub (pc' := 65) k21_64 rfl (by have := ht.2.2 p hp0.1 c_8; omega) ?_
        have hf9 : fg tx len p = tx p - 48 := by unfold fg lt9; rw [if_pos c_8, if_pos (by omega)]
        refine w_reti k21_65 ⟨by rw [hf9], _, rfl, ?_⟩
        rw [hf9, if_neg (by omega)]
        exact AT.mk1
      · refine w_c1 (pc' := 40) k21_39 rfl ?_
        have hf9 : fg tx len p = -1 := by unfold fg lt9; rw [if_pos c_8, if_neg (by omega)]
        refine w_reti k21_40 ⟨by rw [hf9], _, rfl, ?_⟩
        rw [hf9]
        exact AT.rf hp
theorem m22 (hL : LC sh R) (ht : TX I tx len) {p : Int} (hp : I 1 3 = p) (hp0 : 0 ≤ p ∧ p ≤ 1000) {c : Int} (hc : c ≠ 0) : WPM X (d + 1) 22 [.inr (some 1), .inl c] (sh, R, I) 0 0 (fun r h' => ∃ I', h' = (sh, R, I') ∧ ((r = .inl 1 ∧ lt9 tx len p = c ∧ AT I I' (p + 1)) ∨ (r = .inl 0 ∧ lt9 tx len p ≠ c ∧ AT I I' p))) := by
  have hlen := ht.2.1
  show WP X (d + 1) 22 0 [.inr (some 1), .inl c] [] (sh, R, I) 0 0 _
  refine w_aload (pc' := 1) k22_0 rfl rfl ?_
  refine w_getI (pc' := 4) (ki := 3) (v := p) k22_1 rfl (hL.1 1 (4, 4) rfl) rfl hp ?_
  refine w_aload (pc' := 5) k22_4 rfl rfl ?_
  refine w_getI (pc' := 8) (ki := 1) (v := len) k22_5 rfl (hL.1 1 (4, 4) rfl) rfl ht.1 ?_
  refine w_ic_ge (pc' := 11) k22_8 rfl (fun c_8 => ?_) (fun c_8 => ?_)
  · refine w_c1 (pc' := 25) k22_24 rfl ?_
    exact w_retz k22_25 (Or.inl rfl) ⟨_, rfl, Or.inr ⟨rfl, by unfold lt9; rw [if_neg (by omega)]; omega, AT.rf hp⟩⟩
  · refine w_aload (pc' := 12) k22_11 rfl rfl ?_
    refine w_getR (pc' := 15) (v := 2) k22_12 rfl (hL.1 1 (4, 4) rfl) (hL.2 1 0 2 rfl) ?_
    refine w_aload (pc' := 16) k22_15 rfl rfl ?_
    refine w_getI (pc' := 19) (ki := 3) (v := p) k22_16 rfl (hL.1 1 (4, 4) rfl) rfl hp ?_
    refine w_cald (pc' := 20) (v := tx p) k22_19 rfl (hL.1 2 (1, 200) rfl) (by omega) (ht.2.2 p hp0.1 c_8).1 ?_
    refine w_iload (pc' := 21) k22_20 rfl rfl ?_
    refine w_ic_eq (pc' := 24) k22_21 rfl (fun c_21 => ?_) (fun c_21 => ?_)
    · refine w_aload (pc' := 27) k22_26 rfl rfl ?_
      refine w_dup (pc' := 28) k22_27 rfl ?_
      refine w_getI (pc' := 31) (ki := 3) (v := p) k22_28 rfl (hL.1 1 (4, 4) rfl) rfl hp ?_
      refine w_c1 (pc' := 32) k22_31 rfl ?_
      refine w_iadd (pc' := 33) k22_32 rfl (by omega) ?_
      refine w_putI (pc' := 36) (ki := 3) k22_33 rfl (hL.1 1 (4, 4) rfl) rfl ?_
      refine w_c1 (pc' := 37) k22_36 rfl ?_
      exact w_retz k22_37 (Or.inr rfl) ⟨_, rfl, Or.inl ⟨rfl, by unfold lt9; rw [if_pos c_8]; exact c_21, AT.mk1⟩⟩
    · refine w_c1 (pc' := 25) k22_24 rfl ?_
      exact w_retz k22_25 (Or.inl rfl) ⟨_, rfl, Or.inr ⟨rfl, by unfold lt9; rw [if_pos c_8]; exact c_21, AT.rf hp⟩⟩
theorem m20l (hL : LC sh R) (ht : TX I tx len) {m : Nat} (hm : m ≤ 3) : ∀ (k n : Nat) (i v p : Int) (v4 : VV) (I1 : Nat → Int → Int), n + k = m → i = (n : Int) → 1 ≤ n → 0 ≤ v → v < 10 ^ n → AT I I1 p → (0 ≤ p ∧ p + k ≤ 500) → WP X (d + 2) 20 7 [.inr (some 1), .inl (m : Int), .inl v, .inl i, v4] [] (sh, R, I1) 0 0 (fun r h' => r = .inl (nmS tx len k v p).1 ∧ ∃ I', h' = (sh, R, I') ∧ AT I I' (nmS tx len k v p).2) := by
  intro k
  induction k with
  | zero =>
    rintro n i v p v4 I1 hk rfl hn hv0 hv ha hp
    have e9 : n = m := by omega
    subst e9
    refine w_iload (pc' := 8) k20_7 rfl rfl ?_
    refine w_iload (pc' := 9) k20_8 rfl rfl ?_
    refine w_ic_ge (pc' := 12) k20_9 rfl (fun c_9 => ?_) (fun c_9 => absurd c_9 (by omega))
    refine w_iload (pc' := 47) k20_46 rfl rfl ?_
    exact w_reti k20_47 ⟨rfl, _, rfl, ha⟩
  | succ k ih =>
    rintro n i v p v4 I1 hk rfl hn hv0 hv ha hp
    have hf := fg_r (tx := tx) (len := len) (p := p)
    have hv9 : v < 100 := by rcases (show n = 1 ∨ n = 2 by omega) with rfl | rfl <;> simp at hv <;> omega
    refine w_iload (pc' := 8) k20_7 rfl rfl ?_
    refine w_iload (pc' := 9) k20_8 rfl rfl ?_
    refine w_ic_ge (pc' := 12) k20_9 rfl (fun c_9 => absurd c_9 (by omega)) (fun c_9 => ?_)
    refine w_iload (pc' := 13) k20_12 rfl rfl ?_
    refine w_c1 (pc' := 14) k20_13 rfl ?_
    refine w_ic_eq (pc' := 17) k20_14 rfl (fun c_14 => absurd c_14 (by omega)) (fun c_14 => ?_)
    refine w_aload (pc' := 18) k20_17 rfl rfl ?_
    refine w_callI (pc' := 21) (as := [.inr (some 1)]) k20_18 rfl rfl (co_v rfl rfl (hL.1 1 (4, 4) rfl)) (by decide) (m21 hL (ha.tt ht) ha.at (by omega)) (fun z_18 h_18 hq => ?_)
    obtain ⟨hz, I2, rfl, h2⟩ := hq
    have hz := Sum.inl.inj hz
    subst hz
    refine w_istore (pc' := 23) (ls' := [_, _, _, _, _]) k20_21 rfl rfl rfl ?_
    refine w_iload (pc' := 25) k20_23 rfl rfl ?_
    refine w_c1 (pc' := 26) k20_25 rfl ?_
    refine w_ic_ne (pc' := 29) k20_26 rfl (fun c_26 => ?_) (fun c_26 => ?_)
    · refine w_iload (pc' := 33) k20_32 rfl rfl ?_
      refine w_c2 (pc' := 35) k20_33 rfl ?_
      refine w_imul (pc' := 36) k20_35 rfl (by omega) ?_
      refine w_iload (pc' := 38) k20_36 rfl rfl ?_
      refine w_iadd (pc' := 39) k20_38 rfl (by omega) ?_
      refine w_istore (pc' := 40) (ls' := [_, _, _, _, _]) k20_39 rfl rfl rfl ?_
      refine w_iinc (pc' := 43) (ls' := [_, _, _, _, _]) k20_40 rfl rfl (by omega) rfl ?_
      refine w_goto k20_43 ?_
      rw [if_neg (by omega)] at h2
      rw [nmS, if_neg (by omega), show 10 * v + fg tx len p = v * 10 + fg tx len p by omega]
      refine ih (n + 1) _ _ _ _ _ (by omega) (by omega) (by omega) (by omega) ?_ (ha.tr h2) (by omega)
      rcases (show n = 1 ∨ n = 2 by omega) with rfl | rfl <;> simp at hv ⊢ <;> omega
    · refine w_goto k20_29 ?_
      refine w_iload (pc' := 47) k20_46 rfl rfl ?_
      refine w_reti k20_47 ⟨?_, _, rfl, ?_⟩
      · rw [nmS, if_pos (by omega)]
      · rw [nmS, if_pos (by omega)]
        rw [if_pos (by omega)] at h2
        exact ha.tr h2
theorem m20 (hL : LC sh R) (ht : TX I tx len) {p : Int} (hp : I 1 3 = p) (hp0 : 0 ≤ p ∧ p ≤ 400) {m : Nat} (hm : m ≤ 2) : WPM X (d + 2) 20 [.inr (some 1), .inl ((m + 1 : Nat) : Int)] (sh, R, I) 0 0 (fun r h' => r = .inl (numS tx len p m).1 ∧ ∃ I', h' = (sh, R, I') ∧ AT I I' (numS tx len p m).2) := by
  have hlen := ht.2.1
  have hf := fg_r (tx := tx) (len := len) (p := p)
  show WP X (d + 2) 20 0 [.inr (some 1), .inl ((m + 1 : Nat) : Int), .inr none, .inr none, .inr none] [] (sh, R, I) 0 0 _
  refine w_aload (pc' := 1) k20_0 rfl rfl ?_
  refine w_callI (pc' := 4) (as := [.inr (some 1)]) k20_1 rfl rfl (co_v rfl rfl (hL.1 1 (4, 4) rfl)) (by decide) (m21 hL ht hp (by omega)) (fun z_1 h_1 hq => ?_)
  obtain ⟨hz, I2, rfl, h2⟩ := hq
  have hz := Sum.inl.inj hz
  subst hz
  refine w_istore (pc' := 5) (ls' := [_, _, _, _, _]) k20_4 rfl rfl rfl ?_
  refine w_c1 (pc' := 6) k20_5 rfl ?_
  refine w_istore (pc' := 7) (ls' := [_, _, _, _, _]) k20_6 rfl rfl rfl ?_
  by_cases hf0 : fg tx len p < 0
  · rw [if_pos hf0] at h2
    refine w_iload (pc' := 8) k20_7 rfl rfl ?_
    refine w_iload (pc' := 9) k20_8 rfl rfl ?_
    have fin : WP X (d + 2) 20 46 [.inr (some 1), .inl ((m + 1 : Nat) : Int), .inl (fg tx len p), .inl 1, .inr none] [] (sh, R, I2) 0 0 (fun r h' => r = .inl (numS tx len p m).1 ∧ ∃ I', h' = (sh, R, I') ∧ AT I I' (numS tx len p m).2) := by
      refine w_iload (pc' := 47) k20_46 rfl rfl ?_
      refine w_reti k20_47 ⟨?_, _, rfl, ?_⟩
      · unfold numS; rw [if_pos hf0, show fg tx len p = -1 by omega]
      · unfold numS; rw [if_pos hf0]; exact h2
    refine w_ic_ge (pc' := 12) k20_9 rfl (fun _ => fin) (fun _ => ?_)
    refine w_iload (pc' := 13) k20_12 rfl rfl ?_
    refine w_c1 (pc' := 14) k20_13 rfl ?_
    exact w_ic_eq (pc' := 17) k20_14 rfl (fun _ => fin) (fun z => absurd (show fg tx len p = -1 by omega) z)
  · rw [if_neg hf0] at h2
    unfold numS
    rw [if_neg hf0]
    exact m20l hL ht (m := m + 1) (by omega) m 1 _ _ _ _ _ (by omega) rfl (by omega) (by omega) (by simp; omega) h2 (by omega)
theorem m105 {k a i j : Int} (hk : k = 2 ∨ k = 4 ∨ k = 6) : RV X (d + 1) 105 [.inl k, .inl a, .inl i, .inl j] (sh, R, I) (if (0 ≤ a ∧ a < k) ∧ (0 ≤ i ∧ i < k / 2) ∧ (0 ≤ j ∧ j < k / 2) then (a * (k / 2) + i) * (k / 2) + j else -1) := by
  show WP X (d + 1) 105 0 [.inl k, .inl a, .inl i, .inl j, .inr none] [] (sh, R, I) 0 0 _
  refine w_iload (pc' := 1) k105_0 rfl rfl ?_
  refine w_c1 (pc' := 2) k105_1 rfl ?_
  refine w_idiv (pc' := 3) k105_2 rfl (by first | omega | (rcases hk with rfl | rfl | rfl <;> omega)) ?_
  refine w_istore (pc' := 5) (ls' := [_, _, _, _, _]) k105_3 rfl rfl rfl ?_
  refine w_iload (pc' := 6) k105_5 rfl rfl ?_
  refine w_if_lt (pc' := 9) k105_6 rfl (fun c_6 => ?_) (fun c_6 => ?_)
  · refine w_c1 (pc' := 35) k105_34 rfl ?_
    exact w_reti k105_35 ⟨by rw [if_neg (by omega)], rfl⟩
  · refine w_iload (pc' := 10) k105_9 rfl rfl ?_
    refine w_iload (pc' := 11) k105_10 rfl rfl ?_
    refine w_ic_ge (pc' := 14) k105_11 rfl (fun c_11 => ?_) (fun c_11 => ?_)
    · refine w_c1 (pc' := 35) k105_34 rfl ?_
      exact w_reti k105_35 ⟨by rw [if_neg (by omega)], rfl⟩
    · refine w_iload (pc' := 15) k105_14 rfl rfl ?_
      refine w_if_lt (pc' := 18) k105_15 rfl (fun c_15 => ?_) (fun c_15 => ?_)
      · refine w_c1 (pc' := 35) k105_34 rfl ?_
        exact w_reti k105_35 ⟨by rw [if_neg (by omega)], rfl⟩
      · refine w_iload (pc' := 19) k105_18 rfl rfl ?_
        refine w_iload (pc' := 21) k105_19 rfl rfl ?_
        refine w_ic_ge (pc' := 24) k105_21 rfl (fun c_21 => ?_) (fun c_21 => ?_)
        · refine w_c1 (pc' := 35) k105_34 rfl ?_
          exact w_reti k105_35 ⟨by rw [if_neg (by omega)], rfl⟩
        · refine w_iload (pc' := 25) k105_24 rfl rfl ?_
          refine w_if_lt (pc' := 28) k105_25 rfl (fun c_25 => ?_) (fun c_25 => ?_)
          · refine w_c1 (pc' := 35) k105_34 rfl ?_
            exact w_reti k105_35 ⟨by rw [if_neg (by omega)], rfl⟩
          · refine w_iload (pc' := 29) k105_28 rfl rfl ?_
            refine w_iload (pc' := 31) k105_29 rfl rfl ?_
            refine w_ic_lt (pc' := 34) k105_31 rfl (fun c_31 => ?_) (fun c_31 => ?_)
            · refine w_iload (pc' := 37) k105_36 rfl rfl ?_
              refine w_iload (pc' := 39) k105_37 rfl rfl ?_
              refine w_imul (pc' := 40) k105_39 rfl (by first | omega | (rcases hk with rfl | rfl | rfl <;> omega)) ?_
              refine w_iload (pc' := 41) k105_40 rfl rfl ?_
              refine w_iadd (pc' := 42) k105_41 rfl (by first | omega | (rcases hk with rfl | rfl | rfl <;> omega)) ?_
              refine w_iload (pc' := 44) k105_42 rfl rfl ?_
              refine w_imul (pc' := 45) k105_44 rfl (by first | omega | (rcases hk with rfl | rfl | rfl <;> omega)) ?_
              refine w_iload (pc' := 46) k105_45 rfl rfl ?_
              refine w_iadd (pc' := 47) k105_46 rfl (by first | omega | (rcases hk with rfl | rfl | rfl <;> omega)) ?_
              exact w_reti k105_47 ⟨by rw [if_pos (by omega)], rfl⟩
            · refine w_c1 (pc' := 35) k105_34 rfl ?_
              exact w_reti k105_35 ⟨by rw [if_neg (by omega)], rfl⟩
theorem m17 (hL : LC sh R) (ht : TX I tx len) {p : Int} (hp : I 1 3 = p) (hp0 : 0 ≤ p ∧ p ≤ 400) {k : Int} (hk : k = 2 ∨ k = 4 ∨ k = 6) (hk2 : I 1 2 = k) : WPM X (d + 2) 17 [.inr (some 1)] (sh, R, I) 0 0 (fun r h' => r = .inl (hst tx len k p) ∧ ∃ I' p', h' = (sh, R, I') ∧ AT I I' p' ∧ (0 ≤ hst tx len k p → p' = p + 5)) := by
  have hlen := ht.2.1
  have hf1 := fg_r (tx := tx) (len := len) (p := p)
  have hf2 := fg_r (tx := tx) (len := len) (p := p + 2)
  have hf3 := fg_r (tx := tx) (len := len) (p := p + 4)
  show WP X (d + 2) 17 0 [.inr (some 1), .inr none, .inr none] [] (sh, R, I) 0 0 _
  refine w_aload (pc' := 1) k17_0 rfl rfl ?_
  refine w_callI (pc' := 4) (as := [.inr (some 1)]) k17_1 rfl rfl (co_v rfl rfl (hL.1 1 (4, 4) rfl)) (by decide) (m21 hL ht hp (by omega)) (fun z1 h1 hq => ?_)
  obtain ⟨hz, I1, rfl, a1⟩ := hq
  have hz := Sum.inl.inj hz
  subst hz
  refine w_istore (pc' := 5) (ls' := [_, _, _]) k17_4 rfl rfl rfl ?_
  obtain ⟨p1, hp1⟩ : ∃ p1, p1 = (if fg tx len p < 0 then p else p + 1) := ⟨_, rfl⟩
  rw [← hp1] at a1
  have hp1r : 0 ≤ p1 ∧ p1 ≤ 500 := by rw [hp1]; split <;> omega
  refine w_aload (pc' := 6) k17_5 rfl rfl ?_
  refine w_c2 (pc' := 8) k17_6 rfl ?_
  refine w_callI (pc' := 11) (as := [.inr (some 1), .inl _]) k17_8 rfl rfl (co_v rfl rfl (hL.1 1 (4, 4) rfl)) (by decide) (m22 hL (a1.tt ht) a1.at (by omega) (c := 46) (by decide)) (fun z2 h2 hq => ?_)
  obtain ⟨I2, rfl, ⟨e2, l2, a2⟩ | ⟨e2, l2, a2⟩⟩ := hq
  · have e2 := Sum.inl.inj e2
    subst e2
    refine w_if_ne (pc' := 14) k17_11 rfl (fun _ => ?_) (fun c => absurd c (by decide))
    have a2' := a1.tr a2
    refine w_aload (pc' := 17) k17_16 rfl rfl ?_
    refine w_callI (pc' := 20) (as := [.inr (some 1)]) k17_17 rfl rfl (co_v rfl rfl (hL.1 1 (4, 4) rfl)) (by decide) (m21 hL (a2'.tt ht) a2'.at (by omega)) (fun z3 h3 hq => ?_)
    obtain ⟨hz, I3, rfl, a3⟩ := hq
    have hz := Sum.inl.inj hz
    subst hz
    refine w_istore (pc' := 21) (ls' := [_, _, _]) k17_20 rfl rfl rfl ?_
    obtain ⟨p3, hp3⟩ : ∃ p3, p3 = (if fg tx len (p1 + 1) < 0 then p1 + 1 else p1 + 1 + 1) := ⟨_, rfl⟩
    rw [← hp3] at a3
    have hp3r : 0 ≤ p3 ∧ p3 ≤ 600 := by rw [hp3]; split <;> omega
    have a3' := a2'.tr a3
    refine w_aload (pc' := 22) k17_21 rfl rfl ?_
    refine w_c2 (pc' := 24) k17_22 rfl ?_
    refine w_callI (pc' := 27) (as := [.inr (some 1), .inl _]) k17_24 rfl rfl (co_v rfl rfl (hL.1 1 (4, 4) rfl)) (by decide) (m22 hL (a3'.tt ht) a3'.at (by omega) (c := 46) (by decide)) (fun z4 h4 hq => ?_)
    obtain ⟨I4, rfl, ⟨e4, l4, a4⟩ | ⟨e4, l4, a4⟩⟩ := hq
    · have e4 := Sum.inl.inj e4
      subst e4
      refine w_if_ne (pc' := 30) k17_27 rfl (fun _ => ?_) (fun c => absurd c (by decide))
      have a4' := a3'.tr a4
      refine w_aload (pc' := 33) k17_32 rfl rfl ?_
      refine w_getI (pc' := 36) (ki := 2) (v := k) k17_33 rfl (hL.1 1 (4, 4) rfl) rfl (by rw [a4'.k]; exact hk2) ?_
      refine w_iload (pc' := 37) k17_36 rfl rfl ?_
      refine w_iload (pc' := 38) k17_37 rfl rfl ?_
      refine w_aload (pc' := 39) k17_38 rfl rfl ?_
      refine w_callI (pc' := 42) (as := [.inr (some 1)]) k17_39 rfl rfl (co_v rfl rfl (hL.1 1 (4, 4) rfl)) (by decide) (m21 hL (a4'.tt ht) a4'.at (by omega)) (fun z5 h5 hq => ?_)
      obtain ⟨hz, I5, rfl, a5⟩ := hq
      have hz := Sum.inl.inj hz
      subst hz
      have a5' := a4'.tr a5
      refine w_callE (pc' := 45) (as := [.inl _, .inl _, .inl _, .inl _]) k17_42 rfl rfl (co_s (Or.inr rfl) rfl rfl rfl) (by decide) (m105 hk) ?_
      have hf5 := fg_r (tx := tx) (len := len) (p := p3 + 1)
      have hf4 := fg_r (tx := tx) (len := len) (p := p1 + 1)
      by_cases hok : (0 ≤ fg tx len p ∧ fg tx len p < k) ∧ (0 ≤ fg tx len (p1 + 1) ∧ fg tx len (p1 + 1) < k / 2) ∧ (0 ≤ fg tx len (p3 + 1) ∧ fg tx len (p3 + 1) < k / 2)
      · have q1 : p1 = p + 1 := by rw [hp1, if_neg (by omega)]
        subst q1
        have q3 : p3 = p + 3 := by rw [hp3, if_neg (by omega)]; omega
        subst q3
        rw [show p + 1 + 1 = p + 2 by omega, show p + 3 + 1 = p + 4 by omega] at hok
        rw [show p + 1 + 1 = p + 2 by omega, show p + 3 + 1 = p + 4 by omega]
        have hh : hst tx len k p = (fg tx len p * (k / 2) + fg tx len (p + 2)) * (k / 2) + fg tx len (p + 4) := by
          unfold hst
          rw [if_pos ⟨hok.1, l2, hok.2.1, l4, hok.2.2⟩]
        refine w_reti k17_45 ⟨by rw [if_pos hok, hh], _, _, rfl, a5', fun _ => ?_⟩
        rw [show p + 3 + 1 = p + 4 by omega, if_neg (by omega)]
        omega
      · have hh : hst tx len k p = -1 := by
          unfold hst
          rw [if_neg]
          rintro ⟨h1, h2, h3, h4, h5⟩
          have q1 : p1 = p + 1 := by rw [hp1, if_neg (by omega)]
          subst q1
          rw [show p + 1 + 1 = p + 2 by omega] at hok hp3
          have q3 : p3 = p + 3 := by rw [hp3, if_neg (by omega)]; omega
          subst q3
          rw [show p + 3 + 1 = p + 4 by omega] at hok
          exact hok ⟨h1, h3, h5⟩
        exact w_reti k17_45 ⟨by rw [if_neg hok, hh], _, _, rfl, a5', fun z => by omega⟩
    · have e4 := Sum.inl.inj e4
      subst e4
      refine w_if_ne (pc' := 30) k17_27 rfl (fun c => absurd rfl c) (fun _ => ?_)
      refine w_c1 (pc' := 31) k17_30 rfl ?_
      have hh : hst tx len k p = -1 := by
        unfold hst
        rw [if_neg]
        rintro ⟨h1, h2, h3, h4, h5⟩
        have q1 : p1 = p + 1 := by rw [hp1, if_neg (by omega)]
        subst q1
        rw [show p + 1 + 1 = p + 2 by omega] at hp3
        have q3 : p3 = p + 3 := by rw [hp3, if_neg (by omega)]; omega
        subst q3
        exact l4 h4
      exact w_reti k17_31 ⟨by rw [hh], _, _, rfl, a3'.tr a4, fun z => by omega⟩
  · have e2 := Sum.inl.inj e2
    subst e2
    refine w_if_ne (pc' := 14) k17_11 rfl (fun c => absurd rfl c) (fun _ => ?_)
    refine w_c1 (pc' := 15) k17_14 rfl ?_
    have hh : hst tx len k p = -1 := by
      unfold hst
      rw [if_neg]
      rintro ⟨h1, h2, h3, h4, h5⟩
      have q1 : p1 = p + 1 := by rw [hp1, if_neg (by omega)]
      subst q1
      exact l2 h2
    exact w_reti k17_15 ⟨by rw [hh], _, _, rfl, a1.tr a2, fun z => by omega⟩
end C40
