/-! ===== CLASS: Script, items ===== -/
section C41
variable {X : Nat × (Int → Int)} {d : Nat} {sh : List (Nat × Nat)} {R : Nat → Nat → Option Nat} {I : Nat → Int → Int} {s g_s M_s : Nat} {K H E HO S L B : Int} {A : AS}
variable {tx : Int → Int} {len : Int} {st : PS}
/-- what was told, as the Script and the draft hold it -/
def PSr (I : Nat → Int → Int) (s : Nat) (st : PS) : Prop := I 1 2 = st.1 ∧ I s 5 = st.2.1 ∧ (0 ≤ st.2.1 ∧ st.2.1 ≤ 16) ∧ (∀ f, 0 ≤ f → f < st.2.1 → I (s + 2) f = st.2.2.1 f ∧ I (s + 3) f = st.2.2.2.1 f ∧ I (s + 4) f = st.2.2.2.2.1 f ∧ I (s + 5) f = 0) ∧ (∀ l, 0 ≤ l → l < 108 → I (s + 1) l = st.2.2.2.2.2 l ∧ (st.2.2.2.2.2 l = 0 ∨ st.2.2.2.2.2 l = 1))
/-- reading may change the draft and the Script's own numbers -/
def DR (I I' : Nat → Int → Int) (s : Nat) : Prop := (∀ a, a ≠ 1 → (a < s ∨ s + 5 < a) → I' a = I a) ∧ I' 1 1 = I 1 1 ∧ I' s 7 = I s 7 ∧ I' s 8 = I s 8
theorem DR.rf {I : Nat → Int → Int} : DR I I s := ⟨fun _ _ _ => rfl, rfl, rfl, rfl⟩
theorem DR.tr {I I1 I2 : Nat → Int → Int} (h : DR I I1 s) (h2 : DR I1 I2 s) : DR I I2 s := ⟨fun a q1 q2 => (h2.1 a q1 q2).trans (h.1 a q1 q2), h2.2.1.trans h.2.1, h2.2.2.1.trans h.2.2.1, h2.2.2.2.trans h.2.2.2⟩
theorem AT.dr {I I' : Nat → Int → Int} {p : Int} (h_s : isS s) (h : AT I I' p) : DR I I' s := by
  have : 25 ≤ s := by rcases h_s with rfl | rfl | rfl | rfl <;> omega
  exact ⟨fun a q1 q2 => h.1 a q1, by rw [h.2, upF_n (by decide)], by rw [h.1 s (by omega)], by rw [h.1 s (by omega)]⟩
theorem AT.ps {I I' : Nat → Int → Int} {p : Int} (h_s : isS s) (h : AT I I' p) (hp : PSr I s st) : PSr I' s st := by
  have : 25 ≤ s := by rcases h_s with rfl | rfl | rfl | rfl <;> omega
  unfold PSr at hp ⊢
  rw [h.k, h.1 s (by omega), h.1 (s + 1) (by omega), h.1 (s + 2) (by omega), h.1 (s + 3) (by omega), h.1 (s + 4) (by omega), h.1 (s + 5) (by omega)]
  exact hp
theorem DR.tx9 {I I' : Nat → Int → Int} (h_s : isS s) (h : DR I I' s) (ht : TX I tx len) : TX I' tx len := by
  have : 25 ≤ s := by rcases h_s with rfl | rfl | rfl | rfl <;> omega
  exact ⟨by rw [h.2.1]; exact ht.1, ht.2.1, fun j q1 q2 => by rw [h.1 2 (by decide) (by omega)]; exact ht.2.2 j q1 q2⟩
theorem m19 {k : Int} (hk : k = 2 ∨ k = 4 ∨ k = 6) : RV X (d + 1) 19 [.inl k] (sh, R, I) (k * k * k / 2) := by
  show WP X (d + 1) 19 0 [.inl k] [] (sh, R, I) 0 0 _
  refine w_iload (pc' := 1) k19_0 rfl rfl ?_
  refine w_iload (pc' := 2) k19_1 rfl rfl ?_
  refine w_imul (pc' := 3) k19_2 rfl (by rcases hk with rfl | rfl | rfl <;> omega) ?_
  refine w_iload (pc' := 4) k19_3 rfl rfl ?_
  refine w_imul (pc' := 5) k19_4 rfl (by rcases hk with rfl | rfl | rfl <;> omega) ?_
  refine w_c1 (pc' := 6) k19_5 rfl ?_
  refine w_idiv (pc' := 7) k19_6 rfl (by rcases hk with rfl | rfl | rfl <;> omega) ?_
  exact w_reti k19_7 ⟨rfl, rfl⟩
theorem m16 (hL : LC sh R) (h_s : isS s) (ht : TX I tx len) (hps : PSr I s st) (hk : st.1 = 2 ∨ st.1 = 4 ∨ st.1 = 6) {p : Int} (hp : I 1 3 = p + 1) (hp0 : 0 ≤ p ∧ p ≤ 200) : WPM X (d + 3) 16 [.inr (some 1), .inr (some s)] (sh, R, I) 0 0 (fun r h' => ∃ I', h' = (sh, R, I') ∧ DR I I' s ∧ ((r = .inl 1 ∧ okFl tx len st p ∧ PSr I' s (psF tx len st p) ∧ I' 1 3 = (numS tx len (p + 13) 1).2) ∨ (r = .inl 0 ∧ ¬ okFl tx len st p))) := by
  have hlen := ht.2.1
  have hs25 : 25 ≤ s := by rcases h_s with rfl | rfl | rfl | rfl <;> omega
  have a_0 : AT I I (p + 1) := AT.rf hp
  have hn := numS_r (tx := tx) (len := len) (p := p + 13) (m := 1) (by omega)
  have hh1 := hst_r (tx := tx) (len := len) (p := p + 1) hk
  have hh2 := hst_r (tx := tx) (len := len) (p := p + 7) hk
  show WP X (d + 3) 16 0 [.inr (some 1), .inr (some s), .inr none, .inr none, .inr none] [] (sh, R, I) 0 0 _
  refine w_aload (pc' := 1) k16_0 rfl rfl ?_
  refine w_callI (pc' := 4) (as := [.inr (some 1)]) k16_1 rfl rfl (co_v rfl rfl (hL.1 1 (4, 4) rfl)) (by decide) (m17 hL ht hp (by omega) hk hps.1) (fun z_1 h_1 hq => ?_)
  obtain ⟨hz, I_1, p_1, rfl, a_1, f_1⟩ := hq
  have hz := Sum.inl.inj hz
  subst hz
  refine w_istore (pc' := 5) (ls' := [_, _, _, _, _]) k16_4 rfl rfl rfl ?_
  refine w_iload (pc' := 6) k16_5 rfl rfl ?_
  refine w_c1 (pc' := 7) k16_6 rfl ?_
  refine w_ic_eq (pc' := 10) k16_7 rfl (fun c_7 => ?_) (fun c_7 => ?_)
  · refine w_c1 (pc' := 20) k16_19 rfl ?_
    refine w_retz k16_20 (Or.inl rfl) ⟨_, rfl, a_1.dr h_s, Or.inr ⟨rfl, ?_⟩⟩
    unfold okFl
    rintro ⟨h1, h2, h3, h4, h5, h6, h7⟩
    omega
  · have f_1 := f_1 (by omega)
    rw [show p + 1 + 5 = p + 6 by omega] at f_1
    subst f_1
    refine w_aload (pc' := 11) k16_10 rfl rfl ?_
    refine w_c2 (pc' := 13) k16_11 rfl ?_
    refine w_callI (pc' := 16) (as := [.inr (some 1), .inl _]) k16_13 rfl rfl (co_v rfl rfl (hL.1 1 (4, 4) rfl)) (by decide) (m22 hL (a_1.tt ht) a_1.at (by omega) (by decide)) (fun z_13 h_13 hq => ?_)
    obtain ⟨I_2, rfl, ⟨e9, l_2, b_2⟩ | ⟨e9, l_2, b_2⟩⟩ := hq
    · have e9 := Sum.inl.inj e9
      subst e9
      have a_2 := a_1.tr b_2
      refine w_if_ne (pc' := 19) k16_16 rfl (fun _ => ?_) (fun c_16 => absurd c_16 (by decide))
      rw [show p + 6 + 1 = p + 7 by omega] at a_2
      refine w_aload (pc' := 22) k16_21 rfl rfl ?_
      refine w_callI (pc' := 25) (as := [.inr (some 1)]) k16_22 rfl rfl (co_v rfl rfl (hL.1 1 (4, 4) rfl)) (by decide) (m17 hL (a_2.tt ht) a_2.at (by omega) hk (by rw [a_2.k]; exact hps.1)) (fun z_22 h_22 hq => ?_)
      obtain ⟨hz, I_3, p_3, rfl, b_3, f_3⟩ := hq
      have hz := Sum.inl.inj hz
      subst hz
      have a_3 := a_2.tr b_3
      refine w_istore (pc' := 26) (ls' := [_, _, _, _, _]) k16_25 rfl rfl rfl ?_
      refine w_iload (pc' := 27) k16_26 rfl rfl ?_
      refine w_c1 (pc' := 28) k16_27 rfl ?_
      refine w_ic_eq (pc' := 31) k16_28 rfl (fun c_28 => ?_) (fun c_28 => ?_)
      · refine w_c1 (pc' := 46) k16_45 rfl ?_
        refine w_retz k16_46 (Or.inl rfl) ⟨_, rfl, a_3.dr h_s, Or.inr ⟨rfl, ?_⟩⟩
        unfold okFl
        rintro ⟨h1, h2, h3, h4, h5, h6, h7⟩
        omega
      · have f_3 := f_3 (by omega)
        rw [show p + 7 + 5 = p + 12 by omega] at f_3
        subst f_3
        refine w_iload (pc' := 32) k16_31 rfl rfl ?_
        refine w_iload (pc' := 33) k16_32 rfl rfl ?_
        refine w_ic_eq (pc' := 36) k16_33 rfl (fun c_33 => ?_) (fun c_33 => ?_)
        · refine w_c1 (pc' := 46) k16_45 rfl ?_
          refine w_retz k16_46 (Or.inl rfl) ⟨_, rfl, a_3.dr h_s, Or.inr ⟨rfl, ?_⟩⟩
          unfold okFl
          rintro ⟨h1, h2, h3, h4, h5, h6, h7⟩
          omega
        · refine w_aload (pc' := 37) k16_36 rfl rfl ?_
          refine w_c2 (pc' := 39) k16_37 rfl ?_
          refine w_callI (pc' := 42) (as := [.inr (some 1), .inl _]) k16_39 rfl rfl (co_v rfl rfl (hL.1 1 (4, 4) rfl)) (by decide) (m22 hL (a_3.tt ht) a_3.at (by omega) (by decide)) (fun z_39 h_39 hq => ?_)
          obtain ⟨I_4, rfl, ⟨e9, l_4, b_4⟩ | ⟨e9, l_4, b_4⟩⟩ := hq
          · have e9 := Sum.inl.inj e9
            subst e9
            have a_4 := a_3.tr b_4
            refine w_if_ne (pc' := 45) k16_42 rfl (fun _ => ?_) (fun c_42 => absurd c_42 (by decide))
            rw [show p + 12 + 1 = p + 13 by omega] at a_4
            refine w_aload (pc' := 48) k16_47 rfl rfl ?_
            refine w_c1 (pc' := 49) k16_48 rfl ?_
            refine w_callI (pc' := 52) (as := [.inr (some 1), .inl _]) k16_49 rfl rfl (co_v rfl rfl (hL.1 1 (4, 4) rfl)) (by decide) (m20 hL (a_4.tt ht) a_4.at (by omega) (m := 1) (by omega)) (fun z_49 h_49 hq => ?_)
            obtain ⟨hz, I_5, rfl, b_5⟩ := hq
            have hz := Sum.inl.inj hz
            subst hz
            have a_5 := a_4.tr b_5
            have ps5 := a_5.ps h_s hps
            refine w_istore (pc' := 54) (ls' := [_, _, _, _, _]) k16_52 rfl rfl rfl ?_
            refine w_iload (pc' := 56) k16_54 rfl rfl ?_
            refine w_if_le (pc' := 59) k16_56 rfl (fun c_56 => ?_) (fun c_56 => ?_)
            · refine w_c1 (pc' := 75) k16_74 rfl ?_
              refine w_retz k16_75 (Or.inl rfl) ⟨_, rfl, a_5.dr h_s, Or.inr ⟨rfl, ?_⟩⟩
              unfold okFl
              rintro ⟨h1, h2, h3, h4, h5, h6, h7⟩
              omega
            · refine w_aload (pc' := 60) k16_59 rfl rfl ?_
              refine w_iload (pc' := 61) k16_60 rfl rfl ?_
              refine w_iload (pc' := 62) k16_61 rfl rfl ?_
              refine w_iload (pc' := 64) k16_62 rfl rfl ?_
              refine w_callI (pc' := 67) (as := [.inr (some s), .inl _, .inl _, .inl _]) k16_64 rfl rfl (co_v rfl rfl (hL.s0 h_s)) (by decide) (m56 hL h_s ps5.2.1 ps5.2.2.1.1) (fun z_64 h_64 hq => ?_)
              rcases hq with ⟨g1, g2, g3⟩ | ⟨g1, g2, I_6, rfl, g3, g4, g5, g6, g7, g8⟩
              · have g2 := Sum.inl.inj g2
                subst g2
                subst g3
                refine w_if_eq (pc' := 70) k16_67 rfl (fun _ => ?_) (fun c_67 => absurd c_67 (by decide))
                refine w_c1 (pc' := 75) k16_74 rfl ?_
                refine w_retz k16_75 (Or.inl rfl) ⟨_, rfl, a_5.dr h_s, Or.inr ⟨rfl, ?_⟩⟩
                unfold okFl
                rintro ⟨h1, h2, h3, h4, h5, h6, h7⟩
                omega
              · have g2 := Sum.inl.inj g2
                subst g2
                refine w_if_eq (pc' := 70) k16_67 rfl (fun c_67 => absurd c_67 (by decide)) (fun _ => ?_)
                refine w_c1 (pc' := 71) k16_70 rfl ?_
                refine w_goto k16_71 ?_
                refine w_retz k16_75 (Or.inr rfl) ⟨_, rfl, ?_, Or.inl ⟨rfl, ?_, ?_, ?_⟩⟩
                · refine (a_5.dr h_s).tr ⟨fun a q1 q2 => g3 a (by omega) (by omega), by rw [g3 1 (by omega) (by omega)], by rw [g4, upF_n (by decide)], by rw [g4, upF_n (by decide)]⟩
                · exact ⟨by omega, l_2, by omega, Ne.symm c_33, l_4, by omega, g1⟩
                · refine ⟨by rw [g3 1 (by omega) (by omega)]; exact ps5.1, by rw [g4, upF_s]; rfl, ⟨by show 0 ≤ st.2.1 + 1; have := hps.2.2.1; omega, by show st.2.1 + 1 ≤ 16; omega⟩, fun f q1 q2 => ?_, fun l q1 q2 => by rw [g3 _ (by omega) (by omega)]; exact ps5.2.2.2.2 l q1 q2⟩
                  have q2 : f < st.2.1 + 1 := q2
                  rw [g5, g6, g7, g8]
                  show upF (I_5 (s + 2)) st.2.1 _ f = upF st.2.2.1 st.2.1 _ f ∧ upF (I_5 (s + 3)) st.2.1 _ f = upF st.2.2.2.1 st.2.1 _ f ∧ upF (I_5 (s + 4)) st.2.1 _ f = upF st.2.2.2.2.1 st.2.1 _ f ∧ upF (I_5 (s + 5)) st.2.1 0 f = 0
                  by_cases e : f = st.2.1
                  · rw [e]; simp only [upF_s]; trivial
                  · rw [upF_n e, upF_n e, upF_n e, upF_n e, upF_n e, upF_n e, upF_n e]; exact ps5.2.2.2.1 f q1 (by omega)
                · rw [g3 1 (by omega) (by omega)]; exact a_5.at
          · have e9 := Sum.inl.inj e9
            subst e9
            have a_4 := a_3.tr b_4
            refine w_if_ne (pc' := 45) k16_42 rfl (fun c_42 => absurd c_42 (by decide)) (fun _ => ?_)
            refine w_c1 (pc' := 46) k16_45 rfl ?_
            refine w_retz k16_46 (Or.inl rfl) ⟨_, rfl, a_4.dr h_s, Or.inr ⟨rfl, ?_⟩⟩
            unfold okFl
            rintro ⟨h1, h2, h3, h4, h5, h6, h7⟩
            exact l_4 h5
    · have e9 := Sum.inl.inj e9
      subst e9
      have a_2 := a_1.tr b_2
      refine w_if_ne (pc' := 19) k16_16 rfl (fun c_16 => absurd c_16 (by decide)) (fun _ => ?_)
      refine w_c1 (pc' := 20) k16_19 rfl ?_
      refine w_retz k16_20 (Or.inl rfl) ⟨_, rfl, a_2.dr h_s, Or.inr ⟨rfl, ?_⟩⟩
      unfold okFl
      rintro ⟨h1, h2, h3, h4, h5, h6, h7⟩
      exact l_2 h2
theorem m18 (hL : LC sh R) (h_s : isS s) (ht : TX I tx len) (hps : PSr I s st) (hk : st.1 = 2 ∨ st.1 = 4 ∨ st.1 = 6) {p : Int} (hp : I 1 3 = p + 1) (hp0 : 0 ≤ p ∧ p ≤ 200) : WPM X (d + 3) 18 [.inr (some 1), .inr (some s)] (sh, R, I) 0 0 (fun r h' => ∃ I', h' = (sh, R, I') ∧ DR I I' s ∧ ((r = .inl 1 ∧ okCu tx len st p ∧ PSr I' s (psX tx len st p) ∧ I' 1 3 = (numS tx len (p + 1) 2).2) ∨ (r = .inl 0 ∧ ¬ okCu tx len st p))) := by
  have hlen := ht.2.1
  have hs25 : 25 ≤ s := by rcases h_s with rfl | rfl | rfl | rfl <;> omega
  have a_0 : AT I I (p + 1) := AT.rf hp
  have hn := numS_r (tx := tx) (len := len) (p := p + 1) (m := 2) (by omega)
  have hk108 : st.1 * st.1 * st.1 / 2 ≤ 108 := by rcases hk with h | h | h <;> rw [h] <;> decide
  show WP X (d + 3) 18 0 [.inr (some 1), .inr (some s), .inr none] [] (sh, R, I) 0 0 _
  have hwh : ∀ {d : Nat} {I5 : Nat → Int → Int} {z : Int}, PSr I5 s st → 0 ≤ z → z < 108 → BV X (d + 1) 49 [.inr (some s), .inl z] (sh, R, I5) (ev (st.2.2.2.2.2 z) = true) := by
    intro d I5 z ps hz1 hz2
    have hc9 := ps.2.2.2.2 z hz1 hz2
    show WP X (d + 1) 49 0 [.inr (some s), .inl z] [] (sh, R, I5) 0 0 _
    refine w_aload (pc' := 1) k49_0 rfl rfl ?_
    refine w_getR (pc' := 4) (v := (s + 1)) k49_1 rfl (hL.s0 h_s) (hL.r0 h_s) ?_
    refine w_iload (pc' := 5) k49_4 rfl rfl ?_
    refine w_iald (pc' := 6) (v := st.2.2.2.2.2 z) k49_5 rfl (hL.s1 h_s) (by omega) hc9.1 ?_
    refine w_c1 (pc' := 7) k49_6 rfl ?_
    refine w_irem (pc' := 8) k49_7 rfl (by omega) ?_
    refine w_if_ne (pc' := 11) k49_8 rfl (fun c_8 => ?_) (fun c_8 => ?_)
    · refine w_c1 (pc' := 16) k49_15 rfl ?_
      exact w_retz k49_16 (Or.inl rfl) ⟨rfl, Or.inr ⟨rfl, by rw [ev_t]; omega⟩⟩
    · refine w_c1 (pc' := 12) k49_11 rfl ?_
      refine w_goto k49_12 ?_
      exact w_retz k49_16 (Or.inr rfl) ⟨rfl, Or.inl ⟨rfl, by rw [ev_t]; omega⟩⟩
  refine w_aload (pc' := 1) k18_0 rfl rfl ?_
  refine w_c1 (pc' := 2) k18_1 rfl ?_
  refine w_callI (pc' := 5) (as := [.inr (some 1), .inl _]) k18_2 rfl rfl (co_v rfl rfl (hL.1 1 (4, 4) rfl)) (by decide) (m20 hL ht hp (by omega) (m := 2) (by omega)) (fun z_2 h_2 hq => ?_)
  obtain ⟨hz, I_5, rfl, a_5⟩ := hq
  have hz := Sum.inl.inj hz
  subst hz
  have ps5 := a_5.ps h_s hps
  refine w_istore (pc' := 6) (ls' := [_, _, _]) k18_5 rfl rfl rfl ?_
  refine w_iload (pc' := 7) k18_6 rfl rfl ?_
  refine w_if_lt (pc' := 10) k18_7 rfl (fun c_7 => ?_) (fun c_7 => ?_)
  · refine w_c1 (pc' := 30) k18_29 rfl ?_
    refine w_retz k18_30 (Or.inl rfl) ⟨_, rfl, a_5.dr h_s, Or.inr ⟨rfl, ?_⟩⟩
    unfold okCu
    rintro ⟨h1, h2, h3⟩
    omega
  · refine w_iload (pc' := 11) k18_10 rfl rfl ?_
    refine w_aload (pc' := 12) k18_11 rfl rfl ?_
    refine w_getI (pc' := 15) (ki := 2) (v := st.1) k18_12 rfl (hL.1 1 (4, 4) rfl) rfl ps5.1 ?_
    refine w_callE (pc' := 18) (as := [.inl _]) k18_15 rfl rfl (co_s (Or.inl rfl) rfl rfl rfl) (by decide) (m19 hk) ?_
    refine w_ic_ge (pc' := 21) k18_18 rfl (fun c_18 => ?_) (fun c_18 => ?_)
    · refine w_c1 (pc' := 30) k18_29 rfl ?_
      refine w_retz k18_30 (Or.inl rfl) ⟨_, rfl, a_5.dr h_s, Or.inr ⟨rfl, ?_⟩⟩
      unfold okCu
      rintro ⟨h1, h2, h3⟩
      omega
    · refine w_aload (pc' := 22) k18_21 rfl rfl ?_
      refine w_iload (pc' := 23) k18_22 rfl rfl ?_
      refine w_callB (pc' := 26) (as := [.inr (some s), .inl _]) k18_23 rfl rfl (co_v rfl rfl (hL.s0 h_s)) (by decide) (hwh ps5 (by omega) (by omega)) (fun q_23 => ?_) (fun q_23 => ?_)
      · refine w_if_ne (pc' := 29) k18_26 rfl (fun _ => ?_) (fun c_26 => absurd c_26 (by decide))
        refine w_aload (pc' := 32) k18_31 rfl rfl ?_
        refine w_getR (pc' := 35) (v := (s + 1)) k18_32 rfl (hL.s0 h_s) (hL.r0 h_s) ?_
        refine w_iload (pc' := 36) k18_35 rfl rfl ?_
        refine w_c1 (pc' := 37) k18_36 rfl ?_
        refine w_iast (pc' := 38) k18_37 rfl (hL.s1 h_s) (by omega) ?_
        refine w_c1 (pc' := 39) k18_38 rfl ?_
        refine w_retz k18_39 (Or.inr rfl) ⟨_, rfl, ?_, Or.inl ⟨rfl, ?_, ?_, ?_⟩⟩
        · exact (a_5.dr h_s).tr ⟨fun a q1 q2 => upA_n (by omega), by rw [upA_n (by omega)], by rw [upA_n (by omega)], by rw [upA_n (by omega)]⟩
        · refine ⟨by omega, by omega, fun z => ?_⟩
          rw [z] at q_23
          exact absurd q_23 (by decide)
        · refine ⟨by rw [upA_n (by omega)]; exact ps5.1, by rw [upA_n (by omega)]; exact ps5.2.1, ps5.2.2.1, fun f q1 q2 => by rw [upA_n (by omega), upA_n (by omega), upA_n (by omega), upA_n (by omega)]; exact ps5.2.2.2.1 f q1 q2, fun l q1 q2 => ?_⟩
          rw [upA_s]
          show upF (I_5 (s + 1)) _ 1 l = upF st.2.2.2.2.2 _ 1 l ∧ (upF st.2.2.2.2.2 _ 1 l = 0 ∨ upF st.2.2.2.2.2 _ 1 l = 1)
          by_cases e : l = (numS tx len (p + 1) 2).1
          · rw [e, upF_s, upF_s]; exact ⟨rfl, Or.inr rfl⟩
          · rw [upF_n e, upF_n e]; exact ps5.2.2.2.2 l q1 q2
        · rw [upA_n (by omega)]; exact a_5.at
      · refine w_if_ne (pc' := 29) k18_26 rfl (fun c_26 => absurd c_26 (by decide)) (fun _ => ?_)
        refine w_c1 (pc' := 30) k18_29 rfl ?_
        refine w_retz k18_30 (Or.inl rfl) ⟨_, rfl, a_5.dr h_s, Or.inr ⟨rfl, ?_⟩⟩
        unfold okCu
        rintro ⟨h1, h2, h3⟩
        rcases (ps5.2.2.2.2 _ h1 (by omega)).2 with q | q
        · exact q_23 (by rw [q]; decide)
        · exact h3 q
end C41
