/-! ===== CLASS: Script, the whole text ===== -/
section C42
variable {X : Nat × (Int → Int)} {d : Nat} {sh : List (Nat × Nat)} {R : Nat → Nat → Option Nat} {I : Nat → Int → Int} {s g_s M_s : Nat} {K H E HO S L B : Int} {A : AS}
variable {tx : Int → Int} {len : Int} {st : PS}
theorem m15 (hL : LC sh R) (h_s : isS s) (ht : TX I tx len) (hps : PSr I s st) {p : Int} (hp : I 1 3 = p + 1) (hp0 : 0 ≤ p ∧ p ≤ 200) : WPM X (d + 2) 15 [.inr (some 1)] (sh, R, I) 0 0 (fun r h' => ∃ I', h' = (sh, R, I') ∧ DR I I' s ∧ ((r = .inl 1 ∧ (fg tx len (p + 1) = 2 ∨ fg tx len (p + 1) = 4 ∨ fg tx len (p + 1) = 6) ∧ PSr I' s (fg tx len (p + 1), st.2) ∧ I' 1 3 = p + 2) ∨ (r = .inl 0 ∧ ¬ (fg tx len (p + 1) = 2 ∨ fg tx len (p + 1) = 4 ∨ fg tx len (p + 1) = 6)))) := by
  have hs25 : 25 ≤ s := by rcases h_s with rfl | rfl | rfl | rfl <;> omega
  show WP X (d + 2) 15 0 [.inr (some 1)] [] (sh, R, I) 0 0 _
  refine w_aload (pc' := 1) k15_0 rfl rfl ?_
  refine w_aload (pc' := 2) k15_1 rfl rfl ?_
  refine w_callI (pc' := 5) (as := [.inr (some 1)]) k15_2 rfl rfl (co_v rfl rfl (hL.1 1 (4, 4) rfl)) (by decide) (m21 hL ht hp (by omega)) (fun z_2 h_2 hq => ?_)
  obtain ⟨hz, I_1, rfl, a_1⟩ := hq
  have hz := Sum.inl.inj hz
  subst hz
  refine w_putI (pc' := 8) (ki := 2) k15_5 rfl (hL.1 1 (4, 4) rfl) rfl ?_
  refine w_aload (pc' := 9) k15_8 rfl rfl ?_
  refine w_getI (pc' := 12) (ki := 2) (v := fg tx len (p + 1)) k15_9 rfl (hL.1 1 (4, 4) rfl) rfl (by rw [upA_s, upF_s]) ?_
  refine w_c1 (pc' := 13) k15_12 rfl ?_
  refine w_ic_eq (pc' := 16) k15_13 rfl (fun c_13 => ?_) (fun c_13 => ?_)
  · refine w_c1 (pc' := 34) k15_33 rfl ?_
    refine w_goto k15_34 ?_
    refine w_retz k15_38 (Or.inr rfl) ⟨_, rfl, (a_1.dr h_s).tr ⟨fun a q1 q2 => upA_n q1, by rw [upA_s, upF_n (by decide)], by rw [upA_n (by omega)], by rw [upA_n (by omega)]⟩, Or.inl ⟨rfl, by omega, ?_, ?_⟩⟩
    · have ps := a_1.ps h_s hps
      exact ⟨by rw [upA_s, upF_s], by rw [upA_n (by omega)]; exact ps.2.1, ps.2.2.1, fun f q1 q2 => by rw [upA_n (by omega), upA_n (by omega), upA_n (by omega), upA_n (by omega)]; exact ps.2.2.2.1 f q1 q2, fun l q1 q2 => by rw [upA_n (by omega)]; exact ps.2.2.2.2 l q1 q2⟩
    · rw [upA_s, upF_n (by decide), a_1.at, if_neg (by omega)]; omega
  · refine w_aload (pc' := 17) k15_16 rfl rfl ?_
    refine w_getI (pc' := 20) (ki := 2) (v := fg tx len (p + 1)) k15_17 rfl (hL.1 1 (4, 4) rfl) rfl (by rw [upA_s, upF_s]) ?_
    refine w_c1 (pc' := 21) k15_20 rfl ?_
    refine w_ic_eq (pc' := 24) k15_21 rfl (fun c_21 => ?_) (fun c_21 => ?_)
    · refine w_c1 (pc' := 34) k15_33 rfl ?_
      refine w_goto k15_34 ?_
      refine w_retz k15_38 (Or.inr rfl) ⟨_, rfl, (a_1.dr h_s).tr ⟨fun a q1 q2 => upA_n q1, by rw [upA_s, upF_n (by decide)], by rw [upA_n (by omega)], by rw [upA_n (by omega)]⟩, Or.inl ⟨rfl, by omega, ?_, ?_⟩⟩
      · have ps := a_1.ps h_s hps
        exact ⟨by rw [upA_s, upF_s], by rw [upA_n (by omega)]; exact ps.2.1, ps.2.2.1, fun f q1 q2 => by rw [upA_n (by omega), upA_n (by omega), upA_n (by omega), upA_n (by omega)]; exact ps.2.2.2.1 f q1 q2, fun l q1 q2 => by rw [upA_n (by omega)]; exact ps.2.2.2.2 l q1 q2⟩
      · rw [upA_s, upF_n (by decide), a_1.at, if_neg (by omega)]; omega
    · refine w_aload (pc' := 25) k15_24 rfl rfl ?_
      refine w_getI (pc' := 28) (ki := 2) (v := fg tx len (p + 1)) k15_25 rfl (hL.1 1 (4, 4) rfl) rfl (by rw [upA_s, upF_s]) ?_
      refine w_c2 (pc' := 30) k15_28 rfl ?_
      refine w_ic_ne (pc' := 33) k15_30 rfl (fun c_30 => ?_) (fun c_30 => ?_)
      · refine w_c1 (pc' := 38) k15_37 rfl ?_
        exact w_retz k15_38 (Or.inl rfl) ⟨_, rfl, (a_1.dr h_s).tr ⟨fun a q1 q2 => upA_n q1, by rw [upA_s, upF_n (by decide)], by rw [upA_n (by omega)], by rw [upA_n (by omega)]⟩, Or.inr ⟨rfl, by omega⟩⟩
      · refine w_c1 (pc' := 34) k15_33 rfl ?_
        refine w_goto k15_34 ?_
        refine w_retz k15_38 (Or.inr rfl) ⟨_, rfl, (a_1.dr h_s).tr ⟨fun a q1 q2 => upA_n q1, by rw [upA_s, upF_n (by decide)], by rw [upA_n (by omega)], by rw [upA_n (by omega)]⟩, Or.inl ⟨rfl, by omega, ?_, ?_⟩⟩
        · have ps := a_1.ps h_s hps
          exact ⟨by rw [upA_s, upF_s], by rw [upA_n (by omega)]; exact ps.2.1, ps.2.2.1, fun f q1 q2 => by rw [upA_n (by omega), upA_n (by omega), upA_n (by omega), upA_n (by omega)]; exact ps.2.2.2.1 f q1 q2, fun l q1 q2 => by rw [upA_n (by omega)]; exact ps.2.2.2.2 l q1 q2⟩
        · rw [upA_s, upF_n (by decide), a_1.at, if_neg (by omega)]; omega
theorem m14 (hL : LC sh R) (h_s : isS s) (ht : TX I tx len) (hps : PSr I s st) (hk : st.1 = 0 ∨ st.1 = 2 ∨ st.1 = 4 ∨ st.1 = 6) {p : Int} (hp : I 1 3 = p) (hp0 : 0 ≤ p ∧ p < len) : WPM X (d + 4) 14 [.inr (some 1), .inr (some s)] (sh, R, I) 0 0 (fun r h' => ∃ I', h' = (sh, R, I') ∧ DR I I' s ∧ ((r = .inl 1 ∧ ∃ st' p', itemR tx len st p st' p' ∧ PSr I' s st' ∧ I' 1 3 = p') ∨ (r = .inl 0 ∧ ∀ st' p', ¬ itemR tx len st p st' p'))) := by
  have hlen := ht.2.1
  have hs25 : 25 ≤ s := by rcases h_s with rfl | rfl | rfl | rfl <;> omega
  have hn1 := numS_r (tx := tx) (len := len) (p := p + 13) (m := 1) (by omega)
  have hn2 := numS_r (tx := tx) (len := len) (p := p + 1) (m := 2) (by omega)
  show WP X (d + 4) 14 0 [.inr (some 1), .inr (some s)] [] (sh, R, I) 0 0 _
  refine w_aload (pc' := 1) k14_0 rfl rfl ?_
  refine w_c2 (pc' := 3) k14_1 rfl ?_
  refine w_callI (pc' := 6) (as := [.inr (some 1), .inl _]) k14_3 rfl rfl (co_v rfl rfl (hL.1 1 (4, 4) rfl)) (by decide) (m22 hL ht hp (by omega) (by decide)) (fun z_3 h_3 hq => ?_)
  obtain ⟨I_1, rfl, ⟨e9, l_1, a_1⟩ | ⟨e9, l_1, a_1⟩⟩ := hq
  · have e9 := Sum.inl.inj e9
    subst e9
    refine w_if_eq (pc' := 9) k14_6 rfl (fun c_6 => absurd c_6 (by decide)) (fun _ => ?_)
    refine w_aload (pc' := 10) k14_9 rfl rfl ?_
    refine w_getI (pc' := 13) (ki := 2) (v := st.1) k14_10 rfl (hL.1 1 (4, 4) rfl) rfl (by rw [a_1.k]; exact hps.1) ?_
    refine w_if_ne (pc' := 16) k14_13 rfl (fun c_13 => ?_) (fun c_13 => ?_)
    · refine w_c1 (pc' := 37) k14_36 rfl ?_
      refine w_retz k14_37 (Or.inl rfl) ⟨_, rfl, a_1.dr h_s, Or.inr ⟨rfl, ?_⟩⟩
      rintro st' p' (⟨x1, x2, x3, -, -⟩ | ⟨x1, x2, x3, x4, -, -⟩ | ⟨x1, x2, x3, x4, -, -⟩)
      · exact absurd x2.1 c_13
      · omega
      · omega
    · refine w_aload (pc' := 17) k14_16 rfl rfl ?_
      refine w_callI (pc' := 20) (as := [.inr (some 1)]) k14_17 rfl rfl (co_v rfl rfl (hL.1 1 (4, 4) rfl)) (by decide) (m15 hL h_s (a_1.tt ht) (a_1.ps h_s hps) a_1.at (by omega)) (fun z_17 h_17 hq => ?_)
      obtain ⟨I_2, rfl, d_2, ⟨e9, o_2, s_2, t_2⟩ | ⟨e9, o_2⟩⟩ := hq
      · have e9 := Sum.inl.inj e9
        subst e9
        refine w_if_eq (pc' := 23) k14_20 rfl (fun c_20 => absurd c_20 (by decide)) (fun _ => ?_)
        refine w_aload (pc' := 24) k14_23 rfl rfl ?_
        refine w_c2 (pc' := 26) k14_24 rfl ?_
        refine w_callI (pc' := 29) (as := [.inr (some 1), .inl _]) k14_26 rfl rfl (co_v rfl rfl (hL.1 1 (4, 4) rfl)) (by decide) (m22 hL ((a_1.dr h_s).tr d_2 |>.tx9 h_s ht) t_2 (by omega) (by decide)) (fun z_26 h_26 hq => ?_)
        obtain ⟨I_3, rfl, ⟨e9, l_3, a_3⟩ | ⟨e9, l_3, a_3⟩⟩ := hq
        · have e9 := Sum.inl.inj e9
          subst e9
          refine w_if_eq (pc' := 32) k14_29 rfl (fun c_29 => absurd c_29 (by decide)) (fun _ => ?_)
          refine w_c1 (pc' := 33) k14_32 rfl ?_
          refine w_goto k14_33 ?_
          exact w_retz k14_37 (Or.inr rfl) ⟨_, rfl, ((a_1.dr h_s).tr d_2).tr (a_3.dr h_s), Or.inl ⟨rfl, _, _, Or.inl ⟨l_1, ⟨c_13, o_2⟩, l_3, rfl, rfl⟩, a_3.ps h_s s_2, by rw [a_3.at]; omega⟩⟩
        · have e9 := Sum.inl.inj e9
          subst e9
          refine w_if_eq (pc' := 32) k14_29 rfl (fun _ => ?_) (fun c_29 => absurd c_29 (by decide))
          refine w_c1 (pc' := 37) k14_36 rfl ?_
          refine w_retz k14_37 (Or.inl rfl) ⟨_, rfl, ((a_1.dr h_s).tr d_2).tr (a_3.dr h_s), Or.inr ⟨rfl, ?_⟩⟩
          rintro st' p' (⟨x1, x2, x3, -, -⟩ | ⟨x1, x2, x3, x4, -, -⟩ | ⟨x1, x2, x3, x4, -, -⟩)
          · exact l_3 x3
          · omega
          · omega
      · have e9 := Sum.inl.inj e9
        subst e9
        refine w_if_eq (pc' := 23) k14_20 rfl (fun _ => ?_) (fun c_20 => absurd c_20 (by decide))
        refine w_c1 (pc' := 37) k14_36 rfl ?_
        refine w_retz k14_37 (Or.inl rfl) ⟨_, rfl, (a_1.dr h_s).tr d_2, Or.inr ⟨rfl, ?_⟩⟩
        rintro st' p' (⟨x1, x2, x3, -, -⟩ | ⟨x1, x2, x3, x4, -, -⟩ | ⟨x1, x2, x3, x4, -, -⟩)
        · exact o_2 x2.2
        · omega
        · omega
  · have e9 := Sum.inl.inj e9
    subst e9
    refine w_if_eq (pc' := 9) k14_6 rfl (fun _ => ?_) (fun c_6 => absurd c_6 (by decide))
    refine w_aload (pc' := 39) k14_38 rfl rfl ?_
    refine w_getI (pc' := 42) (ki := 2) (v := st.1) k14_39 rfl (hL.1 1 (4, 4) rfl) rfl (by rw [a_1.k]; exact hps.1) ?_
    refine w_if_ne (pc' := 45) k14_42 rfl (fun c_42 => ?_) (fun c_42 => ?_)
    · refine w_aload (pc' := 48) k14_47 rfl rfl ?_
      refine w_c2 (pc' := 50) k14_48 rfl ?_
      refine w_callI (pc' := 53) (as := [.inr (some 1), .inl _]) k14_50 rfl rfl (co_v rfl rfl (hL.1 1 (4, 4) rfl)) (by decide) (m22 hL (a_1.tt ht) a_1.at (by omega) (by decide)) (fun z_50 h_50 hq => ?_)
      obtain ⟨I_4, rfl, ⟨e9, l_4, a_4⟩ | ⟨e9, l_4, a_4⟩⟩ := hq
      · have e9 := Sum.inl.inj e9
        subst e9
        refine w_if_eq (pc' := 56) k14_53 rfl (fun c_53 => absurd c_53 (by decide)) (fun _ => ?_)
        refine w_aload (pc' := 57) k14_56 rfl rfl ?_
        refine w_aload (pc' := 58) k14_57 rfl rfl ?_
        refine w_callI (pc' := 61) (as := [.inr (some 1), .inr (some s)]) k14_58 rfl rfl (co_v rfl rfl (hL.1 1 (4, 4) rfl)) (by decide) (m16 hL h_s ((a_1.tr a_4).tt ht) ((a_1.tr a_4).ps h_s hps) (by omega) (a_1.tr a_4).at (by omega)) (fun z_58 h_58 hq => ?_)
        obtain ⟨I_5, rfl, d_5, ⟨e9, o_5, s_5, t_5⟩ | ⟨e9, o_5⟩⟩ := hq
        · have e9 := Sum.inl.inj e9
          subst e9
          refine w_if_eq (pc' := 64) k14_61 rfl (fun c_61 => absurd c_61 (by decide)) (fun _ => ?_)
          refine w_aload (pc' := 65) k14_64 rfl rfl ?_
          refine w_c2 (pc' := 67) k14_65 rfl ?_
          refine w_callI (pc' := 70) (as := [.inr (some 1), .inl _]) k14_67 rfl rfl (co_v rfl rfl (hL.1 1 (4, 4) rfl)) (by decide) (m22 hL (((a_1.tr a_4).dr h_s).tr d_5 |>.tx9 h_s ht) t_5 (by omega) (by decide)) (fun z_67 h_67 hq => ?_)
          obtain ⟨I_6, rfl, ⟨e9, l_6, a_6⟩ | ⟨e9, l_6, a_6⟩⟩ := hq
          · have e9 := Sum.inl.inj e9
            subst e9
            refine w_if_eq (pc' := 73) k14_70 rfl (fun c_70 => absurd c_70 (by decide)) (fun _ => ?_)
            refine w_c1 (pc' := 74) k14_73 rfl ?_
            refine w_goto k14_74 ?_
            exact w_retz k14_78 (Or.inr rfl) ⟨_, rfl, (((a_1.tr a_4).dr h_s).tr d_5).tr (a_6.dr h_s), Or.inl ⟨rfl, _, _, Or.inr (Or.inl ⟨l_4, c_42, o_5, l_6, rfl, rfl⟩), a_6.ps h_s s_5, a_6.at⟩⟩
          · have e9 := Sum.inl.inj e9
            subst e9
            refine w_if_eq (pc' := 73) k14_70 rfl (fun _ => ?_) (fun c_70 => absurd c_70 (by decide))
            refine w_c1 (pc' := 78) k14_77 rfl ?_
            refine w_retz k14_78 (Or.inl rfl) ⟨_, rfl, (((a_1.tr a_4).dr h_s).tr d_5).tr (a_6.dr h_s), Or.inr ⟨rfl, ?_⟩⟩
            rintro st' p' (⟨x1, x2, x3, -, -⟩ | ⟨x1, x2, x3, x4, -, -⟩ | ⟨x1, x2, x3, x4, -, -⟩)
            · omega
            · exact l_6 x4
            · omega
        · have e9 := Sum.inl.inj e9
          subst e9
          refine w_if_eq (pc' := 64) k14_61 rfl (fun _ => ?_) (fun c_61 => absurd c_61 (by decide))
          refine w_c1 (pc' := 78) k14_77 rfl ?_
          refine w_retz k14_78 (Or.inl rfl) ⟨_, rfl, ((a_1.tr a_4).dr h_s).tr d_5, Or.inr ⟨rfl, ?_⟩⟩
          rintro st' p' (⟨x1, x2, x3, -, -⟩ | ⟨x1, x2, x3, x4, -, -⟩ | ⟨x1, x2, x3, x4, -, -⟩)
          · omega
          · exact o_5 x3
          · omega
      · have e9 := Sum.inl.inj e9
        subst e9
        refine w_if_eq (pc' := 56) k14_53 rfl (fun _ => ?_) (fun c_53 => absurd c_53 (by decide))
        refine w_aload (pc' := 80) k14_79 rfl rfl ?_
        refine w_c2 (pc' := 82) k14_80 rfl ?_
        refine w_callI (pc' := 85) (as := [.inr (some 1), .inl _]) k14_82 rfl rfl (co_v rfl rfl (hL.1 1 (4, 4) rfl)) (by decide) (m22 hL ((a_1.tr a_4).tt ht) (a_1.tr a_4).at (by omega) (by decide)) (fun z_82 h_82 hq => ?_)
        obtain ⟨I_7, rfl, ⟨e9, l_7, a_7⟩ | ⟨e9, l_7, a_7⟩⟩ := hq
        · have e9 := Sum.inl.inj e9
          subst e9
          refine w_if_eq (pc' := 88) k14_85 rfl (fun c_85 => absurd c_85 (by decide)) (fun _ => ?_)
          refine w_aload (pc' := 89) k14_88 rfl rfl ?_
          refine w_aload (pc' := 90) k14_89 rfl rfl ?_
          refine w_callI (pc' := 93) (as := [.inr (some 1), .inr (some s)]) k14_90 rfl rfl (co_v rfl rfl (hL.1 1 (4, 4) rfl)) (by decide) (m18 hL h_s (((a_1.tr a_4).tr a_7).tt ht) (((a_1.tr a_4).tr a_7).ps h_s hps) (by omega) ((a_1.tr a_4).tr a_7).at (by omega)) (fun z_90 h_90 hq => ?_)
          obtain ⟨I_8, rfl, d_8, ⟨e9, o_8, s_8, t_8⟩ | ⟨e9, o_8⟩⟩ := hq
          · have e9 := Sum.inl.inj e9
            subst e9
            refine w_if_eq (pc' := 96) k14_93 rfl (fun c_93 => absurd c_93 (by decide)) (fun _ => ?_)
            refine w_aload (pc' := 97) k14_96 rfl rfl ?_
            refine w_c2 (pc' := 99) k14_97 rfl ?_
            refine w_callI (pc' := 102) (as := [.inr (some 1), .inl _]) k14_99 rfl rfl (co_v rfl rfl (hL.1 1 (4, 4) rfl)) (by decide) (m22 hL ((((a_1.tr a_4).tr a_7).dr h_s).tr d_8 |>.tx9 h_s ht) t_8 (by omega) (by decide)) (fun z_99 h_99 hq => ?_)
            obtain ⟨I_9, rfl, ⟨e9, l_9, a_9⟩ | ⟨e9, l_9, a_9⟩⟩ := hq
            · have e9 := Sum.inl.inj e9
              subst e9
              refine w_if_eq (pc' := 105) k14_102 rfl (fun c_102 => absurd c_102 (by decide)) (fun _ => ?_)
              refine w_c1 (pc' := 106) k14_105 rfl ?_
              refine w_goto k14_106 ?_
              exact w_retz k14_110 (Or.inr rfl) ⟨_, rfl, ((((a_1.tr a_4).tr a_7).dr h_s).tr d_8).tr (a_9.dr h_s), Or.inl ⟨rfl, _, _, Or.inr (Or.inr ⟨l_7, c_42, o_8, l_9, rfl, rfl⟩), a_9.ps h_s s_8, a_9.at⟩⟩
            · have e9 := Sum.inl.inj e9
              subst e9
              refine w_if_eq (pc' := 105) k14_102 rfl (fun _ => ?_) (fun c_102 => absurd c_102 (by decide))
              refine w_c1 (pc' := 110) k14_109 rfl ?_
              refine w_retz k14_110 (Or.inl rfl) ⟨_, rfl, ((((a_1.tr a_4).tr a_7).dr h_s).tr d_8).tr (a_9.dr h_s), Or.inr ⟨rfl, ?_⟩⟩
              rintro st' p' (⟨x1, x2, x3, -, -⟩ | ⟨x1, x2, x3, x4, -, -⟩ | ⟨x1, x2, x3, x4, -, -⟩)
              · omega
              · omega
              · exact l_9 x4
          · have e9 := Sum.inl.inj e9
            subst e9
            refine w_if_eq (pc' := 96) k14_93 rfl (fun _ => ?_) (fun c_93 => absurd c_93 (by decide))
            refine w_c1 (pc' := 110) k14_109 rfl ?_
            refine w_retz k14_110 (Or.inl rfl) ⟨_, rfl, (((a_1.tr a_4).tr a_7).dr h_s).tr d_8, Or.inr ⟨rfl, ?_⟩⟩
            rintro st' p' (⟨x1, x2, x3, -, -⟩ | ⟨x1, x2, x3, x4, -, -⟩ | ⟨x1, x2, x3, x4, -, -⟩)
            · omega
            · omega
            · exact o_8 x3
        · have e9 := Sum.inl.inj e9
          subst e9
          refine w_if_eq (pc' := 88) k14_85 rfl (fun _ => ?_) (fun c_85 => absurd c_85 (by decide))
          refine w_c1 (pc' := 110) k14_109 rfl ?_
          refine w_retz k14_110 (Or.inl rfl) ⟨_, rfl, ((a_1.tr a_4).tr a_7).dr h_s, Or.inr ⟨rfl, ?_⟩⟩
          rintro st' p' (⟨x1, x2, x3, -, -⟩ | ⟨x1, x2, x3, x4, -, -⟩ | ⟨x1, x2, x3, x4, -, -⟩)
          · exact l_1 x1
          · exact l_4 x1
          · exact l_7 x1
    · refine w_c1 (pc' := 46) k14_45 rfl ?_
      refine w_retz k14_46 (Or.inl rfl) ⟨_, rfl, a_1.dr h_s, Or.inr ⟨rfl, ?_⟩⟩
      rintro st' p' (⟨x1, x2, x3, -, -⟩ | ⟨x1, x2, x3, x4, -, -⟩ | ⟨x1, x2, x3, x4, -, -⟩)
      · exact l_1 x1
      · exact x2 c_42
      · exact x2 c_42
theorem item_k {p : Int} {st' : PS} {p' : Int} (hk : st.1 = 0 ∨ st.1 = 2 ∨ st.1 = 4 ∨ st.1 = 6) (h : itemR tx len st p st' p') : st'.1 = 0 ∨ st'.1 = 2 ∨ st'.1 = 4 ∨ st'.1 = 6 := by
  rcases h with ⟨-, x2, -, rfl, -⟩ | ⟨-, -, -, -, rfl, -⟩ | ⟨-, -, -, -, rfl, -⟩
  · have := x2.2; show fg tx len (p + 1) = 0 ∨ _; omega
  · exact hk
  · exact hk
theorem item_end {p : Int} {st' : PS} {p' : Int} (h : itemR tx len st p st' p') : p' ≤ len := by
  rcases h with ⟨-, -, x, -, rfl⟩ | ⟨-, -, -, x, -, rfl⟩ | ⟨-, -, -, x, -, rfl⟩ <;> (have := lt_in x (by decide); omega)
theorem m13l (hL : LC sh R) (h_s : isS s) (ht : TX I tx len) : ∀ (m : Nat) (i p : Int) (st : PS) (v3 : VV) (I1 : Nat → Int → Int), len - p < m → 0 ≤ i → 2 * i ≤ p → p ≤ len → DR I I1 s → PSr I1 s st → (st.1 = 0 ∨ st.1 = 2 ∨ st.1 = 4 ∨ st.1 = 6) → I1 1 3 = p → WP X (d + 5) 13 16 [.inr (some 1), .inr (some s), .inl i, v3] [] (sh, R, I1) 0 0 (fun r h' => ∃ (v : Int) (stE : PS) (I' : Nat → Int → Int), r = .inl v ∧ h' = (sh, R, I') ∧ DR I I' s ∧ readR tx len m st p v stE ∧ (v = -4 → PSr I' s stE ∧ (stE.1 = 0 ∨ stE.1 = 2 ∨ stE.1 = 4 ∨ stE.1 = 6))) := by
  have hlen := ht.2.1
  intro m
  induction m with
  | zero =>
    rintro i p st v3 I1 hm hi hip hp5
    omega
  | succ m ih =>
    rintro i p st v3 I1 hm hi hip hp5 hd hps hk hp
    have ht1 := hd.tx9 h_s ht
    refine w_iload (pc' := 17) k13_16 rfl rfl ?_
    refine w_c3 (pc' := 20) k13_17 rfl ?_
    refine w_ic_ge (pc' := 23) k13_20 rfl (fun c_20 => absurd c_20 (by omega)) (fun c_20 => ?_)
    refine w_aload (pc' := 24) k13_23 rfl rfl ?_
    refine w_getI (pc' := 27) (ki := 3) (v := p) k13_24 rfl (hL.1 1 (4, 4) rfl) rfl hp ?_
    refine w_aload (pc' := 28) k13_27 rfl rfl ?_
    refine w_getI (pc' := 31) (ki := 1) (v := len) k13_28 rfl (hL.1 1 (4, 4) rfl) rfl ht1.1 ?_
    refine w_ic_ge (pc' := 34) k13_31 rfl (fun c_31 => ?_) (fun c_31 => ?_)
    · refine w_c2 (pc' := 57) k13_55 rfl ?_
      exact w_reti k13_57 ⟨_, st, _, rfl, rfl, hd, Or.inl ⟨c_31, rfl, rfl⟩, fun _ => ⟨hps, hk⟩⟩
    · refine w_aload (pc' := 35) k13_34 rfl rfl ?_
      refine w_getI (pc' := 38) (ki := 3) (v := p) k13_35 rfl (hL.1 1 (4, 4) rfl) rfl hp ?_
      refine w_istore (pc' := 39) (ls' := [_, _, _, _]) k13_38 rfl rfl rfl ?_
      refine w_aload (pc' := 40) k13_39 rfl rfl ?_
      refine w_aload (pc' := 41) k13_40 rfl rfl ?_
      refine w_callI (pc' := 44) (as := [.inr (some 1), .inr (some s)]) k13_41 rfl rfl (co_v rfl rfl (hL.1 1 (4, 4) rfl)) (by decide) (m14 hL h_s ht1 hps hk hp (by omega)) (fun z_41 h_41 hq => ?_)
      obtain ⟨I_2, rfl, d_2, ⟨e9, s_2, p_2, i_2, q_2, t_2⟩ | ⟨e9, o_2⟩⟩ := hq
      · have e9 := Sum.inl.inj e9
        subst e9
        refine w_if_ne (pc' := 47) k13_44 rfl (fun _ => ?_) (fun c_44 => absurd c_44 (by decide))
        refine w_iinc (pc' := 52) (ls' := [_, _, _, _]) k13_49 rfl rfl (by omega) rfl ?_
        refine w_goto k13_52 ?_
        have hg := itemR_go i_2
        refine WP.mono (ih _ p_2 s_2 _ _ (by omega) (by omega) (by omega) (item_end i_2) (hd.tr d_2) q_2 (item_k hk i_2) t_2) (fun r h' hq => ?_)
        obtain ⟨v, stE, I', w1, w2, w3, w4, w5⟩ := hq
        exact ⟨v, stE, I', w1, w2, w3, Or.inr (Or.inr ⟨c_31, s_2, p_2, i_2, w4⟩), w5⟩
      · have e9 := Sum.inl.inj e9
        subst e9
        refine w_if_ne (pc' := 47) k13_44 rfl (fun c_44 => absurd c_44 (by decide)) (fun _ => ?_)
        refine w_iload (pc' := 48) k13_47 rfl rfl ?_
        exact w_reti k13_48 ⟨_, st, _, rfl, rfl, hd.tr d_2, Or.inr (Or.inl ⟨c_31, o_2, rfl⟩), fun z => by omega⟩
/-- nothing told yet -/
def ps0 : PS := (0, 0, fun _ => 0, fun _ => 0, fun _ => 0, fun _ => 0)
theorem m13 (hL : LC sh R) (h_s : isS s) (ht : TX I tx len) : WPM X (d + 5) 13 [.inr (some 1), .inr (some s)] (sh, R, I) 0 0 (fun r h' => ∃ (v : Int) (stE : PS) (I' : Nat → Int → Int), r = .inl v ∧ h' = (sh, R, I') ∧ DR I I' s ∧ readR tx len 300 ps0 0 v stE ∧ (v = -4 → PSr I' s stE ∧ (stE.1 = 0 ∨ stE.1 = 2 ∨ stE.1 = 4 ∨ stE.1 = 6))) := by
  have hlen := ht.2.1
  have hs25 : 25 ≤ s := by rcases h_s with rfl | rfl | rfl | rfl <;> omega
  show WP X (d + 5) 13 0 [.inr (some 1), .inr (some s), .inr none, .inr none] [] (sh, R, I) 0 0 _
  refine w_aload (pc' := 1) k13_0 rfl rfl ?_
  refine w_callV (pc' := 4) (as := [.inr (some s)]) k13_1 rfl rfl (co_v rfl rfl (hL.s0 h_s)) (by decide) (m47 hL h_s) (fun r_1 h_1 hq => ?_)
  obtain ⟨I_1, rfl, c1, c2, c3⟩ := hq
  refine w_aload (pc' := 5) k13_4 rfl rfl ?_
  refine w_c1 (pc' := 6) k13_5 rfl ?_
  refine w_putI (pc' := 9) (ki := 2) k13_6 rfl (hL.1 1 (4, 4) rfl) rfl ?_
  refine w_aload (pc' := 10) k13_9 rfl rfl ?_
  refine w_c1 (pc' := 11) k13_10 rfl ?_
  refine w_putI (pc' := 14) (ki := 3) k13_11 rfl (hL.1 1 (4, 4) rfl) rfl ?_
  refine w_c1 (pc' := 15) k13_14 rfl ?_
  refine w_istore (pc' := 16) (ls' := [_, _, _, _]) k13_15 rfl rfl rfl ?_
  refine m13l hL h_s ht 300 0 0 ps0 _ _ (by omega) (by omega) (by omega) (by omega) ⟨fun a q1 q2 => by rw [upA_n q1, upA_n q1]; exact c1 a (by omega) (by omega), by rw [upA_s, upF_n (by decide), upA_s, upF_n (by decide), c1 1 (by omega) (by omega)], by rw [upA_n (by omega), upA_n (by omega), c3, upF_n (by decide)], by rw [upA_n (by omega), upA_n (by omega), c3, upF_n (by decide)]⟩ ⟨by rw [upA_s, upF_n (by decide), upA_s, upF_s]; rfl, by rw [upA_n (by omega), upA_n (by omega), c3, upF_s]; rfl, ⟨Int.le_refl _, by decide⟩, fun f q1 q2 => ?_, fun l q1 q2 => ?_⟩ (Or.inl rfl) (by rw [upA_s, upF_s])
  · have q2 : f < 0 := q2
    omega
  · rw [upA_n (by omega), upA_n (by omega), c2 l q1 q2]; exact ⟨rfl, Or.inl rfl⟩
theorem m12 (hL : LC sh R) (ht : TX I tx len) {c : Int} (hc : 1 ≤ c ∧ c < 256) : WPM X (d + 1) 12 [.inr (some 1), .inl c] (sh, R, I) 0 0 (fun r h' => (len = 200 ∧ r = .inl 0 ∧ h' = (sh, R, I)) ∨ (len < 200 ∧ r = .inl 1 ∧ ∃ I', h' = (sh, R, I') ∧ (∀ a, a ≠ 1 → a ≠ 2 → I' a = I a) ∧ TX I' (upF tx len c) (len + 1))) := by
  have hlen := ht.2.1
  show WP X (d + 1) 12 0 [.inr (some 1), .inl c] [] (sh, R, I) 0 0 _
  refine w_aload (pc' := 1) k12_0 rfl rfl ?_
  refine w_getI (pc' := 4) (ki := 1) (v := len) k12_1 rfl (hL.1 1 (4, 4) rfl) rfl ht.1 ?_
  refine w_c3 (pc' := 7) k12_4 rfl ?_
  refine w_ic_lt (pc' := 10) k12_7 rfl (fun c_7 => ?_) (fun c_7 => ?_)
  · refine w_aload (pc' := 13) k12_12 rfl rfl ?_
    refine w_getR (pc' := 16) (v := 2) k12_13 rfl (hL.1 1 (4, 4) rfl) (hL.2 1 0 2 rfl) ?_
    refine w_aload (pc' := 17) k12_16 rfl rfl ?_
    refine w_getI (pc' := 20) (ki := 1) (v := len) k12_17 rfl (hL.1 1 (4, 4) rfl) rfl ht.1 ?_
    refine w_iload (pc' := 21) k12_20 rfl rfl ?_
    refine w_cast (pc' := 22) k12_21 rfl (hL.1 2 (1, 200) rfl) (by omega) (by omega) ?_
    refine w_aload (pc' := 23) k12_22 rfl rfl ?_
    refine w_dup (pc' := 24) k12_23 rfl ?_
    refine w_getI (pc' := 27) (ki := 1) (v := len) k12_24 rfl (hL.1 1 (4, 4) rfl) rfl (by rw [upA_n (by decide)]; exact ht.1) ?_
    refine w_c1 (pc' := 28) k12_27 rfl ?_
    refine w_iadd (pc' := 29) k12_28 rfl (by omega) ?_
    refine w_putI (pc' := 32) (ki := 1) k12_29 rfl (hL.1 1 (4, 4) rfl) rfl ?_
    refine w_c1 (pc' := 33) k12_32 rfl ?_
    refine w_retz k12_33 (Or.inr rfl) (Or.inr ⟨c_7, rfl, _, rfl, fun a q1 q2 => by rw [upA_n q1, upA_n q2], by rw [upA_s, upF_s], by omega, fun j q1 q2 => ?_⟩)
    rw [upA_n (by decide), upA_s]
    by_cases e : j = len
    · rw [e, upF_s, upF_s]; exact ⟨rfl, hc⟩
    · rw [upF_n e, upF_n e]; exact ht.2.2 j q1 (by omega)
  · refine w_c1 (pc' := 11) k12_10 rfl ?_
    exact w_retz k12_11 (Or.inl rfl) (Or.inl ⟨by omega, rfl, rfl⟩)
end C42
