/-! ===== REFERENCE: sends, the way ===== -/
section M69
variable {X : Nat × (Int → Int)} {d : Nat} {sh : List (Nat × Nat)} {R : Nat → Nat → Option Nat} {I : Nat → Int → Int} {K H E HO S L B : Int} {A : AS}
def RS (I I' : Nat → Int → Int) (H E : Int) (A : AS) (n b ss : Int) : Prop := (∀ a, a ≠ 57 → a ≠ 69 → a ≠ 70 → I' a = I a) ∧ (∀ j, j ≠ 18 → j ≠ 21 → I' 57 j = I 57 j) ∧ I' 57 18 = pV H E A n b ss ∧ I' 57 21 = (if pA H E A n b ss then 1 else 0) ∧ (∀ k : Nat, k < pV H E A n b ss → I' 69 k = pN H E A n b ss k) ∧ (∀ k : Nat, k + 1 < pV H E A n b ss → I' 70 k = if pL H E A n b ss k / H = pN H E A n b ss k then pL H E A n b ss k else -1 - pL H E A n b ss k)
theorem RT.fin {n b ss : Int} {t : Nat} {I1 : Nat → Int → Int} {z : Int} (h : RT I I1 H E A n b ss t) (ht : t ≤ 4) (h0 : pL H E A n b ss t < 0) (hz : z = if pL H E A n b ss t = -4 then 1 else 0) : RS I (upA I1 57 (upF (I1 57) 21 z)) H E A n b ss := by
  have hv := pV_at ht h.2.2.2.2.2 h0
  refine ⟨fun a q1 q2 q3 => (upA_n q1).trans (h.1 a q1 q2 q3), fun j q1 q2 => by rw [upA_s, upF_n q2]; exact h.2.1 j q1 q2, by rw [upA_s, upF_n (by decide), h.2.2.1, hv]; omega, ?_, fun k hk => by rw [upA_n (by decide)]; exact h.2.2.2.1 k (by omega), fun k hk => by rw [upA_n (by decide)]; exact h.2.2.2.2.1 k (by omega)⟩
  rw [upA_s, upF_s, hz]
  unfold pA
  rw [hv, Nat.add_sub_cancel]
  by_cases e : pL H E A n b ss t = -4
  · rw [if_pos e, if_pos (decide_eq_true e)]
  · rw [if_neg e, if_neg (by rw [decide_eq_false e]; decide)]
theorem m163l (hF : MF sh R I K H E HO S L B A) {a n b ss : Int} (hn : 0 ≤ n ∧ n < E) (hb : 0 ≤ b ∧ b < HO) (hss : 0 ≤ ss ∧ ss < H * H) : ∀ (k t : Nat) (x y : Int) (v6 : VV) (I1 : Nat → Int → Int), t + k = 4 → x = pN H E A n b ss t → y = pL H E A n b ss t → RT I I1 H E A n b ss t → WP X (d + 5) 163 31 [.inr (some 57), .inl a, .inl b, .inl ss, .inl x, .inl y, v6] [] (sh, R, I1) 0 0 (fun _ h' => ∃ I', h' = (sh, R, I') ∧ RS I I' H E A n b ss) := by
  have hF0 := hF
  obtain ⟨hM, hK, hpo, hha, hms, hab, hB⟩ := hF
  have hr := hK.r
  intro k
  induction k with
  | zero =>
    rintro t x y v6 I1 hk hx hy hR
    have e : t = 4 := by omega
    subst e
    have hend := pL_end hK hn hb hR.2.2.2.2.2
    refine w_iload (pc' := 33) k163_31 rfl rfl ?_
    refine w_if_lt (pc' := 36) k163_33 rfl (fun c_33 => ?_) (fun c_33 => absurd c_33 (by omega))
    refine w_aload (pc' := 136) k163_135 rfl rfl ?_
    refine w_iload (pc' := 138) k163_136 rfl rfl ?_
    refine w_c2 (pc' := 140) k163_138 rfl ?_
    refine w_ic_ne (pc' := 143) k163_140 rfl (fun c_140 => ?_) (fun c_140 => ?_)
    · refine w_c1 (pc' := 148) k163_147 rfl ?_
      refine w_putZ (pc' := 151) (ki := 21) k163_148 rfl (hM.1 57 (11, 30) rfl) rfl (by omega) ?_
      exact w_retv k163_151 ⟨_, rfl, hR.fin (by omega) (by omega) (by rw [if_neg (by omega)])⟩
    · refine w_c1 (pc' := 144) k163_143 rfl ?_
      refine w_goto k163_144 ?_
      refine w_putZ (pc' := 151) (ki := 21) k163_148 rfl (hM.1 57 (11, 30) rfl) rfl (by omega) ?_
      exact w_retv k163_151 ⟨_, rfl, hR.fin (by omega) (by omega) (by rw [if_pos (by omega)])⟩
  | succ k ih =>
    rintro t x y v6 I1 hk hx hy hR
    have hF1 := hR.mf hF0
    have hxr := pN_range (A := A) (s := ss) hK (n := n) (b := b) ⟨hn.1, by omega⟩ hb t hR.2.2.2.2.2
    have hyr := nl_range (A := A) (s := ss) hK (n := x) (b := b) (by rw [hx]; exact hxr) hb
    have hyn : nl H E A x b ss = y := by rw [hy, hx]; rfl
    rw [hyn] at hyr
    have hot : pN H E A n b ss (t + 1) = if y / H = x then upS H E y else y / H := by rw [pN, hx, hy]; rfl
    refine w_iload (pc' := 33) k163_31 rfl rfl ?_
    refine w_if_lt (pc' := 36) k163_33 rfl (fun c_33 => ?_) (fun c_33 => ?_)
    · refine w_aload (pc' := 136) k163_135 rfl rfl ?_
      refine w_iload (pc' := 138) k163_136 rfl rfl ?_
      refine w_c2 (pc' := 140) k163_138 rfl ?_
      refine w_ic_ne (pc' := 143) k163_140 rfl (fun c_140 => ?_) (fun c_140 => ?_)
      · refine w_c1 (pc' := 148) k163_147 rfl ?_
        refine w_putZ (pc' := 151) (ki := 21) k163_148 rfl (hM.1 57 (11, 30) rfl) rfl (by omega) ?_
        exact w_retv k163_151 ⟨_, rfl, hR.fin (by omega) (by omega) (by rw [if_neg (by omega)])⟩
      · refine w_c1 (pc' := 144) k163_143 rfl ?_
        refine w_goto k163_144 ?_
        refine w_putZ (pc' := 151) (ki := 21) k163_148 rfl (hM.1 57 (11, 30) rfl) rfl (by omega) ?_
        exact w_retv k163_151 ⟨_, rfl, hR.fin (by omega) (by omega) (by rw [if_pos (by omega)])⟩
    · refine w_aload (pc' := 37) k163_36 rfl rfl ?_
      refine w_iload (pc' := 39) k163_37 rfl rfl ?_
      refine w_callE (pc' := 42) (as := [.inr (some 57), .inl _]) k163_39 rfl rfl (co_v rfl rfl (hM.1 57 (11, 30) rfl)) (by decide) (m140 hF1 (by omega)) ?_
      refine w_iload (pc' := 44) k163_42 rfl rfl ?_
      refine w_ic_ne (pc' := 47) k163_44 rfl (fun c_44 => ?_) (fun c_44 => ?_)
      · refine w_c1 (pc' := 52) k163_51 rfl ?_
        refine w_istore (pc' := 54) (ls' := [_, _, _, _, _, _, _]) k163_52 rfl rfl rfl ?_
        refine w_iload (pc' := 56) k163_54 rfl rfl ?_
        refine w_if_eq (pc' := 59) k163_56 rfl (fun _ => ?_) (fun c_56 => absurd c_56 (by decide))
        refine w_aload (pc' := 69) k163_68 rfl rfl ?_
        refine w_iload (pc' := 71) k163_69 rfl rfl ?_
        refine w_callE (pc' := 74) (as := [.inr (some 57), .inl _]) k163_71 rfl rfl (co_v rfl rfl (hM.1 57 (11, 30) rfl)) (by decide) (m140 hF1 (by omega)) ?_
        refine w_istore (pc' := 76) (ls' := [_, _, _, _, _, _, _]) k163_74 rfl rfl rfl ?_
        refine w_aload (pc' := 77) k163_76 rfl rfl ?_
        refine w_getR (pc' := 80) (v := 70) k163_77 rfl (hM.1 57 (11, 30) rfl) (hM.2 57 20 70 rfl) ?_
        refine w_aload (pc' := 81) k163_80 rfl rfl ?_
        refine w_getI (pc' := 84) (ki := 18) (v := (t : Int) + 1) k163_81 rfl (hM.1 57 (11, 30) rfl) rfl hR.2.2.1 ?_
        refine w_c1 (pc' := 85) k163_84 rfl ?_
        refine w_isub (pc' := 86) k163_85 rfl (by omega) ?_
        refine w_iload (pc' := 88) k163_86 rfl rfl ?_
        refine w_if_eq (pc' := 91) k163_88 rfl (fun _ => ?_) (fun c_88 => absurd c_88 (by decide))
        refine w_c1 (pc' := 97) k163_96 rfl ?_
        refine w_iload (pc' := 99) k163_97 rfl rfl ?_
        refine w_isub (pc' := 100) k163_99 rfl (by omega) ?_
        refine w_iast (pc' := 101) k163_100 rfl (hM.1 70 (0, 6) rfl) (by omega) ?_
        refine w_aload (pc' := 102) k163_101 rfl rfl ?_
        refine w_getR (pc' := 105) (v := 69) k163_102 rfl (hM.1 57 (11, 30) rfl) (hM.2 57 19 69 rfl) ?_
        refine w_aload (pc' := 106) k163_105 rfl rfl ?_
        refine w_getI (pc' := 109) (ki := 18) (v := (t : Int) + 1) k163_106 rfl (hM.1 57 (11, 30) rfl) rfl (by rw [upA_n (by decide)]; exact hR.2.2.1) ?_
        refine w_iload (pc' := 111) k163_109 rfl rfl ?_
        refine w_iast (pc' := 112) k163_111 rfl (hM.1 69 (0, 6) rfl) (by omega) ?_
        refine w_aload (pc' := 113) k163_112 rfl rfl ?_
        refine w_dup (pc' := 114) k163_113 rfl ?_
        refine w_getI (pc' := 117) (ki := 18) (v := (t : Int) + 1) k163_114 rfl (hM.1 57 (11, 30) rfl) rfl (by rw [upA_n (by decide), upA_n (by decide)]; exact hR.2.2.1) ?_
        refine w_c1 (pc' := 118) k163_117 rfl ?_
        refine w_iadd (pc' := 119) k163_118 rfl (by omega) ?_
        refine w_putI (pc' := 122) (ki := 18) k163_119 rfl (hM.1 57 (11, 30) rfl) rfl ?_
        have hw : pN H E A n b ss (t + 1) = y / H := by rw [hot, if_neg (by omega)]
        have hR2 : RT I (upA (upA (upA I1 70 (upF (I1 70) ((t : Int) + 1 - 1) (-1 - y))) 69 (upF (upA I1 70 (upF (I1 70) ((t : Int) + 1 - 1) (-1 - y)) 69) ((t : Int) + 1) (y / H))) 57 (upF (upA (upA I1 70 (upF (I1 70) ((t : Int) + 1 - 1) (-1 - y))) 69 (upF (upA I1 70 (upF (I1 70) ((t : Int) + 1 - 1) (-1 - y)) 69) ((t : Int) + 1) (y / H)) 57) 18 ((t : Int) + 1 + 1))) H E A n b ss (t + 1) := by
          refine hR.st (by omega) (q := -1 - y) (by rw [← hy, ← hx, if_neg (by omega)]) (fun a q1 q2 q3 => by rw [upA_n q1, upA_n q2, upA_n q3]) ?_ ?_ ?_
          · rw [upA_s, upA_n (by decide), upA_n (by decide)]
          · rw [upA_n (by decide), upA_s, upA_n (by decide), hw]
          · rw [upA_n (by decide), upA_n (by decide), upA_s, Int.add_sub_cancel]
        have hF2 := hR2.mf hF0
        have hwr := ot_range (n := x) hK (l := y) (by omega)
        have hw2 : otS H E y x = y / H := by unfold otS; rw [if_neg (by omega)]
        rw [hw2] at hwr
        refine w_aload (pc' := 123) k163_122 rfl rfl ?_
        refine w_iload (pc' := 125) k163_123 rfl rfl ?_
        refine w_iload (pc' := 126) k163_125 rfl rfl ?_
        refine w_iload (pc' := 127) k163_126 rfl rfl ?_
        refine w_callE (pc' := 130) (as := [.inr (some 57), .inl _, .inl _, .inl _]) k163_127 rfl rfl (co_v rfl rfl (hM.1 57 (11, 30) rfl)) (by decide) (m161 hF2 hwr hb hss) ?_
        refine w_istore (pc' := 132) (ls' := [_, _, _, _, _, _, _]) k163_130 rfl rfl rfl ?_
        refine w_goto k163_132 ?_
        exact ih (t + 1) _ _ _ _ (by omega) hw.symm (by unfold pL; rw [hw]) hR2
      · refine w_c1 (pc' := 48) k163_47 rfl ?_
        refine w_goto k163_48 ?_
        refine w_istore (pc' := 54) (ls' := [_, _, _, _, _, _, _]) k163_52 rfl rfl rfl ?_
        refine w_iload (pc' := 56) k163_54 rfl rfl ?_
        refine w_if_eq (pc' := 59) k163_56 rfl (fun c_56 => absurd c_56 (by decide)) (fun _ => ?_)
        refine w_aload (pc' := 60) k163_59 rfl rfl ?_
        refine w_iload (pc' := 62) k163_60 rfl rfl ?_
        refine w_callE (pc' := 65) (as := [.inr (some 57), .inl _]) k163_62 rfl rfl (co_v rfl rfl (hM.1 57 (11, 30) rfl)) (by decide) (m141 hF1 (by omega)) ?_
        refine w_goto k163_65 ?_
        refine w_istore (pc' := 76) (ls' := [_, _, _, _, _, _, _]) k163_74 rfl rfl rfl ?_
        refine w_aload (pc' := 77) k163_76 rfl rfl ?_
        refine w_getR (pc' := 80) (v := 70) k163_77 rfl (hM.1 57 (11, 30) rfl) (hM.2 57 20 70 rfl) ?_
        refine w_aload (pc' := 81) k163_80 rfl rfl ?_
        refine w_getI (pc' := 84) (ki := 18) (v := (t : Int) + 1) k163_81 rfl (hM.1 57 (11, 30) rfl) rfl hR.2.2.1 ?_
        refine w_c1 (pc' := 85) k163_84 rfl ?_
        refine w_isub (pc' := 86) k163_85 rfl (by omega) ?_
        refine w_iload (pc' := 88) k163_86 rfl rfl ?_
        refine w_if_eq (pc' := 91) k163_88 rfl (fun c_88 => absurd c_88 (by decide)) (fun _ => ?_)
        refine w_iload (pc' := 93) k163_91 rfl rfl ?_
        refine w_goto k163_93 ?_
        refine w_iast (pc' := 101) k163_100 rfl (hM.1 70 (0, 6) rfl) (by omega) ?_
        refine w_aload (pc' := 102) k163_101 rfl rfl ?_
        refine w_getR (pc' := 105) (v := 69) k163_102 rfl (hM.1 57 (11, 30) rfl) (hM.2 57 19 69 rfl) ?_
        refine w_aload (pc' := 106) k163_105 rfl rfl ?_
        refine w_getI (pc' := 109) (ki := 18) (v := (t : Int) + 1) k163_106 rfl (hM.1 57 (11, 30) rfl) rfl (by rw [upA_n (by decide)]; exact hR.2.2.1) ?_
        refine w_iload (pc' := 111) k163_109 rfl rfl ?_
        refine w_iast (pc' := 112) k163_111 rfl (hM.1 69 (0, 6) rfl) (by omega) ?_
        refine w_aload (pc' := 113) k163_112 rfl rfl ?_
        refine w_dup (pc' := 114) k163_113 rfl ?_
        refine w_getI (pc' := 117) (ki := 18) (v := (t : Int) + 1) k163_114 rfl (hM.1 57 (11, 30) rfl) rfl (by rw [upA_n (by decide), upA_n (by decide)]; exact hR.2.2.1) ?_
        refine w_c1 (pc' := 118) k163_117 rfl ?_
        refine w_iadd (pc' := 119) k163_118 rfl (by omega) ?_
        refine w_putI (pc' := 122) (ki := 18) k163_119 rfl (hM.1 57 (11, 30) rfl) rfl ?_
        have hw : pN H E A n b ss (t + 1) = upS H E y := by rw [hot, if_pos (by omega)]
        have hR2 : RT I (upA (upA (upA I1 70 (upF (I1 70) ((t : Int) + 1 - 1) (y))) 69 (upF (upA I1 70 (upF (I1 70) ((t : Int) + 1 - 1) (y)) 69) ((t : Int) + 1) (upS H E y))) 57 (upF (upA (upA I1 70 (upF (I1 70) ((t : Int) + 1 - 1) (y))) 69 (upF (upA I1 70 (upF (I1 70) ((t : Int) + 1 - 1) (y)) 69) ((t : Int) + 1) (upS H E y)) 57) 18 ((t : Int) + 1 + 1))) H E A n b ss (t + 1) := by
          refine hR.st (by omega) (q := y) (by rw [← hy, ← hx, if_pos (by omega)]) (fun a q1 q2 q3 => by rw [upA_n q1, upA_n q2, upA_n q3]) ?_ ?_ ?_
          · rw [upA_s, upA_n (by decide), upA_n (by decide)]
          · rw [upA_n (by decide), upA_s, upA_n (by decide), hw]
          · rw [upA_n (by decide), upA_n (by decide), upA_s, Int.add_sub_cancel]
        have hF2 := hR2.mf hF0
        have hwr := ot_range (n := x) hK (l := y) (by omega)
        have hw2 : otS H E y x = upS H E y := by unfold otS; rw [if_pos (by omega)]
        rw [hw2] at hwr
        refine w_aload (pc' := 123) k163_122 rfl rfl ?_
        refine w_iload (pc' := 125) k163_123 rfl rfl ?_
        refine w_iload (pc' := 126) k163_125 rfl rfl ?_
        refine w_iload (pc' := 127) k163_126 rfl rfl ?_
        refine w_callE (pc' := 130) (as := [.inr (some 57), .inl _, .inl _, .inl _]) k163_127 rfl rfl (co_v rfl rfl (hM.1 57 (11, 30) rfl)) (by decide) (m161 hF2 hwr hb hss) ?_
        refine w_istore (pc' := 132) (ls' := [_, _, _, _, _, _, _]) k163_130 rfl rfl rfl ?_
        refine w_goto k163_132 ?_
        exact ih (t + 1) _ _ _ _ (by omega) hw.symm (by unfold pL; rw [hw]) hR2
end M69
