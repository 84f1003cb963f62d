/-! ===== CLASS: questions about flows ===== -/
section C45
variable {X : Nat × (Int → Int)} {d : Nat} {sh : List (Nat × Nat)} {R : Nat → Nat → Option Nat} {I : Nat → Int → Int} {s g_s M_s : Nat} {K H E HO S L B : Int} {A : AS}
def toldS (H E : Int) (A : AS) (f w : Int) : Int := if 0 ≤ f ∧ f < aNf A then (if w = 0 then aFr A f else if w = 1 then aTo A f else if w = 2 then aSz A f else if w = 3 then aSh A f else if w = 4 then (if 0 < cS H E A (aNf A) (aSh A) f then 1 else 0) else if w = 5 then shV H E A (aNf A) (aSh A) f else -1) else -1
def loadS (H E L : Int) (A : AS) (l dd w : Int) : Int := if (0 ≤ l ∧ l < L) ∧ (0 ≤ dd ∧ dd ≤ 1) ∧ 0 ≤ w ∧ w ≤ 1 then (if w = 0 then usG (cS H E A (aNf A) (aSh A)) (qS H E A (aSh A)) (if dd = 1 then l else 108 + l) else sumN (szG A (cS H E A (aNf A) (aSh A)) (qS H E A (aSh A)) (if dd = 1 then l else 108 + l)) (aNf A).toNat) else -1
def leasS (H E : Int) (A : AS) : Int := if aNf A = 0 then -4 else lsV H E A (aNf A) (aSh A)
def wouS (H E : Int) (A : AS) (f t : Int) : Int := if (0 ≤ f ∧ f < aNf A) ∧ 0 ≤ t ∧ t < H * H then lsV H E A (aNf A) (upF (aSh A) f t) else -1
def couS (K HO S L : Int) (A : AS) (u len w : Int) : Int := if w = 0 then K else if w = 1 then HO else if w = 2 then S else if w = 3 then L else if w = 4 then cuC L A else if w = 5 then aNf A else if w = 6 then u else if w = 7 then len else -1
theorem m93 (hF : CF sh R I K H E HO S L B s g_s M_s A) (t7 : R 0 7 = some s) {f w : Int} : QQ X (d + 7) 93 [.inr (some 0), .inl f, .inl w] sh R I (toldS H E A f w) := by
  have hF0 := hF
  obtain ⟨hL, hK, hsp, h_s, m_s, n_s, hg, hM, hLS, hcs, hab, hB⟩ := hF
  have hr := hK.r
  have hnf := hab.2.2.1
  show WP X (d + 7) 93 0 [.inr (some 0), .inl f, .inl w] [] (sh, R, I) 0 0 _
  refine w_aload (pc' := 1) k93_0 rfl rfl ?_
  refine w_iload (pc' := 2) k93_1 rfl rfl ?_
  refine w_callB (pc' := 5) (as := [.inr (some 0), .inl _]) k93_2 rfl rfl (co_v rfl rfl (hL.1 0 (10, 12) rfl)) (by decide) (m104 hF0 t7) (fun q_2 => ?_) (fun q_2 => ?_)
  · refine w_if_ne (pc' := 8) k93_5 rfl (fun _ => ?_) (fun c_5 => absurd c_5 (by decide))
    refine w_iload (pc' := 11) k93_10 rfl rfl ?_
    refine w_swt k93_11 (fun i b hb e_11 => ?_) (fun e_11 => ?_)
    · match i, hb with
      | 0, hb =>
        obtain rfl : 48 = b := Option.some.inj hb
        refine w_aload (pc' := 49) k93_48 rfl rfl ?_
        refine w_getR (pc' := 52) (v := s) k93_49 rfl (hL.1 0 (10, 12) rfl) t7 ?_
        refine w_getR (pc' := 55) (v := (s + 2)) k93_52 rfl (hL.s0 h_s) (hL.r1 h_s) ?_
        refine w_iload (pc' := 56) k93_55 rfl rfl ?_
        refine w_iald (pc' := 57) (v := aFr A f) k93_56 rfl (hL.s2 h_s) (by first | omega | (rcases hK with ⟨rfl, rfl, rfl, rfl, rfl, rfl⟩ | ⟨rfl, rfl, rfl, rfl, rfl, rfl⟩ | ⟨rfl, rfl, rfl, rfl, rfl, rfl⟩ <;> omega)) ((hcs.2.2.2.2.2 f q_2.1 q_2.2).1) ?_
        exact w_reti k93_57 ⟨by unfold toldS; rw [if_pos q_2, if_pos (by omega)], _, rfl, fun a q => rfl⟩
      | 1, hb =>
        obtain rfl : 58 = b := Option.some.inj hb
        refine w_aload (pc' := 59) k93_58 rfl rfl ?_
        refine w_getR (pc' := 62) (v := s) k93_59 rfl (hL.1 0 (10, 12) rfl) t7 ?_
        refine w_getR (pc' := 65) (v := (s + 3)) k93_62 rfl (hL.s0 h_s) (hL.r2 h_s) ?_
        refine w_iload (pc' := 66) k93_65 rfl rfl ?_
        refine w_iald (pc' := 67) (v := aTo A f) k93_66 rfl (hL.s3 h_s) (by first | omega | (rcases hK with ⟨rfl, rfl, rfl, rfl, rfl, rfl⟩ | ⟨rfl, rfl, rfl, rfl, rfl, rfl⟩ | ⟨rfl, rfl, rfl, rfl, rfl, rfl⟩ <;> omega)) ((hcs.2.2.2.2.2 f q_2.1 q_2.2).2.1) ?_
        exact w_reti k93_67 ⟨by unfold toldS; rw [if_pos q_2, if_neg (by omega), if_pos (by omega)], _, rfl, fun a q => rfl⟩
      | 2, hb =>
        obtain rfl : 68 = b := Option.some.inj hb
        refine w_aload (pc' := 69) k93_68 rfl rfl ?_
        refine w_getR (pc' := 72) (v := s) k93_69 rfl (hL.1 0 (10, 12) rfl) t7 ?_
        refine w_getR (pc' := 75) (v := (s + 4)) k93_72 rfl (hL.s0 h_s) (hL.r3 h_s) ?_
        refine w_iload (pc' := 76) k93_75 rfl rfl ?_
        refine w_iald (pc' := 77) (v := aSz A f) k93_76 rfl (hL.s4 h_s) (by first | omega | (rcases hK with ⟨rfl, rfl, rfl, rfl, rfl, rfl⟩ | ⟨rfl, rfl, rfl, rfl, rfl, rfl⟩ | ⟨rfl, rfl, rfl, rfl, rfl, rfl⟩ <;> omega)) ((hcs.2.2.2.2.2 f q_2.1 q_2.2).2.2.1) ?_
        exact w_reti k93_77 ⟨by unfold toldS; rw [if_pos q_2, if_neg (by omega), if_neg (by omega), if_pos (by omega)], _, rfl, fun a q => rfl⟩
      | 3, hb =>
        obtain rfl : 78 = b := Option.some.inj hb
        refine w_aload (pc' := 79) k93_78 rfl rfl ?_
        refine w_getR (pc' := 82) (v := s) k93_79 rfl (hL.1 0 (10, 12) rfl) t7 ?_
        refine w_getR (pc' := 85) (v := (s + 5)) k93_82 rfl (hL.s0 h_s) (hL.r4 h_s) ?_
        refine w_iload (pc' := 86) k93_85 rfl rfl ?_
        refine w_iald (pc' := 87) (v := aSh A f) k93_86 rfl (hL.s5 h_s) (by first | omega | (rcases hK with ⟨rfl, rfl, rfl, rfl, rfl, rfl⟩ | ⟨rfl, rfl, rfl, rfl, rfl, rfl⟩ | ⟨rfl, rfl, rfl, rfl, rfl, rfl⟩ <;> omega)) ((hcs.2.2.2.2.2 f q_2.1 q_2.2).2.2.2) ?_
        exact w_reti k93_87 ⟨by unfold toldS; rw [if_pos q_2, if_neg (by omega), if_neg (by omega), if_neg (by omega), if_pos (by omega)], _, rfl, fun a q => rfl⟩
      | 4, hb =>
        obtain rfl : 88 = b := Option.some.inj hb
        refine w_aload (pc' := 89) k93_88 rfl rfl ?_
        refine w_getR (pc' := 92) (v := 21) k93_89 rfl (hL.1 0 (10, 12) rfl) (hL.2 0 6 21 rfl) ?_
        refine w_aload (pc' := 93) k93_92 rfl rfl ?_
        refine w_getR (pc' := 96) (v := s) k93_93 rfl (hL.1 0 (10, 12) rfl) t7 ?_
        refine w_callV (pc' := 99) (as := [.inr (some 21), .inr (some s)]) k93_96 rfl rfl (co_v rfl rfl (hL.1 21 (6, 5) rfl)) (by decide) (m36 hF0) (fun r_96 h_96 hq => ?_)
        obtain ⟨I_1, rfl, sv, su⟩ := hq
        have hF1 : CF sh R I_1 K H E HO S L B s g_s M_s A := hF0.keep (fun a q => sv a (by omega))
        have hcs1 := hF1.2.2.2.2.2.2.2.2.2.1
        refine w_aload (pc' := 100) k93_99 rfl rfl ?_
        refine w_getR (pc' := 103) (v := 21) k93_100 rfl (hL.1 0 (10, 12) rfl) (hL.2 0 6 21 rfl) ?_
        refine w_iload (pc' := 104) k93_103 rfl rfl ?_
        refine w_callB (pc' := 107) (as := [.inr (some 21), .inl _]) k93_104 rfl rfl (co_v rfl rfl (hL.1 21 (6, 5) rfl)) (by decide) (m40 hL su (by omega)) (fun q_104 => ?_) (fun q_104 => ?_)
        · refine w_if_eq (pc' := 110) k93_107 rfl (fun c_107 => absurd c_107 (by decide)) (fun _ => ?_)
          refine w_c1 (pc' := 111) k93_110 rfl ?_
          refine w_goto k93_111 ?_
          exact w_reti k93_115 ⟨by unfold toldS; rw [if_pos q_2, if_neg (by omega), if_neg (by omega), if_neg (by omega), if_neg (by omega), if_pos (by omega), if_pos q_104], _, rfl, fun a q => sv a (by omega)⟩
        · refine w_if_eq (pc' := 110) k93_107 rfl (fun _ => ?_) (fun c_107 => absurd c_107 (by decide))
          refine w_c1 (pc' := 115) k93_114 rfl ?_
          exact w_reti k93_115 ⟨by unfold toldS; rw [if_pos q_2, if_neg (by omega), if_neg (by omega), if_neg (by omega), if_neg (by omega), if_pos (by omega), if_neg q_104], _, rfl, fun a q => sv a (by omega)⟩
      | 5, hb =>
        obtain rfl : 116 = b := Option.some.inj hb
        refine w_aload (pc' := 117) k93_116 rfl rfl ?_
        refine w_getR (pc' := 120) (v := 21) k93_117 rfl (hL.1 0 (10, 12) rfl) (hL.2 0 6 21 rfl) ?_
        refine w_aload (pc' := 121) k93_120 rfl rfl ?_
        refine w_getR (pc' := 124) (v := s) k93_121 rfl (hL.1 0 (10, 12) rfl) t7 ?_
        refine w_callV (pc' := 127) (as := [.inr (some 21), .inr (some s)]) k93_124 rfl rfl (co_v rfl rfl (hL.1 21 (6, 5) rfl)) (by decide) (m36 hF0) (fun r_124 h_124 hq => ?_)
        obtain ⟨I_1, rfl, sv, su⟩ := hq
        have hF1 : CF sh R I_1 K H E HO S L B s g_s M_s A := hF0.keep (fun a q => sv a (by omega))
        have hcs1 := hF1.2.2.2.2.2.2.2.2.2.1
        refine w_aload (pc' := 128) k93_127 rfl rfl ?_
        refine w_getR (pc' := 131) (v := 21) k93_128 rfl (hL.1 0 (10, 12) rfl) (hL.2 0 6 21 rfl) ?_
        refine w_iload (pc' := 132) k93_131 rfl rfl ?_
        refine w_callE (pc' := 135) (as := [.inr (some 21), .inl _]) k93_132 rfl rfl (co_v rfl rfl (hL.1 21 (6, 5) rfl)) (by decide) (m41 hL su (by omega)) ?_
        exact w_reti k93_135 ⟨by unfold toldS; rw [if_pos q_2, if_neg (by omega), if_neg (by omega), if_neg (by omega), if_neg (by omega), if_neg (by omega), if_pos (by omega)]; rfl, _, rfl, fun a q => sv a (by omega)⟩
      | i + 6, hb => exact absurd hb (by simp)
    · refine w_c1 (pc' := 137) k93_136 rfl ?_
      exact w_reti k93_137 ⟨by unfold toldS; rw [if_pos q_2, if_neg (by simp at e_11; omega), if_neg (by simp at e_11; omega), if_neg (by simp at e_11; omega), if_neg (by simp at e_11; omega), if_neg (by simp at e_11; omega), if_neg (by simp at e_11; omega)], _, rfl, fun a q => rfl⟩
  · refine w_if_ne (pc' := 8) k93_5 rfl (fun c_5 => absurd c_5 (by decide)) (fun _ => ?_)
    refine w_c1 (pc' := 9) k93_8 rfl ?_
    exact w_reti k93_9 ⟨by unfold toldS; rw [if_neg q_2], _, rfl, fun a q => rfl⟩
theorem m94 (hF : CF sh R I K H E HO S L B s g_s M_s A) (t7 : R 0 7 = some s) {l dd w : Int} : QQ X (d + 7) 94 [.inr (some 0), .inl l, .inl dd, .inl w] sh R I (loadS H E L A l dd w) := by
  have hF0 := hF
  obtain ⟨hL, hK, hsp, h_s, m_s, n_s, hg, hM, hLS, hcs, hab, hB⟩ := hF
  have hr := hK.r
  have hnf := hab.2.2.1
  show WP X (d + 7) 94 0 [.inr (some 0), .inl l, .inl dd, .inl w, .inr none] [] (sh, R, I) 0 0 _
  refine w_aload (pc' := 1) k94_0 rfl rfl ?_
  refine w_iload (pc' := 2) k94_1 rfl rfl ?_
  refine w_callB (pc' := 5) (as := [.inr (some 0), .inl _]) k94_2 rfl rfl (co_v rfl rfl (hL.1 0 (10, 12) rfl)) (by decide) (m100 hF0) (fun q_2 => ?_) (fun q_2 => ?_)
  · refine w_if_eq (pc' := 8) k94_5 rfl (fun c_5 => absurd c_5 (by decide)) (fun _ => ?_)
    refine w_iload (pc' := 9) k94_8 rfl rfl ?_
    refine w_if_lt (pc' := 12) k94_9 rfl (fun c_9 => ?_) (fun c_9 => ?_)
    · refine w_c1 (pc' := 27) k94_26 rfl ?_
      exact w_reti k94_27 ⟨by unfold loadS; rw [if_neg (by omega)], _, rfl, fun a q => rfl⟩
    · refine w_iload (pc' := 13) k94_12 rfl rfl ?_
      refine w_c1 (pc' := 14) k94_13 rfl ?_
      refine w_ic_gt (pc' := 17) k94_14 rfl (fun c_14 => ?_) (fun c_14 => ?_)
      · refine w_c1 (pc' := 27) k94_26 rfl ?_
        exact w_reti k94_27 ⟨by unfold loadS; rw [if_neg (by omega)], _, rfl, fun a q => rfl⟩
      · refine w_iload (pc' := 18) k94_17 rfl rfl ?_
        refine w_if_lt (pc' := 21) k94_18 rfl (fun c_18 => ?_) (fun c_18 => ?_)
        · refine w_c1 (pc' := 27) k94_26 rfl ?_
          exact w_reti k94_27 ⟨by unfold loadS; rw [if_neg (by omega)], _, rfl, fun a q => rfl⟩
        · refine w_iload (pc' := 22) k94_21 rfl rfl ?_
          refine w_c1 (pc' := 23) k94_22 rfl ?_
          refine w_ic_le (pc' := 26) k94_23 rfl (fun c_23 => ?_) (fun c_23 => ?_)
          · refine w_iload (pc' := 29) k94_28 rfl rfl ?_
            refine w_c1 (pc' := 30) k94_29 rfl ?_
            refine w_ic_ne (pc' := 33) k94_30 rfl (fun c_30 => ?_) (fun c_30 => ?_)
            · refine w_c2 (pc' := 39) k94_37 rfl ?_
              refine w_iload (pc' := 40) k94_39 rfl rfl ?_
              refine w_iadd (pc' := 41) k94_40 rfl (by first | omega | (rcases hK with ⟨rfl, rfl, rfl, rfl, rfl, rfl⟩ | ⟨rfl, rfl, rfl, rfl, rfl, rfl⟩ | ⟨rfl, rfl, rfl, rfl, rfl, rfl⟩ <;> omega)) ?_
              refine w_istore (pc' := 43) (ls' := [_, _, _, _, _]) k94_41 rfl rfl rfl ?_
              refine w_aload (pc' := 44) k94_43 rfl rfl ?_
              refine w_getR (pc' := 47) (v := 21) k94_44 rfl (hL.1 0 (10, 12) rfl) (hL.2 0 6 21 rfl) ?_
              refine w_aload (pc' := 48) k94_47 rfl rfl ?_
              refine w_getR (pc' := 51) (v := s) k94_48 rfl (hL.1 0 (10, 12) rfl) t7 ?_
              refine w_callV (pc' := 54) (as := [.inr (some 21), .inr (some s)]) k94_51 rfl rfl (co_v rfl rfl (hL.1 21 (6, 5) rfl)) (by decide) (m36 hF0) (fun r_51 h_51 hq => ?_)
              obtain ⟨I_1, rfl, sv, su⟩ := hq
              have hF1 : CF sh R I_1 K H E HO S L B s g_s M_s A := hF0.keep (fun a q => sv a (by omega))
              have hcs1 := hF1.2.2.2.2.2.2.2.2.2.1
              refine w_iload (pc' := 55) k94_54 rfl rfl ?_
              refine w_if_ne (pc' := 58) k94_55 rfl (fun c_55 => ?_) (fun c_55 => ?_)
              · refine w_aload (pc' := 72) k94_71 rfl rfl ?_
                refine w_getR (pc' := 75) (v := 21) k94_72 rfl (hL.1 0 (10, 12) rfl) (hL.2 0 6 21 rfl) ?_
                refine w_aload (pc' := 76) k94_75 rfl rfl ?_
                refine w_getR (pc' := 79) (v := s) k94_76 rfl (hL.1 0 (10, 12) rfl) t7 ?_
                refine w_iload (pc' := 81) k94_79 rfl rfl ?_
                refine w_callE (pc' := 84) (as := [.inr (some 21), .inr (some s), .inl _]) k94_81 rfl rfl (co_v rfl rfl (hL.1 21 (6, 5) rfl)) (by decide) (m43 hF1 su) ?_
                exact w_reti k94_84 ⟨by unfold loadS; rw [if_pos ⟨q_2, ⟨c_9, c_14⟩, c_18, c_23⟩, if_neg c_55, if_neg c_30], _, rfl, fun a q => sv a (by omega)⟩
              · refine w_aload (pc' := 59) k94_58 rfl rfl ?_
                refine w_getR (pc' := 62) (v := 21) k94_59 rfl (hL.1 0 (10, 12) rfl) (hL.2 0 6 21 rfl) ?_
                refine w_getR (pc' := 65) (v := 24) k94_62 rfl (hL.1 21 (6, 5) rfl) (hL.2 21 4 24 rfl) ?_
                refine w_iload (pc' := 67) k94_65 rfl rfl ?_
                refine w_iald (pc' := 68) (v := usG (cS H E A (aNf A) (aSh A)) (qS H E A (aSh A)) _) k94_67 rfl (hL.1 24 (0, 324) rfl) (by first | omega | (rcases hK with ⟨rfl, rfl, rfl, rfl, rfl, rfl⟩ | ⟨rfl, rfl, rfl, rfl, rfl, rfl⟩ | ⟨rfl, rfl, rfl, rfl, rfl, rfl⟩ <;> omega)) (su.2.2 _ (by omega) (by omega)) ?_
                refine w_goto k94_68 ?_
                exact w_reti k94_84 ⟨by unfold loadS; rw [if_pos ⟨q_2, ⟨c_9, c_14⟩, c_18, c_23⟩, if_pos c_55, if_neg c_30], _, rfl, fun a q => sv a (by omega)⟩
            · refine w_iload (pc' := 34) k94_33 rfl rfl ?_
              refine w_goto k94_34 ?_
              refine w_istore (pc' := 43) (ls' := [_, _, _, _, _]) k94_41 rfl rfl rfl ?_
              refine w_aload (pc' := 44) k94_43 rfl rfl ?_
              refine w_getR (pc' := 47) (v := 21) k94_44 rfl (hL.1 0 (10, 12) rfl) (hL.2 0 6 21 rfl) ?_
              refine w_aload (pc' := 48) k94_47 rfl rfl ?_
              refine w_getR (pc' := 51) (v := s) k94_48 rfl (hL.1 0 (10, 12) rfl) t7 ?_
              refine w_callV (pc' := 54) (as := [.inr (some 21), .inr (some s)]) k94_51 rfl rfl (co_v rfl rfl (hL.1 21 (6, 5) rfl)) (by decide) (m36 hF0) (fun r_51 h_51 hq => ?_)
              obtain ⟨I_1, rfl, sv, su⟩ := hq
              have hF1 : CF sh R I_1 K H E HO S L B s g_s M_s A := hF0.keep (fun a q => sv a (by omega))
              have hcs1 := hF1.2.2.2.2.2.2.2.2.2.1
              refine w_iload (pc' := 55) k94_54 rfl rfl ?_
              refine w_if_ne (pc' := 58) k94_55 rfl (fun c_55 => ?_) (fun c_55 => ?_)
              · refine w_aload (pc' := 72) k94_71 rfl rfl ?_
                refine w_getR (pc' := 75) (v := 21) k94_72 rfl (hL.1 0 (10, 12) rfl) (hL.2 0 6 21 rfl) ?_
                refine w_aload (pc' := 76) k94_75 rfl rfl ?_
                refine w_getR (pc' := 79) (v := s) k94_76 rfl (hL.1 0 (10, 12) rfl) t7 ?_
                refine w_iload (pc' := 81) k94_79 rfl rfl ?_
                refine w_callE (pc' := 84) (as := [.inr (some 21), .inr (some s), .inl _]) k94_81 rfl rfl (co_v rfl rfl (hL.1 21 (6, 5) rfl)) (by decide) (m43 hF1 su) ?_
                exact w_reti k94_84 ⟨by unfold loadS; rw [if_pos ⟨q_2, ⟨c_9, c_14⟩, c_18, c_23⟩, if_neg c_55, if_pos c_30], _, rfl, fun a q => sv a (by omega)⟩
              · refine w_aload (pc' := 59) k94_58 rfl rfl ?_
                refine w_getR (pc' := 62) (v := 21) k94_59 rfl (hL.1 0 (10, 12) rfl) (hL.2 0 6 21 rfl) ?_
                refine w_getR (pc' := 65) (v := 24) k94_62 rfl (hL.1 21 (6, 5) rfl) (hL.2 21 4 24 rfl) ?_
                refine w_iload (pc' := 67) k94_65 rfl rfl ?_
                refine w_iald (pc' := 68) (v := usG (cS H E A (aNf A) (aSh A)) (qS H E A (aSh A)) _) k94_67 rfl (hL.1 24 (0, 324) rfl) (by first | omega | (rcases hK with ⟨rfl, rfl, rfl, rfl, rfl, rfl⟩ | ⟨rfl, rfl, rfl, rfl, rfl, rfl⟩ | ⟨rfl, rfl, rfl, rfl, rfl, rfl⟩ <;> omega)) (su.2.2 _ (by omega) (by omega)) ?_
                refine w_goto k94_68 ?_
                exact w_reti k94_84 ⟨by unfold loadS; rw [if_pos ⟨q_2, ⟨c_9, c_14⟩, c_18, c_23⟩, if_pos c_55, if_pos c_30], _, rfl, fun a q => sv a (by omega)⟩
          · refine w_c1 (pc' := 27) k94_26 rfl ?_
            exact w_reti k94_27 ⟨by unfold loadS; rw [if_neg (by omega)], _, rfl, fun a q => rfl⟩
  · refine w_if_eq (pc' := 8) k94_5 rfl (fun _ => ?_) (fun c_5 => absurd c_5 (by decide))
    refine w_c1 (pc' := 27) k94_26 rfl ?_
    exact w_reti k94_27 ⟨by unfold loadS; rw [if_neg (by omega)], _, rfl, fun a q => rfl⟩
theorem m95 (hF : CF sh R I K H E HO S L B s g_s M_s A) (t7 : R 0 7 = some s) : QQ X (d + 7) 95 [.inr (some 0)] sh R I (leasS H E A) := by
  have hF0 := hF
  obtain ⟨hL, hK, hsp, h_s, m_s, n_s, hg, hM, hLS, hcs, hab, hB⟩ := hF
  have hr := hK.r
  have hnf := hab.2.2.1
  show WP X (d + 7) 95 0 [.inr (some 0)] [] (sh, R, I) 0 0 _
  refine w_aload (pc' := 1) k95_0 rfl rfl ?_
  refine w_getR (pc' := 4) (v := s) k95_1 rfl (hL.1 0 (10, 12) rfl) t7 ?_
  refine w_getI (pc' := 7) (ki := 5) (v := aNf A) k95_4 rfl (hL.s0 h_s) rfl hcs.1 ?_
  refine w_if_ne (pc' := 10) k95_7 rfl (fun c_7 => ?_) (fun c_7 => ?_)
  · refine w_aload (pc' := 14) k95_13 rfl rfl ?_
    refine w_getR (pc' := 17) (v := 21) k95_14 rfl (hL.1 0 (10, 12) rfl) (hL.2 0 6 21 rfl) ?_
    refine w_aload (pc' := 18) k95_17 rfl rfl ?_
    refine w_getR (pc' := 21) (v := s) k95_18 rfl (hL.1 0 (10, 12) rfl) t7 ?_
    refine w_callV (pc' := 24) (as := [.inr (some 21), .inr (some s)]) k95_21 rfl rfl (co_v rfl rfl (hL.1 21 (6, 5) rfl)) (by decide) (m36 hF0) (fun r_21 h_21 hq => ?_)
    obtain ⟨I_1, rfl, sv, su⟩ := hq
    have hF1 : CF sh R I_1 K H E HO S L B s g_s M_s A := hF0.keep (fun a q => sv a (by omega))
    have hcs1 := hF1.2.2.2.2.2.2.2.2.2.1
    refine w_aload (pc' := 25) k95_24 rfl rfl ?_
    refine w_getR (pc' := 28) (v := 21) k95_25 rfl (hL.1 0 (10, 12) rfl) (hL.2 0 6 21 rfl) ?_
    refine w_aload (pc' := 29) k95_28 rfl rfl ?_
    refine w_getR (pc' := 32) (v := s) k95_29 rfl (hL.1 0 (10, 12) rfl) t7 ?_
    refine w_getI (pc' := 35) (ki := 5) (v := aNf A) k95_32 rfl (hL.s0 h_s) rfl hcs1.1 ?_
    refine w_callE (pc' := 38) (as := [.inr (some 21), .inl _]) k95_35 rfl rfl (co_v rfl rfl (hL.1 21 (6, 5) rfl)) (by decide) (m42 hL su (by omega)) ?_
    exact w_reti k95_38 ⟨by unfold leasS; rw [if_neg c_7]; rfl, _, rfl, fun a q => sv a (by omega)⟩
  · refine w_c2 (pc' := 12) k95_10 rfl ?_
    exact w_reti k95_12 ⟨by unfold leasS; rw [if_pos c_7], _, rfl, fun a q => rfl⟩
theorem m96 (hF : CF sh R I K H E HO S L B s g_s M_s A) (t7 : R 0 7 = some s) {f t : Int} : QQ X (d + 7) 96 [.inr (some 0), .inl f, .inl t] sh R I (wouS H E A f t) := by
  have hF0 := hF
  obtain ⟨hL, hK, hsp, h_s, m_s, n_s, hg, hM, hLS, hcs, hab, hB⟩ := hF
  have hr := hK.r
  have hnf := hab.2.2.1
  show WP X (d + 7) 96 0 [.inr (some 0), .inl f, .inl t] [] (sh, R, I) 0 0 _
  refine w_aload (pc' := 1) k96_0 rfl rfl ?_
  refine w_iload (pc' := 2) k96_1 rfl rfl ?_
  refine w_callB (pc' := 5) (as := [.inr (some 0), .inl _]) k96_2 rfl rfl (co_v rfl rfl (hL.1 0 (10, 12) rfl)) (by decide) (m104 hF0 t7) (fun q_2 => ?_) (fun q_2 => ?_)
  · refine w_if_eq (pc' := 8) k96_5 rfl (fun c_5 => absurd c_5 (by decide)) (fun _ => ?_)
    refine w_aload (pc' := 9) k96_8 rfl rfl ?_
    refine w_iload (pc' := 10) k96_9 rfl rfl ?_
    refine w_callB (pc' := 13) (as := [.inr (some 0), .inl _]) k96_10 rfl rfl (co_v rfl rfl (hL.1 0 (10, 12) rfl)) (by decide) (m103 hF0) (fun q_10 => ?_) (fun q_10 => ?_)
    · refine w_if_ne (pc' := 16) k96_13 rfl (fun _ => ?_) (fun c_13 => absurd c_13 (by decide))
      refine w_aload (pc' := 19) k96_18 rfl rfl ?_
      refine w_getR (pc' := 22) (v := 21) k96_19 rfl (hL.1 0 (10, 12) rfl) (hL.2 0 6 21 rfl) ?_
      refine w_aload (pc' := 23) k96_22 rfl rfl ?_
      refine w_getR (pc' := 26) (v := s) k96_23 rfl (hL.1 0 (10, 12) rfl) t7 ?_
      refine w_callV (pc' := 29) (as := [.inr (some 21), .inr (some s)]) k96_26 rfl rfl (co_v rfl rfl (hL.1 21 (6, 5) rfl)) (by decide) (m36 hF0) (fun r_26 h_26 hq => ?_)
      obtain ⟨I_1, rfl, sv, su⟩ := hq
      have hF1 : CF sh R I_1 K H E HO S L B s g_s M_s A := hF0.keep (fun a q => sv a (by omega))
      have hcs1 := hF1.2.2.2.2.2.2.2.2.2.1
      refine w_aload (pc' := 30) k96_29 rfl rfl ?_
      refine w_getR (pc' := 33) (v := 21) k96_30 rfl (hL.1 0 (10, 12) rfl) (hL.2 0 6 21 rfl) ?_
      refine w_aload (pc' := 34) k96_33 rfl rfl ?_
      refine w_getR (pc' := 37) (v := s) k96_34 rfl (hL.1 0 (10, 12) rfl) t7 ?_
      refine w_iload (pc' := 38) k96_37 rfl rfl ?_
      refine w_iload (pc' := 39) k96_38 rfl rfl ?_
      refine w_callV (pc' := 42) (as := [.inr (some 21), .inr (some s), .inl _, .inl _]) k96_39 rfl rfl (co_v rfl rfl (hL.1 21 (6, 5) rfl)) (by decide) (m37 hF1 su q_2 q_10) (fun r_39 h_39 hq => ?_)
      obtain ⟨I_2, rfl, sv2, su2⟩ := hq
      have hcs2 := (hF1.keep (I' := I_2) (fun a q => sv2 a (by omega))).2.2.2.2.2.2.2.2.2.1
      refine w_aload (pc' := 43) k96_42 rfl rfl ?_
      refine w_getR (pc' := 46) (v := 21) k96_43 rfl (hL.1 0 (10, 12) rfl) (hL.2 0 6 21 rfl) ?_
      refine w_aload (pc' := 47) k96_46 rfl rfl ?_
      refine w_getR (pc' := 50) (v := s) k96_47 rfl (hL.1 0 (10, 12) rfl) t7 ?_
      refine w_getI (pc' := 53) (ki := 5) (v := aNf A) k96_50 rfl (hL.s0 h_s) rfl hcs2.1 ?_
      refine w_callE (pc' := 56) (as := [.inr (some 21), .inl _]) k96_53 rfl rfl (co_v rfl rfl (hL.1 21 (6, 5) rfl)) (by decide) (m42 hL su2 (by omega)) ?_
      exact w_reti k96_56 ⟨by unfold wouS; rw [if_pos ⟨q_2, q_10⟩]; rfl, _, rfl, fun a q => (sv2 a (by omega)).trans (sv a (by omega))⟩
    · refine w_if_ne (pc' := 16) k96_13 rfl (fun c_13 => absurd c_13 (by decide)) (fun _ => ?_)
      refine w_c1 (pc' := 17) k96_16 rfl ?_
      exact w_reti k96_17 ⟨by unfold wouS; rw [if_neg (fun z => q_10 z.2)], _, rfl, fun a q => rfl⟩
  · refine w_if_eq (pc' := 8) k96_5 rfl (fun _ => ?_) (fun c_5 => absurd c_5 (by decide))
    refine w_c1 (pc' := 17) k96_16 rfl ?_
    exact w_reti k96_17 ⟨by unfold wouS; rw [if_neg (fun z => q_2 z.1)], _, rfl, fun a q => rfl⟩
theorem m98 (hF : CF sh R I K H E HO S L B s g_s M_s A) (t7 : R 0 7 = some s) {u len w : Int} (h11 : I 0 11 = u) (hlen : I 1 1 = len) : RV X (d + 3) 98 [.inr (some 0), .inl w] (sh, R, I) (couS K HO S L A u len w) := by
  have hF0 := hF
  obtain ⟨hL, hK, hsp, h_s, m_s, n_s, hg, hM, hLS, hcs, hab, hB⟩ := hF
  have hr := hK.r
  show WP X (d + 3) 98 0 [.inr (some 0), .inl w] [] (sh, R, I) 0 0 _
  refine w_iload (pc' := 1) k98_0 rfl rfl ?_
  refine w_swt k98_1 (fun i b hb e_1 => ?_) (fun e_1 => ?_)
  · match i, hb with
    | 0, hb =>
      obtain rfl : 48 = b := Option.some.inj hb
      refine w_aload (pc' := 49) k98_48 rfl rfl ?_
      refine w_getR (pc' := 52) (v := 3) k98_49 rfl (hL.1 0 (10, 12) rfl) (hL.2 0 1 3 rfl) ?_
      refine w_getI (pc' := 55) (ki := 0) (v := K) k98_52 rfl (hL.1 3 (5, 14) rfl) rfl hsp.1 ?_
      exact w_reti k98_55 ⟨by unfold couS; rw [if_pos (by omega)], rfl⟩
    | 1, hb =>
      obtain rfl : 56 = b := Option.some.inj hb
      refine w_aload (pc' := 57) k98_56 rfl rfl ?_
      refine w_getR (pc' := 60) (v := 3) k98_57 rfl (hL.1 0 (10, 12) rfl) (hL.2 0 1 3 rfl) ?_
      refine w_getI (pc' := 63) (ki := 3) (v := HO) k98_60 rfl (hL.1 3 (5, 14) rfl) rfl hsp.2.2.2.1 ?_
      exact w_reti k98_63 ⟨by unfold couS; rw [if_neg (by omega), if_pos (by omega)], rfl⟩
    | 2, hb =>
      obtain rfl : 64 = b := Option.some.inj hb
      refine w_aload (pc' := 65) k98_64 rfl rfl ?_
      refine w_getR (pc' := 68) (v := 3) k98_65 rfl (hL.1 0 (10, 12) rfl) (hL.2 0 1 3 rfl) ?_
      refine w_getI (pc' := 71) (ki := 4) (v := S) k98_68 rfl (hL.1 3 (5, 14) rfl) rfl hsp.2.2.2.2.1 ?_
      exact w_reti k98_71 ⟨by unfold couS; rw [if_neg (by omega), if_neg (by omega), if_pos (by omega)], rfl⟩
    | 3, hb =>
      obtain rfl : 72 = b := Option.some.inj hb
      refine w_aload (pc' := 73) k98_72 rfl rfl ?_
      refine w_getR (pc' := 76) (v := 3) k98_73 rfl (hL.1 0 (10, 12) rfl) (hL.2 0 1 3 rfl) ?_
      refine w_getI (pc' := 79) (ki := 5) (v := L) k98_76 rfl (hL.1 3 (5, 14) rfl) rfl hsp.2.2.2.2.2.1 ?_
      exact w_reti k98_79 ⟨by unfold couS; rw [if_neg (by omega), if_neg (by omega), if_neg (by omega), if_pos (by omega)], rfl⟩
    | 4, hb =>
      obtain rfl : 80 = b := Option.some.inj hb
      refine w_aload (pc' := 81) k98_80 rfl rfl ?_
      refine w_callE (pc' := 84) (as := [.inr (some 0)]) k98_81 rfl rfl (co_v rfl rfl (hL.1 0 (10, 12) rfl)) (by decide) (m113 hF0 t7) ?_
      exact w_reti k98_84 ⟨by unfold couS; rw [if_neg (by omega), if_neg (by omega), if_neg (by omega), if_neg (by omega), if_pos (by omega)], rfl⟩
    | 5, hb =>
      obtain rfl : 85 = b := Option.some.inj hb
      refine w_aload (pc' := 86) k98_85 rfl rfl ?_
      refine w_getR (pc' := 89) (v := s) k98_86 rfl (hL.1 0 (10, 12) rfl) t7 ?_
      refine w_getI (pc' := 92) (ki := 5) (v := aNf A) k98_89 rfl (hL.s0 h_s) rfl hcs.1 ?_
      exact w_reti k98_92 ⟨by unfold couS; rw [if_neg (by omega), if_neg (by omega), if_neg (by omega), if_neg (by omega), if_neg (by omega), if_pos (by omega)], rfl⟩
    | 6, hb =>
      obtain rfl : 93 = b := Option.some.inj hb
      refine w_aload (pc' := 94) k98_93 rfl rfl ?_
      refine w_getI (pc' := 97) (ki := 11) (v := u) k98_94 rfl (hL.1 0 (10, 12) rfl) rfl h11 ?_
      exact w_reti k98_97 ⟨by unfold couS; rw [if_neg (by omega), if_neg (by omega), if_neg (by omega), if_neg (by omega), if_neg (by omega), if_neg (by omega), if_pos (by omega)], rfl⟩
    | 7, hb =>
      obtain rfl : 98 = b := Option.some.inj hb
      refine w_aload (pc' := 99) k98_98 rfl rfl ?_
      refine w_getR (pc' := 102) (v := 1) k98_99 rfl (hL.1 0 (10, 12) rfl) (hL.2 0 0 1 rfl) ?_
      refine w_getI (pc' := 105) (ki := 1) (v := len) k98_102 rfl (hL.1 1 (4, 4) rfl) rfl hlen ?_
      exact w_reti k98_105 ⟨by unfold couS; rw [if_neg (by omega), if_neg (by omega), if_neg (by omega), if_neg (by omega), if_neg (by omega), if_neg (by omega), if_neg (by omega), if_pos (by omega)], rfl⟩
    | i + 8, hb => exact absurd hb (by simp)
  · refine w_c1 (pc' := 107) k98_106 rfl ?_
    exact w_reti k98_107 ⟨by unfold couS; rw [if_neg (by simp at e_1; omega), if_neg (by simp at e_1; omega), if_neg (by simp at e_1; omega), if_neg (by simp at e_1; omega), if_neg (by simp at e_1; omega), if_neg (by simp at e_1; omega), if_neg (by simp at e_1; omega), if_neg (by simp at e_1; omega)], rfl⟩
end C45
