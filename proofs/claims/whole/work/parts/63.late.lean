/-! ===== REFERENCE: count, late ===== -/
theorem sumN_z : ∀ n : Nat, sumN (fun _ => 0) n = 0
  | 0 => rfl
  | n + 1 => by rw [sumN, sumN_z n]; rfl
theorem sumN_add {f g : Int → Int} : ∀ n : Nat, sumN (fun i => f i + g i) n = sumN f n + sumN g n
  | 0 => rfl
  | n + 1 => by rw [sumN, sumN, sumN, sumN_add n]; omega
/-- the order of two sums does not matter -/
theorem sumN_swap {f : Int → Int → Int} (M : Nat) : ∀ N : Nat, sumN (fun i => sumN (f i) M) N = sumN (fun j => sumN (fun i => f i j) N) M
  | 0 => (sumN_z M).symm
  | N + 1 => by
    rw [sumN, sumN_swap M N, ← sumN_add]
    rfl
section M63
variable {X : Nat × (Int → Int)} {d : Nat} {sh : List (Nat × Nat)} {R : Nat → Nat → Option Nat} {I : Nat → Int → Int} {K H E HO S L B : Int} {A : AS}
theorem m187l (hF : MF sh R I K H E HO S L B A) {w : Int} {N : Nat} (hN : L = (N : Int)) : ∀ (k m : Nat) (c i : Int), m + k = N → c = cnt (fun l => !ev (aAg A l)) m → i = (m : Int) → WP X (d + 2) 187 72 [.inr (some 57), .inl w, .inl c, .inl i] [] (sh, R, I) 0 0 (fun r h' => r = .inl (cnt (fun l => !ev (aAg A l)) N) ∧ h' = (sh, R, I)) := by
  have hF0 := hF
  obtain ⟨hM, hK, hpo, hha, hms, hab, hB⟩ := hF
  have hr := hK.r
  intro k
  induction k with
  | zero =>
    rintro m c i hk rfl rfl
    have e : m = N := by omega
    subst e
    refine w_iload (pc' := 73) k187_72 rfl rfl ?_
    refine w_aload (pc' := 74) k187_73 rfl rfl ?_
    refine w_callE (pc' := 77) (as := [.inr (some 57)]) k187_74 rfl rfl (co_v rfl rfl (hM.1 57 (11, 30) rfl)) (by decide) (m132 hF0) ?_
    refine w_ic_ge (pc' := 80) k187_77 rfl (fun c_77 => ?_) (fun c_77 => absurd c_77 (by omega))
    refine w_iload (pc' := 98) k187_97 rfl rfl ?_
    exact w_reti k187_98 ⟨rfl, rfl⟩
  | succ k ih =>
    rintro m c i hk rfl rfl
    have hc := cnt_le (fun l => !ev (aAg A l)) m
    have hm : (0 : Int) ≤ (m : Int) ∧ (m : Int) < L := by omega
    have ha := hab.1 m hm.1 hm.2
    refine w_iload (pc' := 73) k187_72 rfl rfl ?_
    refine w_aload (pc' := 74) k187_73 rfl rfl ?_
    refine w_callE (pc' := 77) (as := [.inr (some 57)]) k187_74 rfl rfl (co_v rfl rfl (hM.1 57 (11, 30) rfl)) (by decide) (m132 hF0) ?_
    refine w_ic_ge (pc' := 80) k187_77 rfl (fun c_77 => absurd c_77 (by omega)) (fun c_77 => ?_)
    refine w_iload (pc' := 81) k187_80 rfl rfl ?_
    refine w_aload (pc' := 82) k187_81 rfl rfl ?_
    refine w_getR (pc' := 85) (v := 59) k187_82 rfl (hM.1 57 (11, 30) rfl) (hM.2 57 4 59 rfl) ?_
    refine w_iload (pc' := 86) k187_85 rfl rfl ?_
    refine w_iald (pc' := 87) (v := aAg A m) k187_86 rfl (hM.1 59 (0, 108) rfl) (by omega) (hms.2.1 m hm.1 hm.2) ?_
    refine w_c1 (pc' := 88) k187_87 rfl ?_
    refine w_irem (pc' := 89) k187_88 rfl (by omega) ?_
    refine w_iadd (pc' := 90) k187_89 rfl (by omega) ?_
    refine w_istore (pc' := 91) (ls' := [_, _, _, _]) k187_90 rfl rfl rfl ?_
    refine w_iinc (pc' := 94) (ls' := [_, _, _, _]) k187_91 rfl rfl (by omega) rfl ?_
    refine w_goto k187_94 ?_
    refine ih (m + 1) _ _ (by omega) ?_ (by omega)
    by_cases h9 : aAg A m % 2 = 0
    · rw [cnt_f (P := fun l => !ev (aAg A l)) (bnF (ev_t.mpr h9)), h9, Int.add_zero]
    · rw [cnt_t (P := fun l => !ev (aAg A l)) (bnE (fun z => h9 (ev_t.mp z)))]
      omega
theorem m187 (hF : MF sh R I K H E HO S L B A) {u len w : Int} (h9 : I 57 9 = u) (h0 : I 57 0 = len) : RV X (d + 2) 187 [.inr (some 57), .inl w] (sh, R, I) (couS K HO S L A u len w) := by
  have hF0 := hF
  obtain ⟨hM, hK, hpo, hha, hms, hab, hB⟩ := hF
  have hr := hK.r
  show WP X (d + 2) 187 0 [.inr (some 57), .inl w, .inr none, .inr none] [] (sh, R, I) 0 0 _
  refine w_iload (pc' := 1) k187_0 rfl rfl ?_
  refine w_swt k187_1 (fun i b hb e_1 => ?_) (fun e_1 => ?_)
  · match i, hb with
    | 0, hb =>
      obtain rfl : 48 = b := Option.some.inj hb
      refine w_aload (pc' := 49) k187_48 rfl rfl ?_
      refine w_getI (pc' := 52) (ki := 2) (v := K) k187_49 rfl (hM.1 57 (11, 30) rfl) rfl hpo ?_
      exact w_reti k187_52 ⟨by unfold couS; rw [if_pos (by omega)], rfl⟩
    | 1, hb =>
      obtain rfl : 53 = b := Option.some.inj hb
      refine w_aload (pc' := 54) k187_53 rfl rfl ?_
      refine w_callE (pc' := 57) (as := [.inr (some 57)]) k187_54 rfl rfl (co_v rfl rfl (hM.1 57 (11, 30) rfl)) (by decide) (m129 hF0) ?_
      exact w_reti k187_57 ⟨by unfold couS; rw [if_neg (by omega), if_pos (by omega)], rfl⟩
    | 2, hb =>
      obtain rfl : 58 = b := Option.some.inj hb
      refine w_aload (pc' := 59) k187_58 rfl rfl ?_
      refine w_callE (pc' := 62) (as := [.inr (some 57)]) k187_59 rfl rfl (co_v rfl rfl (hM.1 57 (11, 30) rfl)) (by decide) (m131 hF0) ?_
      exact w_reti k187_62 ⟨by unfold couS; rw [if_neg (by omega), if_neg (by omega), if_pos (by omega)], rfl⟩
    | 3, hb =>
      obtain rfl : 63 = b := Option.some.inj hb
      refine w_aload (pc' := 64) k187_63 rfl rfl ?_
      refine w_callE (pc' := 67) (as := [.inr (some 57)]) k187_64 rfl rfl (co_v rfl rfl (hM.1 57 (11, 30) rfl)) (by decide) (m132 hF0) ?_
      exact w_reti k187_67 ⟨by unfold couS; rw [if_neg (by omega), if_neg (by omega), if_neg (by omega), if_pos (by omega)], rfl⟩
    | 4, hb =>
      obtain rfl : 68 = b := Option.some.inj hb
      refine w_c1 (pc' := 69) k187_68 rfl ?_
      refine w_istore (pc' := 70) (ls' := [_, _, _, _]) k187_69 rfl rfl rfl ?_
      refine w_c1 (pc' := 71) k187_70 rfl ?_
      refine w_istore (pc' := 72) (ls' := [_, _, _, _]) k187_71 rfl rfl rfl ?_
      rw [show couS K HO S L A u len w = cuC L A by unfold couS; rw [if_neg (by omega), if_neg (by omega), if_neg (by omega), if_neg (by omega), if_pos (by omega)]]
      exact m187l hF0 (N := L.toNat) (by omega) L.toNat 0 _ _ (by omega) rfl rfl
    | 5, hb =>
      obtain rfl : 99 = b := Option.some.inj hb
      refine w_aload (pc' := 100) k187_99 rfl rfl ?_
      refine w_getI (pc' := 103) (ki := 7) (v := aNf A) k187_100 rfl (hM.1 57 (11, 30) rfl) rfl hms.1 ?_
      exact w_reti k187_103 ⟨by unfold couS; rw [if_neg (by omega), if_neg (by omega), if_neg (by omega), if_neg (by omega), if_neg (by omega), if_pos (by omega)], rfl⟩
    | 6, hb =>
      obtain rfl : 104 = b := Option.some.inj hb
      refine w_aload (pc' := 105) k187_104 rfl rfl ?_
      refine w_getI (pc' := 108) (ki := 9) (v := u) k187_105 rfl (hM.1 57 (11, 30) rfl) rfl h9 ?_
      exact w_reti k187_108 ⟨by unfold couS; rw [if_neg (by omega), if_neg (by omega), if_neg (by omega), if_neg (by omega), if_neg (by omega), if_neg (by omega), if_pos (by omega)], rfl⟩
    | 7, hb =>
      obtain rfl : 109 = b := Option.some.inj hb
      refine w_aload (pc' := 110) k187_109 rfl rfl ?_
      refine w_getI (pc' := 113) (ki := 0) (v := len) k187_110 rfl (hM.1 57 (11, 30) rfl) rfl h0 ?_
      exact w_reti k187_113 ⟨by unfold couS; rw [if_neg (by omega), if_neg (by omega), if_neg (by omega), if_neg (by omega), if_neg (by omega), if_neg (by omega), if_neg (by omega), if_pos (by omega)], rfl⟩
    | i + 8, hb => exact absurd hb (by simp)
  · refine w_c1 (pc' := 115) k187_114 rfl ?_
    exact w_reti k187_115 ⟨by unfold couS; rw [if_neg (by simp at e_1; omega), if_neg (by simp at e_1; omega), if_neg (by simp at e_1; omega), if_neg (by simp at e_1; omega), if_neg (by simp at e_1; omega), if_neg (by simp at e_1; omega), if_neg (by simp at e_1; omega), if_neg (by simp at e_1; omega)], rfl⟩
def laD (A : AS) (l n : Int) : Int := if decide (aMk A n l ≠ aAg A l) then 1 else 0
theorem laD_r {l n : Int} : 0 ≤ laD A l n ∧ laD A l n ≤ 1 := by unfold laD; split <;> omega
theorem m157i (hF : MF sh R I K H E HO S L B A) {n : Int} (hn : 0 ≤ n ∧ n < S) {T : Int} (hT : 0 ≤ T ∧ T ≤ 10000) {N : Nat} (hN : L = (N : Int)) {Q : VV → Hp → Prop} (kk : ∀ v3 c, c = T + sumN (fun l => laD A l n) N → (T ≤ c ∧ c ≤ T + 108) → WP X (d + 2) 157 56 [.inr (some 57), .inl c, .inl n, v3] [] (sh, R, I) 0 0 Q) : ∀ (k m : Nat) (c i : Int), m + k = N → c = T + sumN (fun l => laD A l n) m → (T ≤ c ∧ c ≤ T + m) → i = (m : Int) → WP X (d + 2) 157 14 [.inr (some 57), .inl c, .inl n, .inl i] [] (sh, R, I) 0 0 Q := by
  have hF0 := hF
  obtain ⟨hM, hK, hpo, hha, hms, hab, hB⟩ := hF
  have hr := hK.r
  intro k
  induction k with
  | zero =>
    rintro m c i hk hc hc2 rfl
    have e : m = N := by omega
    subst e
    refine w_iload (pc' := 15) k157_14 rfl rfl ?_
    refine w_aload (pc' := 16) k157_15 rfl rfl ?_
    refine w_callE (pc' := 19) (as := [.inr (some 57)]) k157_16 rfl rfl (co_v rfl rfl (hM.1 57 (11, 30) rfl)) (by decide) (m132 hF0) ?_
    refine w_ic_ge (pc' := 22) k157_19 rfl (fun c_19 => ?_) (fun c_19 => absurd c_19 (by omega))
    exact kk _ _ hc (by omega)
  | succ k ih =>
    rintro m c i hk hc hc2 rfl
    have hm : (0 : Int) ≤ (m : Int) ∧ (m : Int) < L := by omega
    refine w_iload (pc' := 15) k157_14 rfl rfl ?_
    refine w_aload (pc' := 16) k157_15 rfl rfl ?_
    refine w_callE (pc' := 19) (as := [.inr (some 57)]) k157_16 rfl rfl (co_v rfl rfl (hM.1 57 (11, 30) rfl)) (by decide) (m132 hF0) ?_
    refine w_ic_ge (pc' := 22) k157_19 rfl (fun c_19 => absurd c_19 (by omega)) (fun c_19 => ?_)
    refine w_iload (pc' := 23) k157_22 rfl rfl ?_
    refine w_aload (pc' := 24) k157_23 rfl rfl ?_
    refine w_getR (pc' := 27) (v := 60) k157_24 rfl (hM.1 57 (11, 30) rfl) (hM.2 57 5 60 rfl) ?_
    refine w_c2 (pc' := 29) k157_27 rfl ?_
    refine w_iload (pc' := 30) k157_29 rfl rfl ?_
    refine w_imul (pc' := 31) k157_30 rfl (by omega) ?_
    refine w_iload (pc' := 32) k157_31 rfl rfl ?_
    refine w_iadd (pc' := 33) k157_32 rfl (by omega) ?_
    refine w_iald (pc' := 34) (v := aMk A n m) k157_33 rfl (hM.1 60 (0, 4860) rfl) (by omega) (hms.2.2.1 n m hn.1 hn.2 hm.1 hm.2) ?_
    refine w_aload (pc' := 35) k157_34 rfl rfl ?_
    refine w_getR (pc' := 38) (v := 59) k157_35 rfl (hM.1 57 (11, 30) rfl) (hM.2 57 4 59 rfl) ?_
    refine w_iload (pc' := 39) k157_38 rfl rfl ?_
    refine w_iald (pc' := 40) (v := aAg A m) k157_39 rfl (hM.1 59 (0, 108) rfl) (by omega) (hms.2.1 m hm.1 hm.2) ?_
    refine w_ic_ne (pc' := 43) k157_40 rfl (fun c_40 => ?_) (fun c_40 => ?_)
    · refine w_c1 (pc' := 48) k157_47 rfl ?_
      refine w_iadd (pc' := 49) k157_48 rfl (by omega) ?_
      refine w_istore (pc' := 50) (ls' := [_, _, _, _]) k157_49 rfl rfl rfl ?_
      refine w_iinc (pc' := 53) (ls' := [_, _, _, _]) k157_50 rfl rfl (by omega) rfl ?_
      refine w_goto k157_53 ?_
      exact ih (m + 1) _ _ (by omega) (by rw [sumN, hc, show laD A m n = 1 from if_pos (decide_eq_true c_40), Int.add_assoc]) (by omega) (by omega)
    · refine w_c1 (pc' := 44) k157_43 rfl ?_
      refine w_goto k157_44 ?_
      refine w_iadd (pc' := 49) k157_48 rfl (by omega) ?_
      refine w_istore (pc' := 50) (ls' := [_, _, _, _]) k157_49 rfl rfl rfl ?_
      refine w_iinc (pc' := 53) (ls' := [_, _, _, _]) k157_50 rfl rfl (by omega) rfl ?_
      refine w_goto k157_53 ?_
      exact ih (m + 1) _ _ (by omega) (by rw [sumN, hc, show laD A m n = 0 from if_neg (by rw [decide_eq_false (fun z => z c_40)]; decide), Int.add_assoc]) (by omega) (by omega)
theorem m157o (hF : MF sh R I K H E HO S L B A) {N : Nat} (hN : S = (N : Int)) : ∀ (k m : Nat) (c i : Int) (v3 : VV), m + k = N → c = sumN (fun n => sumN (fun l => laD A l n) L.toNat) m → (0 ≤ c ∧ c ≤ 108 * m) → i = (m : Int) → WP X (d + 2) 157 4 [.inr (some 57), .inl c, .inl i, v3] [] (sh, R, I) 0 0 (fun r h' => r = .inl (sumN (fun n => sumN (fun l => laD A l n) L.toNat) N) ∧ h' = (sh, R, I)) := by
  have hF0 := hF
  obtain ⟨hM, hK, hpo, hha, hms, hab, hB⟩ := hF
  have hr := hK.r
  intro k
  induction k with
  | zero =>
    rintro m c i v3 hk rfl hc2 rfl
    have e : m = N := by omega
    subst e
    refine w_iload (pc' := 5) k157_4 rfl rfl ?_
    refine w_aload (pc' := 6) k157_5 rfl rfl ?_
    refine w_callE (pc' := 9) (as := [.inr (some 57)]) k157_6 rfl rfl (co_v rfl rfl (hM.1 57 (11, 30) rfl)) (by decide) (m131 hF0) ?_
    refine w_ic_ge (pc' := 12) k157_9 rfl (fun c_9 => ?_) (fun c_9 => absurd c_9 (by omega))
    refine w_iload (pc' := 63) k157_62 rfl rfl ?_
    exact w_reti k157_63 ⟨rfl, rfl⟩
  | succ k ih =>
    rintro m c i v3 hk hc hc2 rfl
    have hm : (0 : Int) ≤ (m : Int) ∧ (m : Int) < S := by omega
    refine w_iload (pc' := 5) k157_4 rfl rfl ?_
    refine w_aload (pc' := 6) k157_5 rfl rfl ?_
    refine w_callE (pc' := 9) (as := [.inr (some 57)]) k157_6 rfl rfl (co_v rfl rfl (hM.1 57 (11, 30) rfl)) (by decide) (m131 hF0) ?_
    refine w_ic_ge (pc' := 12) k157_9 rfl (fun c_9 => absurd c_9 (by omega)) (fun c_9 => ?_)
    refine w_c1 (pc' := 13) k157_12 rfl ?_
    refine w_istore (pc' := 14) (ls' := [_, _, _, _]) k157_13 rfl rfl rfl ?_
    refine m157i hF0 hm (T := c) (by omega) (N := L.toNat) (by omega) (fun v9 c9 hc3 hc4 => ?_) L.toNat 0 _ _ (by omega) (by rw [sumN, Int.add_zero]) (by omega) rfl
    refine w_iinc (pc' := 59) (ls' := [_, _, _, _]) k157_56 rfl rfl (by omega) rfl ?_
    refine w_goto k157_59 ?_
    exact ih (m + 1) _ _ _ (by omega) (by rw [sumN, ← hc]; exact hc3) (by omega) (by omega)
theorem m157 (hF : MF sh R I K H E HO S L B A)  : RV X (d + 2) 157 [.inr (some 57)] (sh, R, I) (laC S L A) := by
  have hF0 := hF
  obtain ⟨hM, hK, hpo, hha, hms, hab, hB⟩ := hF
  have hr := hK.r
  have e9 : laC S L A = sumN (fun n => sumN (fun l => laD A l n) L.toNat) S.toNat := by
    unfold laC
    exact sumN_swap (f := laD A) S.toNat L.toNat
  rw [e9]
  show WP X (d + 2) 157 0 [.inr (some 57), .inr none, .inr none, .inr none] [] (sh, R, I) 0 0 _
  refine w_c1 (pc' := 1) k157_0 rfl ?_
  refine w_istore (pc' := 2) (ls' := [_, _, _, _]) k157_1 rfl rfl rfl ?_
  refine w_c1 (pc' := 3) k157_2 rfl ?_
  refine w_istore (pc' := 4) (ls' := [_, _, _, _]) k157_3 rfl rfl rfl ?_
  exact m157o hF0 (N := S.toNat) (by omega) S.toNat 0 _ _ _ (by omega) rfl (by omega) rfl
end M63
