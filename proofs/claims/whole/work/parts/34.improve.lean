/-! ===== CLASS: Sharing, sizes and the best shift ===== -/
section C34
variable {X : Nat × (Int → Int)} {d : Nat} {sh : List (Nat × Nat)} {R : Nat → Nat → Option Nat} {I : Nat → Int → Int} {s g_s M_s : Nat} {K H E HO S L B : Int} {A : AS}
variable {c : Int → Int} {q : Int → Int → Int}
def szG (A : AS) (c : Int → Int) (q : Int → Int → Int) (u f : Int) : Int := aSz A f * kG c q u f
theorem m43i (hF : CF sh R I K H E HO S L B s g_s M_s A) (hU : UI I c q) {u : Int} {f N : Nat} (hN : aNf A = (N : Int)) (hfN : f < N) {z0 : Int} (hz : 0 ≤ z0 ∧ z0 ≤ 100000) {Q : VV → Hp → Prop} (hex : ∀ v5 : VV, WP X (d + 1) 43 62 [.inr (some 21), .inr (some s), .inl u, .inl (z0 + szG A c q u f), .inl (f : Int), v5] [] (sh, R, I) 0 0 Q) : ∀ (k n : Nat) (i z : Int), (n : Int) + k = c f → i = (n : Int) → z = z0 + aSz A f * cnt (fun x => decide (q f x = u)) n → WP X (d + 1) 43 17 [.inr (some 21), .inr (some s), .inl u, .inl z, .inl (f : Int), .inl i] [] (sh, R, I) 0 0 Q := by
  have hK := hF.2.1
  have hab := hF.2.2.2.2.2.2.2.2.2.2.1
  have hca := fun f h1 h2 => (hU.1 f h1 h2).2
  obtain ⟨hL, -, hsp, h_s, m_s, n_s, -, -, -, hcs, -⟩ := id hF
  have h16 := hab.2.2.1
  have hcf := hU.1 f (by omega) (by omega)
  have hff := hab.2.2.2 f (by omega) (by omega)
  have hsz : I (s + 4) f = aSz A f := (hcs.2.2.2.2.2 f (by omega) (by omega)).2.2.1
  intro k
  induction k with
  | zero =>
    rintro n i z hk rfl rfl
    have e9 : aSz A f * cnt (fun x => decide (q f x = u)) n = szG A c q u f := by unfold szG kG; rw [show (c f).toNat = n by omega]
    rw [e9]
    refine w_iload (pc' := 19) k43_17 rfl rfl ?_
    refine w_aload (pc' := 20) k43_19 rfl rfl ?_
    refine w_getR (pc' := 23) (v := 23) k43_20 rfl (hL.1 21 (6, 5) rfl) (hL.2 21 3 23 rfl) ?_
    refine w_iload (pc' := 25) k43_23 rfl rfl ?_
    refine w_iald (pc' := 26) (v := c f) k43_25 rfl (hL.1 23 (0, 16) rfl) (by omega) hcf.1 ?_
    refine w_ic_ge (pc' := 29) k43_26 rfl (fun c_26 => ?_) (fun c_26 => absurd c_26 (by omega))
    exact hex _
  | succ k ih =>
    rintro n i z hk rfl rfl
    have hq9 := hU.2.1 f n (by omega) (by omega) (by omega) (by omega)
    have hcn := cnt_le (fun x => decide (q f x = u)) n
    have hmz : 0 ≤ aSz A f * cnt (fun x => decide (q f x = u)) n ∧ aSz A f * cnt (fun x => decide (q f x = u)) n ≤ 99 * 6 := ⟨Int.mul_nonneg (by omega) (by omega), Int.mul_le_mul (by omega) (by omega) (by omega) (by omega)⟩
    refine w_iload (pc' := 19) k43_17 rfl rfl ?_
    refine w_aload (pc' := 20) k43_19 rfl rfl ?_
    refine w_getR (pc' := 23) (v := 23) k43_20 rfl (hL.1 21 (6, 5) rfl) (hL.2 21 3 23 rfl) ?_
    refine w_iload (pc' := 25) k43_23 rfl rfl ?_
    refine w_iald (pc' := 26) (v := c f) k43_25 rfl (hL.1 23 (0, 16) rfl) (by omega) hcf.1 ?_
    refine w_ic_ge (pc' := 29) k43_26 rfl (fun c_26 => absurd c_26 (by omega)) (fun c_26 => ?_)
    refine w_aload (pc' := 30) k43_29 rfl rfl ?_
    refine w_getR (pc' := 33) (v := 22) k43_30 rfl (hL.1 21 (6, 5) rfl) (hL.2 21 2 22 rfl) ?_
    refine w_iload (pc' := 35) k43_33 rfl rfl ?_
    refine w_c2 (pc' := 37) k43_35 rfl ?_
    refine w_imul (pc' := 38) k43_37 rfl (by omega) ?_
    refine w_iload (pc' := 40) k43_38 rfl rfl ?_
    refine w_iadd (pc' := 41) k43_40 rfl (by omega) ?_
    refine w_iald (pc' := 42) (v := q f n) k43_41 rfl (hL.1 22 (0, 96) rfl) (by omega) hq9.1 ?_
    refine w_iload (pc' := 43) k43_42 rfl rfl ?_
    refine w_ic_ne (pc' := 46) k43_43 rfl (fun c_43 => ?_) (fun c_43 => ?_)
    · refine w_iinc (pc' := 59) (ls' := [_, _, _, _, _, _]) k43_56 rfl rfl (by omega) rfl ?_
      refine w_goto k43_59 ?_
      exact ih (n + 1) _ _ (by omega) (by omega) (by rw [cnt_f (by simpa using c_43)])
    · refine w_iload (pc' := 47) k43_46 rfl rfl ?_
      refine w_aload (pc' := 48) k43_47 rfl rfl ?_
      refine w_getR (pc' := 51) (v := (s + 4)) k43_48 rfl (hL.s0 h_s) (hL.r3 h_s) ?_
      refine w_iload (pc' := 53) k43_51 rfl rfl ?_
      refine w_iald (pc' := 54) (v := aSz A f) k43_53 rfl (hL.s4 h_s) (by omega) hsz ?_
      refine w_iadd (pc' := 55) k43_54 rfl (by omega) ?_
      refine w_istore (pc' := 56) (ls' := [_, _, _, _, _, _]) k43_55 rfl rfl rfl ?_
      refine w_iinc (pc' := 59) (ls' := [_, _, _, _, _, _]) k43_56 rfl rfl (by omega) rfl ?_
      refine w_goto k43_59 ?_
      exact ih (n + 1) _ _ (by omega) (by omega) (by rw [cnt_t (by simpa using c_43)]; rw [Int.mul_add]; omega)
theorem szG_le (hF : CF sh R I K H E HO S L B s g_s M_s A) (hU : UI I c q) {u : Int} {f : Nat} (hf : (f : Int) < aNf A) : 0 ≤ szG A c q u f ∧ szG A c q u f ≤ 594 := by
  have hK := hF.2.1
  have hab := hF.2.2.2.2.2.2.2.2.2.2.1
  have hca := fun f h1 h2 => (hU.1 f h1 h2).2
  obtain ⟨hL, -, hsp, h_s, m_s, n_s, -, -, -, hcs, -⟩ := id hF
  have h16 := hab.2.2.1
  have hff := hab.2.2.2 f (by omega) (by omega)
  have hk := kG_le (q := q) (u := u) (hca f (by omega) (by omega))
  unfold szG
  exact ⟨Int.mul_nonneg (by omega) hk.1, Int.mul_le_mul (c := 99) (d := 6) (by omega) hk.2 hk.1 (by omega)⟩
theorem m43l (hF : CF sh R I K H E HO S L B s g_s M_s A) (hU : UI I c q) {u : Int} {N : Nat} (hN : aNf A = (N : Int)) : ∀ (k n : Nat) (i z : Int) (v5 : VV), n + k = N → i = (n : Int) → z = sumN (szG A c q u) n → WP X (d + 1) 43 5 [.inr (some 21), .inr (some s), .inl u, .inl z, .inl i, v5] [] (sh, R, I) 0 0 (fun r h' => r = .inl (sumN (szG A c q u) N) ∧ h' = (sh, R, I)) := by
  have hK := hF.2.1
  have hab := hF.2.2.2.2.2.2.2.2.2.2.1
  have hca := fun f h1 h2 => (hU.1 f h1 h2).2
  obtain ⟨hL, -, hsp, h_s, m_s, n_s, -, -, -, hcs, -⟩ := id hF
  have h16 := hab.2.2.1
  intro k
  induction k with
  | zero =>
    rintro n i z v5 hk rfl rfl
    have e9 : n = N := by omega
    subst e9
    refine w_iload (pc' := 7) k43_5 rfl rfl ?_
    refine w_aload (pc' := 8) k43_7 rfl rfl ?_
    refine w_getI (pc' := 11) (ki := 5) (v := aNf A) k43_8 rfl (hL.s0 h_s) rfl hcs.1 ?_
    refine w_ic_ge (pc' := 14) k43_11 rfl (fun c_11 => ?_) (fun c_11 => absurd c_11 (by omega))
    refine w_iload (pc' := 69) k43_68 rfl rfl ?_
    exact w_reti k43_69 ⟨rfl, rfl⟩
  | succ k ih =>
    rintro n i z v5 hk rfl rfl
    have hs9 := sumN_le (f := szG A c q u) (C := 594) n (fun i hi => szG_le hF hU (by omega))
    have hcf := hU.1 n (by omega) (by omega)
    have hgn := szG_le hF hU (u := u) (f := n) (by omega)
    refine w_iload (pc' := 7) k43_5 rfl rfl ?_
    refine w_aload (pc' := 8) k43_7 rfl rfl ?_
    refine w_getI (pc' := 11) (ki := 5) (v := aNf A) k43_8 rfl (hL.s0 h_s) rfl hcs.1 ?_
    refine w_ic_ge (pc' := 14) k43_11 rfl (fun c_11 => absurd c_11 (by omega)) (fun c_11 => ?_)
    refine w_c1 (pc' := 15) k43_14 rfl ?_
    refine w_istore (pc' := 17) (ls' := [_, _, _, _, _, _]) k43_15 rfl rfl rfl ?_
    refine m43i hF hU hN (f := n) (z0 := sumN (szG A c q u) n) (by omega) (by omega) (fun v9 => ?_) (c n).toNat 0 _ _ (by omega) rfl (by simp [cnt, sumN])
    refine w_iinc (pc' := 65) (ls' := [_, _, _, _, _, _]) k43_62 rfl rfl (by omega) rfl ?_
    refine w_goto k43_65 ?_
    exact ih (n + 1) _ _ _ (by omega) (by omega) rfl
theorem m43 (hF : CF sh R I K H E HO S L B s g_s M_s A) (hU : UI I c q) {u : Int} : RV X (d + 1) 43 [.inr (some 21), .inr (some s), .inl u] (sh, R, I) (sumN (szG A c q u) (aNf A).toNat) := by
  have hab := hF.2.2.2.2.2.2.2.2.2.2.1
  show WP X (d + 1) 43 0 [.inr (some 21), .inr (some s), .inl u, .inr none, .inr none, .inr none] [] (sh, R, I) 0 0 _
  refine w_c1 (pc' := 1) k43_0 rfl ?_
  refine w_istore (pc' := 2) (ls' := [_, _, _, _, _, _]) k43_1 rfl rfl rfl ?_
  refine w_c1 (pc' := 3) k43_2 rfl ?_
  refine w_istore (pc' := 5) (ls' := [_, _, _, _, _, _]) k43_3 rfl rfl rfl ?_
  exact m43l hF hU (N := (aNf A).toNat) (by have := hab.2.2.1; omega) (aNf A).toNat 0 _ _ _ (by omega) rfl rfl
theorem imF_r {ls sh9 : Int → Int} {p0 : Int × Int × Int} : ∀ n : Nat, (imF ls sh9 p0 n).1 = p0.1 ∨ (0 ≤ (imF ls sh9 p0 n).1 ∧ (imF ls sh9 p0 n).1 < n)
  | 0 => Or.inl rfl
  | n + 1 => by
    rw [imF]
    split
    · exact Or.inr ⟨by dsimp only; omega, by dsimp only; omega⟩
    · rcases imF_r (ls := ls) (sh9 := sh9) (p0 := p0) n with q | q
      · exact Or.inl q
      · exact Or.inr ⟨q.1, by omega⟩
theorem m44l (hF : CF sh R I K H E HO S L B s g_s M_s A) {f : Int} (hf : 0 ≤ f ∧ f < aNf A) {N : Nat} (hN : H * H = (N : Int)) : ∀ (k n : Nat) (i b bl bs : Int) (v8 v9 : VV) (τ : Int) (I1 : Nat → Int → Int), n + k = N → i = (n : Int) → (b, bl, bs) = imF (fun s => lsV H E A (aNf A) (upF (aSh A) f s)) (fun s => shV H E A (aNf A) (upF (aSh A) f s) f) (aSh A f, lsV H E A (aNf A) (aSh A), shV H E A (aNf A) (aSh A) f) n → (∀ a, a < 12 ∨ (14 < a ∧ a < 22) ∨ 24 < a → I1 a = I a) → UI I1 (cS H E A (aNf A) (upF (aSh A) f τ)) (qS H E A (upF (aSh A) f τ)) → WP X (d + 6) 44 30 [.inr (some 21), .inr (some s), .inl f, .inl (aSh A f), .inl b, .inl bl, .inl bs, .inl i, v8, v9] [] (sh, R, I1) 0 0 (fun r h' => ∃ I', h' = (sh, R, I') ∧ ((∀ a, a < 12 ∨ (14 < a ∧ a < 22) ∨ 24 < a → a ≠ s + 5 → I' a = I a) ∧ I' (s + 5) = upF (I (s + 5)) f (bestS H E A (aNf A) (aSh A) f)) ∧ UI I' (cS H E A (aNf A) (upF (aSh A) f (bestS H E A (aNf A) (aSh A) f))) (qS H E A (upF (aSh A) f (bestS H E A (aNf A) (aSh A) f))) ∧ ((r = .inl 1 ∧ bestS H E A (aNf A) (aSh A) f ≠ aSh A f) ∨ (r = .inl 0 ∧ bestS H E A (aNf A) (aSh A) f = aSh A f))) := by
  have hK := hF.2.1
  have hr := hK.r
  have hab := hF.2.2.2.2.2.2.2.2.2.2.1
  have h16 := hab.2.2.1
  have hff := hab.2.2.2 f hf.1 hf.2
  have hH9 : 0 ≤ H * H ∧ H * H ≤ 9 := by
    rcases hK with ⟨rfl, rfl, rfl, rfl, rfl, rfl⟩ | ⟨rfl, rfl, rfl, rfl, rfl, rfl⟩ | ⟨rfl, rfl, rfl, rfl, rfl, rfl⟩ <;> omega
  intro k
  induction k with
  | zero =>
    rintro n i b bl bs v8 v9 τ I1 hk rfl hp h1 h2
    have hF1 : CF sh R I1 K H E HO S L B s g_s M_s A := hF.keep (fun x hx => h1 x (by omega))
    obtain ⟨hL, -, hsp, h_s, m_s, n_s, -, -, -, hcs, -⟩ := id hF1
    have e9 : n = N := by omega
    subst e9
    have hb9 : b = bestS H E A (aNf A) (aSh A) f := by unfold bestS; rw [show (H * H).toNat = n by omega, ← hp]
    have hbr : 0 ≤ b ∧ b < H * H := by
      have := imF_r (ls := fun s => lsV H E A (aNf A) (upF (aSh A) f s)) (sh9 := fun s => shV H E A (aNf A) (upF (aSh A) f s) f) (p0 := (aSh A f, lsV H E A (aNf A) (aSh A), shV H E A (aNf A) (aSh A) f)) n
      rw [← hp] at this
      dsimp only at this
      have := hff.2.2.2.2
      omega
    subst hb9
    have hsi : s + 5 < 12 ∨ (14 < s + 5 ∧ s + 5 < 22) ∨ 24 < s + 5 := by rcases h_s with rfl | rfl | rfl | rfl <;> omega
    refine w_iload (pc' := 32) k44_30 rfl rfl ?_
    refine w_aload (pc' := 33) k44_32 rfl rfl ?_
    refine w_getR (pc' := 36) (v := 3) k44_33 rfl (hL.1 21 (6, 5) rfl) (hL.2 21 0 3 rfl) ?_
    refine w_getI (pc' := 39) (ki := 1) (v := H) k44_36 rfl (hL.1 3 (5, 14) rfl) rfl hsp.2.1 ?_
    refine w_aload (pc' := 40) k44_39 rfl rfl ?_
    refine w_getR (pc' := 43) (v := 3) k44_40 rfl (hL.1 21 (6, 5) rfl) (hL.2 21 0 3 rfl) ?_
    refine w_getI (pc' := 46) (ki := 1) (v := H) k44_43 rfl (hL.1 3 (5, 14) rfl) rfl hsp.2.1 ?_
    refine w_imul (pc' := 47) k44_46 rfl (by omega) ?_
    refine w_ic_ge (pc' := 50) k44_47 rfl (fun c_47 => ?_) (fun c_47 => absurd c_47 (by omega))
    refine w_aload (pc' := 115) k44_114 rfl rfl ?_
    refine w_aload (pc' := 116) k44_115 rfl rfl ?_
    refine w_iload (pc' := 117) k44_116 rfl rfl ?_
    refine w_iload (pc' := 119) k44_117 rfl rfl ?_
    refine w_callV (pc' := 122) (as := [.inr (some 21), .inr (some s), .inl _, .inl _]) k44_119 rfl rfl (co_v rfl rfl (hL.1 21 (6, 5) rfl)) (by decide) (m37 hF1 h2 hf hbr) (fun r_119 h_119 hq => ?_)
    obtain ⟨I2, rfl, h3, h4⟩ := hq
    rw [upF_uu] at h4
    refine w_aload (pc' := 123) k44_122 rfl rfl ?_
    refine w_getR (pc' := 126) (v := (s + 5)) k44_123 rfl (hL.s0 h_s) (hL.r4 h_s) ?_
    refine w_iload (pc' := 127) k44_126 rfl rfl ?_
    refine w_iload (pc' := 129) k44_127 rfl rfl ?_
    refine w_iast (pc' := 130) k44_129 rfl (hL.s5 h_s) (by omega) ?_
    refine w_iload (pc' := 132) k44_130 rfl rfl ?_
    refine w_iload (pc' := 133) k44_132 rfl rfl ?_
    refine w_ic_eq (pc' := 136) k44_133 rfl (fun c_133 => ?_) (fun c_133 => ?_)
    · refine w_c1 (pc' := 141) k44_140 rfl ?_
      refine w_retz k44_141 (Or.inl rfl) ⟨_, rfl, ⟨fun a h5 h6 => by rw [upA_n h6, h3 a h5]; exact h1 a h5, by rw [upA_s, h3 _ hsi, h1 _ hsi]⟩, h4.keep (fun a h5 h6 => upA_n (by rcases h_s with rfl | rfl | rfl | rfl <;> omega)), Or.inr ⟨rfl, c_133⟩⟩
    · refine w_c1 (pc' := 137) k44_136 rfl ?_
      refine w_goto k44_137 ?_
      refine w_retz k44_141 (Or.inr rfl) ⟨_, rfl, ⟨fun a h5 h6 => by rw [upA_n h6, h3 a h5]; exact h1 a h5, by rw [upA_s, h3 _ hsi, h1 _ hsi]⟩, h4.keep (fun a h5 h6 => upA_n (by rcases h_s with rfl | rfl | rfl | rfl <;> omega)), Or.inl ⟨rfl, c_133⟩⟩
  | succ k ih =>
    rintro n i b bl bs v8 v9 τ I1 hk rfl hp h1 h2
    have hF1 : CF sh R I1 K H E HO S L B s g_s M_s A := hF.keep (fun x hx => h1 x (by omega))
    obtain ⟨hL, -, hsp, h_s, m_s, n_s, -, -, -, hcs, -⟩ := id hF1
    refine w_iload (pc' := 32) k44_30 rfl rfl ?_
    refine w_aload (pc' := 33) k44_32 rfl rfl ?_
    refine w_getR (pc' := 36) (v := 3) k44_33 rfl (hL.1 21 (6, 5) rfl) (hL.2 21 0 3 rfl) ?_
    refine w_getI (pc' := 39) (ki := 1) (v := H) k44_36 rfl (hL.1 3 (5, 14) rfl) rfl hsp.2.1 ?_
    refine w_aload (pc' := 40) k44_39 rfl rfl ?_
    refine w_getR (pc' := 43) (v := 3) k44_40 rfl (hL.1 21 (6, 5) rfl) (hL.2 21 0 3 rfl) ?_
    refine w_getI (pc' := 46) (ki := 1) (v := H) k44_43 rfl (hL.1 3 (5, 14) rfl) rfl hsp.2.1 ?_
    refine w_imul (pc' := 47) k44_46 rfl (by omega) ?_
    refine w_ic_ge (pc' := 50) k44_47 rfl (fun c_47 => absurd c_47 (by omega)) (fun c_47 => ?_)
    refine w_aload (pc' := 51) k44_50 rfl rfl ?_
    refine w_aload (pc' := 52) k44_51 rfl rfl ?_
    refine w_iload (pc' := 53) k44_52 rfl rfl ?_
    refine w_iload (pc' := 55) k44_53 rfl rfl ?_
    refine w_callV (pc' := 58) (as := [.inr (some 21), .inr (some s), .inl _, .inl _]) k44_55 rfl rfl (co_v rfl rfl (hL.1 21 (6, 5) rfl)) (by decide) (m37 hF1 h2 hf (by omega)) (fun r_55 h_55 hq => ?_)
    obtain ⟨I2, rfl, h3, h4⟩ := hq
    rw [upF_uu] at h4
    have hF2 : CF sh R I2 K H E HO S L B s g_s M_s A := hF1.keep (fun x hx => h3 x (by omega))
    obtain ⟨hL, -, hsp, h_s, m_s, n_s, -, -, -, hcs, -⟩ := id hF2
    refine w_aload (pc' := 59) k44_58 rfl rfl ?_
    refine w_aload (pc' := 60) k44_59 rfl rfl ?_
    refine w_getI (pc' := 63) (ki := 5) (v := aNf A) k44_60 rfl (hL.s0 h_s) rfl hcs.1 ?_
    refine w_callE (pc' := 66) (as := [.inr (some 21), .inl _]) k44_63 rfl rfl (co_v rfl rfl (hL.1 21 (6, 5) rfl)) (by decide) (m42 hL h4 h16) ?_
    refine w_istore (pc' := 68) (ls' := [_, _, _, _, _, _, _, _, _, _]) k44_66 rfl rfl rfl ?_
    refine w_aload (pc' := 69) k44_68 rfl rfl ?_
    refine w_iload (pc' := 70) k44_69 rfl rfl ?_
    refine w_callE (pc' := 73) (as := [.inr (some 21), .inl _]) k44_70 rfl rfl (co_v rfl rfl (hL.1 21 (6, 5) rfl)) (by decide) (m41 hL h4 (by omega)) ?_
    refine w_istore (pc' := 75) (ls' := [_, _, _, _, _, _, _, _, _, _]) k44_73 rfl rfl rfl ?_
    refine w_iload (pc' := 77) k44_75 rfl rfl ?_
    refine w_iload (pc' := 79) k44_77 rfl rfl ?_
    refine w_ic_gt (pc' := 82) k44_79 rfl (fun c_79 => ?_) (fun c_79 => ?_)
    · refine w_iload (pc' := 98) k44_96 rfl rfl ?_
      refine w_istore (pc' := 100) (ls' := [_, _, _, _, _, _, _, _, _, _]) k44_98 rfl rfl rfl ?_
      refine w_iload (pc' := 102) k44_100 rfl rfl ?_
      refine w_istore (pc' := 104) (ls' := [_, _, _, _, _, _, _, _, _, _]) k44_102 rfl rfl rfl ?_
      refine w_iload (pc' := 106) k44_104 rfl rfl ?_
      refine w_istore (pc' := 108) (ls' := [_, _, _, _, _, _, _, _, _, _]) k44_106 rfl rfl rfl ?_
      refine w_iinc (pc' := 111) (ls' := [_, _, _, _, _, _, _, _, _, _]) k44_108 rfl rfl (by omega) rfl ?_
      refine w_goto k44_111 ?_
      exact ih (n + 1) _ _ _ _ _ _ _ _ (by omega) (by omega) (by rw [imF, ← hp]; exact (if_pos (Or.inl c_79)).symm) (fun a ha => by rw [h3 a ha]; exact h1 a ha) h4
    · refine w_iload (pc' := 84) k44_82 rfl rfl ?_
      refine w_iload (pc' := 86) k44_84 rfl rfl ?_
      refine w_ic_ne (pc' := 89) k44_86 rfl (fun c_86 => ?_) (fun c_86 => ?_)
      · refine w_iinc (pc' := 111) (ls' := [_, _, _, _, _, _, _, _, _, _]) k44_108 rfl rfl (by omega) rfl ?_
        refine w_goto k44_111 ?_
        exact ih (n + 1) _ _ _ _ _ _ _ _ (by omega) (by omega) (by rw [imF, ← hp]; exact (if_neg (show ¬ (bl < lsV H E A (aNf A) (upF (aSh A) f n) ∨ (lsV H E A (aNf A) (upF (aSh A) f n) = bl ∧ bs < shV H E A (aNf A) (upF (aSh A) f n) f)) by have e1 : lsG (cS H E A (aNf A) (upF (aSh A) f n)) (qS H E A (upF (aSh A) f n)) (aNf A).toNat = lsV H E A (aNf A) (upF (aSh A) f n) := rfl; have e2 : shG (cS H E A (aNf A) (upF (aSh A) f n)) (qS H E A (upF (aSh A) f n)) f = shV H E A (aNf A) (upF (aSh A) f n) f := rfl; omega)).symm) (fun a ha => by rw [h3 a ha]; exact h1 a ha) h4
      · refine w_iload (pc' := 91) k44_89 rfl rfl ?_
        refine w_iload (pc' := 93) k44_91 rfl rfl ?_
        refine w_ic_le (pc' := 96) k44_93 rfl (fun c_93 => ?_) (fun c_93 => ?_)
        · refine w_iinc (pc' := 111) (ls' := [_, _, _, _, _, _, _, _, _, _]) k44_108 rfl rfl (by omega) rfl ?_
          refine w_goto k44_111 ?_
          exact ih (n + 1) _ _ _ _ _ _ _ _ (by omega) (by omega) (by rw [imF, ← hp]; exact (if_neg (show ¬ (bl < lsV H E A (aNf A) (upF (aSh A) f n) ∨ (lsV H E A (aNf A) (upF (aSh A) f n) = bl ∧ bs < shV H E A (aNf A) (upF (aSh A) f n) f)) by have e1 : lsG (cS H E A (aNf A) (upF (aSh A) f n)) (qS H E A (upF (aSh A) f n)) (aNf A).toNat = lsV H E A (aNf A) (upF (aSh A) f n) := rfl; have e2 : shG (cS H E A (aNf A) (upF (aSh A) f n)) (qS H E A (upF (aSh A) f n)) f = shV H E A (aNf A) (upF (aSh A) f n) f := rfl; omega)).symm) (fun a ha => by rw [h3 a ha]; exact h1 a ha) h4
        · refine w_iload (pc' := 98) k44_96 rfl rfl ?_
          refine w_istore (pc' := 100) (ls' := [_, _, _, _, _, _, _, _, _, _]) k44_98 rfl rfl rfl ?_
          refine w_iload (pc' := 102) k44_100 rfl rfl ?_
          refine w_istore (pc' := 104) (ls' := [_, _, _, _, _, _, _, _, _, _]) k44_102 rfl rfl rfl ?_
          refine w_iload (pc' := 106) k44_104 rfl rfl ?_
          refine w_istore (pc' := 108) (ls' := [_, _, _, _, _, _, _, _, _, _]) k44_106 rfl rfl rfl ?_
          refine w_iinc (pc' := 111) (ls' := [_, _, _, _, _, _, _, _, _, _]) k44_108 rfl rfl (by omega) rfl ?_
          refine w_goto k44_111 ?_
          exact ih (n + 1) _ _ _ _ _ _ _ _ (by omega) (by omega) (by rw [imF, ← hp]; exact (if_pos (Or.inr ⟨c_86, c_93⟩)).symm) (fun a ha => by rw [h3 a ha]; exact h1 a ha) h4
theorem m44 (hF : CF sh R I K H E HO S L B s g_s M_s A) {f : Int} (hf : 0 ≤ f ∧ f < aNf A) (hU : UI I (cS H E A (aNf A) (aSh A)) (qS H E A (aSh A))) : WPM X (d + 6) 44 [.inr (some 21), .inr (some s), .inl f] (sh, R, I) 0 0 (fun r h' => ∃ I', h' = (sh, R, I') ∧ ((∀ a, a < 12 ∨ (14 < a ∧ a < 22) ∨ 24 < a → a ≠ s + 5 → I' a = I a) ∧ I' (s + 5) = upF (I (s + 5)) f (bestS H E A (aNf A) (aSh A) f)) ∧ UI I' (cS H E A (aNf A) (upF (aSh A) f (bestS H E A (aNf A) (aSh A) f))) (qS H E A (upF (aSh A) f (bestS H E A (aNf A) (aSh A) f))) ∧ ((r = .inl 1 ∧ bestS H E A (aNf A) (aSh A) f ≠ aSh A f) ∨ (r = .inl 0 ∧ bestS H E A (aNf A) (aSh A) f = aSh A f))) := by
  have hK := hF.2.1
  have hab := hF.2.2.2.2.2.2.2.2.2.2.1
  have h16 := hab.2.2.1
  have hH9 : 0 ≤ H * H ∧ H * H ≤ 9 := by
    rcases hK with ⟨rfl, rfl, rfl, rfl, rfl, rfl⟩ | ⟨rfl, rfl, rfl, rfl, rfl, rfl⟩ | ⟨rfl, rfl, rfl, rfl, rfl, rfl⟩ <;> omega
  obtain ⟨hL, -, hsp, h_s, m_s, n_s, -, -, -, hcs, -⟩ := id hF
  show WP X (d + 6) 44 0 [.inr (some 21), .inr (some s), .inl f, .inr none, .inr none, .inr none, .inr none, .inr none, .inr none, .inr none] [] (sh, R, I) 0 0 _
  refine w_aload (pc' := 1) k44_0 rfl rfl ?_
  refine w_getR (pc' := 4) (v := (s + 5)) k44_1 rfl (hL.s0 h_s) (hL.r4 h_s) ?_
  refine w_iload (pc' := 5) k44_4 rfl rfl ?_
  refine w_iald (pc' := 6) (v := aSh A f) k44_5 rfl (hL.s5 h_s) (by omega) (hcs.2.2.2.2.2 f hf.1 hf.2).2.2.2 ?_
  refine w_istore (pc' := 7) (ls' := [_, _, _, _, _, _, _, _, _, _]) k44_6 rfl rfl rfl ?_
  refine w_iload (pc' := 8) k44_7 rfl rfl ?_
  refine w_istore (pc' := 10) (ls' := [_, _, _, _, _, _, _, _, _, _]) k44_8 rfl rfl rfl ?_
  refine w_aload (pc' := 11) k44_10 rfl rfl ?_
  refine w_aload (pc' := 12) k44_11 rfl rfl ?_
  refine w_getI (pc' := 15) (ki := 5) (v := aNf A) k44_12 rfl (hL.s0 h_s) rfl hcs.1 ?_
  refine w_callE (pc' := 18) (as := [.inr (some 21), .inl _]) k44_15 rfl rfl (co_v rfl rfl (hL.1 21 (6, 5) rfl)) (by decide) (m42 hL hU h16) ?_
  refine w_istore (pc' := 20) (ls' := [_, _, _, _, _, _, _, _, _, _]) k44_18 rfl rfl rfl ?_
  refine w_aload (pc' := 21) k44_20 rfl rfl ?_
  refine w_iload (pc' := 22) k44_21 rfl rfl ?_
  refine w_callE (pc' := 25) (as := [.inr (some 21), .inl _]) k44_22 rfl rfl (co_v rfl rfl (hL.1 21 (6, 5) rfl)) (by decide) (m41 hL hU (by omega)) ?_
  refine w_istore (pc' := 27) (ls' := [_, _, _, _, _, _, _, _, _, _]) k44_25 rfl rfl rfl ?_
  refine w_c1 (pc' := 28) k44_27 rfl ?_
  refine w_istore (pc' := 30) (ls' := [_, _, _, _, _, _, _, _, _, _]) k44_28 rfl rfl rfl ?_
  exact m44l hF hf (N := (H * H).toNat) (by omega) (H * H).toNat 0 _ _ _ _ _ _ (aSh A f) _ (by omega) rfl rfl (fun _ _ => rfl) (by rw [upF_id]; exact hU)
end C34
