/-! ===== CLASS: lay ===== -/
/-- the world as laying needs it -/
def PW (sh : List (Nat × Nat)) (R : Nat → Nat → Option Nat) (I : Nat → Int → Int) (ρ γ : Nat → Nat) (M : Nat) (tx : Int → Int) (len : Int) : Prop := LC sh R ∧ (∀ k, 7 ≤ k → k ≤ 10 → isS (ρ k) ∧ R 0 k = some (ρ k)) ∧ (∀ i j, 7 ≤ i → i ≤ 10 → 7 ≤ j → j ≤ 10 → ρ i = ρ j → i = j) ∧ (∀ s, isS s → R s 6 = some (γ s) ∧ sh[γ s]? = some (0, M) ∧ ((53 ≤ γ s ∧ (γ s < 57 ∨ 77 < γ s)) ∨ M = 0)) ∧ (∀ s t, isS s → isS t → γ s = γ t → s = t) ∧ M ≤ 4860 ∧ TX I tx len
/-- the state that a text lays -/
def layA (st : PS) : AS := (st.2.2.2.2.2, fun _ l => st.2.2.2.2.2 l, st.2.1, st.2.2.1, st.2.2.2.1, st.2.2.2.2.1, fun _ => 0)
def rotL (ρ : Nat → Nat) : Nat → Nat := fun k => if k = 7 then ρ 10 else if k = 10 then ρ 7 else ρ k
section C53
variable {X : Nat × (Int → Int)} {d : Nat} {sh : List (Nat × Nat)} {R : Nat → Nat → Option Nat} {I : Nat → Int → Int} {K H E HO S L B : Int} {ρ γ : Nat → Nat} {M : Nat} {A A1 A2 : AS} {u : Int} {tx : Int → Int} {len : Int}
theorem rotL_e {ρ : Nat → Nat} : rotL ρ = fun k => ρ (rotL id k) := by funext k; unfold rotL; simp only [id]; split; rfl; split <;> rfl
theorem rotL_r {k : Nat} (h : 7 ≤ k) (h2 : k ≤ 10) : 7 ≤ rotL id k ∧ rotL id k ≤ 10 := by unfold rotL; simp only [id]; split; omega; split <;> omega
theorem rotL_j {i j : Nat} (h : 7 ≤ i) (h2 : i ≤ 10) (h3 : 7 ≤ j) (h4 : j ≤ 10) (e : rotL id i = rotL id j) : i = j := by
  rcases (show i = 7 ∨ i = 8 ∨ i = 9 ∨ i = 10 by omega) with rfl | rfl | rfl | rfl <;> rcases (show j = 7 ∨ j = 8 ∨ j = 9 ∨ j = 10 by omega) with rfl | rfl | rfl | rfl <;> first | rfl | exact absurd e (by decide)
theorem CG.pw (hG : CG sh R I K H E HO S L B ρ γ M A A1 A2 u tx len) : PW sh R I ρ γ M tx len := by
  have hG0 := hG
  have hF0 := hG.cf
  obtain ⟨hL, hK, hsp, hro, hri, hga, hgi, hM, hLS, hB, ⟨hcs, hab⟩, hc1, hc2, ⟨hu, hu0⟩, htx⟩ := hG
  obtain ⟨h_r7, t7⟩ := hro 7 (by decide) (by decide)
  obtain ⟨h_r8, t8⟩ := hro 8 (by decide) (by decide)
  obtain ⟨h_r9, t9⟩ := hro 9 (by decide) (by decide)
  obtain ⟨h_r10, t10⟩ := hro 10 (by decide) (by decide)
  obtain ⟨m_r7, n_r7, g_r7, -⟩ := hga _ h_r7
  obtain ⟨m_r10, n_r10, g_r10, hp7, hp8⟩ := hga _ h_r10
  exact ⟨hL, hro, hri, fun s hs => ⟨(hga s hs).1, (hga s hs).2.1, Or.inl (hga s hs).2.2.1⟩, hgi, hM, htx⟩
/-- the marks of the States behind the four fits -/
def gaL (ρ γ : Nat → Nat) (q c : Nat) : Nat → Nat := fun s => if c = 0 then γ s else if s = ρ 7 then q else if s = ρ 8 then q + 1 else if s = ρ 9 then q + 2 else q + 3
theorem m106f (hP : PW sh R I ρ γ M tx len) (hx : ∀ v stE, readR tx len 300 ps0 0 v stE → ¬ (v = -4 ∧ stE.1 ≠ 0)) : WPM X (d + 6) 106 [.inr (some 0)] (sh, R, I) 0 0 (fun r h' => r = .inl 0 ∧ ∃ I', h' = (sh, R, I') ∧ DR I I' (ρ 10)) := by
  have hP0 := hP
  obtain ⟨hL, hro, hri, hga, hgi, hM, htx⟩ := hP
  obtain ⟨h_r7, t7⟩ := hro 7 (by decide) (by decide)
  obtain ⟨h_r8, t8⟩ := hro 8 (by decide) (by decide)
  obtain ⟨h_r9, t9⟩ := hro 9 (by decide) (by decide)
  obtain ⟨h_r10, t10⟩ := hro 10 (by decide) (by decide)
  have r7 := h_r7.r
  have r8 := h_r8.r
  have r9 := h_r9.r
  have r10 := h_r10.r
  have l52 : 52 < sh.length := (List.getElem?_eq_some_iff.mp (hL.1 52 (0, 0) rfl)).1
  show WP X (d + 6) 106 0 [.inr (some 0), .inr none] [] (sh, R, I) 0 0 _
  refine w_aload (pc' := 1) k106_0 rfl rfl ?_
  refine w_getR (pc' := 4) (v := 1) k106_1 rfl (hL.1 0 (10, 12) rfl) (hL.2 0 0 1 rfl) ?_
  refine w_aload (pc' := 5) k106_4 rfl rfl ?_
  refine w_getR (pc' := 8) (v := (ρ 10)) k106_5 rfl (hL.1 0 (10, 12) rfl) t10 ?_
  refine w_callI (pc' := 11) (as := [.inr (some 1), .inr (some (ρ 10))]) k106_8 rfl rfl (co_v rfl rfl (hL.1 1 (4, 4) rfl)) (by decide) (m13 hL h_r10 htx) (fun z_8 h_8 hq => ?_)
  obtain ⟨v, stE, I_1, hz, rfl, w3, w4, w5⟩ := hq
  have hz := Sum.inl.inj hz
  subst hz
  have hx1 := hx _ _ w4
  refine w_c2 (pc' := 13) k106_11 rfl ?_
  refine w_ic_ne (pc' := 16) k106_13 rfl (fun c_13 => ?_) (fun c_13 => ?_)
  · refine w_c1 (pc' := 27) k106_26 rfl ?_
    exact w_retz k106_27 (Or.inl rfl) ⟨rfl, _, rfl, w3⟩
  · refine w_aload (pc' := 17) k106_16 rfl rfl ?_
    refine w_getR (pc' := 20) (v := 1) k106_17 rfl (hL.1 0 (10, 12) rfl) (hL.2 0 0 1 rfl) ?_
    refine w_getI (pc' := 23) (ki := 2) (v := stE.1) k106_20 rfl (hL.1 1 (4, 4) rfl) rfl ((w5 (by omega)).1.1) ?_
    refine w_if_ne (pc' := 26) k106_23 rfl (fun c_23 => absurd c_23 (fun z => hx1 ⟨by omega, z⟩)) (fun c_23 => ?_)
    refine w_c1 (pc' := 27) k106_26 rfl ?_
    exact w_retz k106_27 (Or.inl rfl) ⟨rfl, _, rfl, w3⟩
theorem m106s (hP : PW sh R I ρ γ M tx len) (hK : KP K H E HO S L) (hx : ∀ v stE, readR tx len 300 ps0 0 v stE → v = -4 ∧ stE.1 = K) (hab : ∀ stE, readR tx len 300 ps0 0 (-4) stE → AB H HO S L 1 (layA stE)) {c : Nat} (hc : (L * S ≤ M ∧ c = 0) ∨ ((M : Int) < L * S ∧ c = 1)) (hlen : sh.length + 4 < 1000 ∧ (c = 1 → sh.length = 53 ∨ 78 ≤ sh.length)) : WPM X (d + 6) 106 [.inr (some 0)] (sh, R, I) (4 * c) (4 * (c * 4860)) (fun r h' => r = .inl 1 ∧ ∃ stE sh' R' I', h' = (sh', R', I') ∧ readR tx len 300 ps0 0 (-4) stE ∧ sh'.length = sh.length + 4 * c ∧ (∀ (a : Nat) (q : Nat × Nat), sh[a]? = some q → sh'[a]? = some q) ∧ (∀ a, 57 ≤ a → a ≤ 77 → a < sh.length → I' a = I a) ∧ (∀ a k, 57 ≤ a → a ≤ 77 → a < sh.length → R' a k = R a k) ∧ CG sh' R' I' K H E HO S L 1 (rotL ρ) (gaL ρ γ sh.length c) (if c = 0 then M else (L * S).toNat) (layA stE) (layA stE) (layA stE) 0 tx len) := by
  have hP0 := hP
  obtain ⟨hL, hro, hri, hga, hgi, hM, htx⟩ := hP
  obtain ⟨h_r7, t7⟩ := hro 7 (by decide) (by decide)
  obtain ⟨h_r8, t8⟩ := hro 8 (by decide) (by decide)
  obtain ⟨h_r9, t9⟩ := hro 9 (by decide) (by decide)
  obtain ⟨h_r10, t10⟩ := hro 10 (by decide) (by decide)
  have r7 := h_r7.r
  have r8 := h_r8.r
  have r9 := h_r9.r
  have r10 := h_r10.r
  have l52 : 52 < sh.length := (List.getElem?_eq_some_iff.mp (hL.1 52 (0, 0) rfl)).1
  have hr := hK.r
  have hLS : 20 ≤ L * S ∧ L * S ≤ 4860 := by first | omega | (rcases hK with ⟨rfl, rfl, rfl, rfl, rfl, rfl⟩ | ⟨rfl, rfl, rfl, rfl, rfl, rfl⟩ | ⟨rfl, rfl, rfl, rfl, rfl, rfl⟩ <;> omega)
  have n78 : ρ 7 ≠ ρ 8 := fun e => absurd (hri 7 8 (by decide) (by decide) (by decide) (by decide) e) (by decide)
  have n79 : ρ 7 ≠ ρ 9 := fun e => absurd (hri 7 9 (by decide) (by decide) (by decide) (by decide) e) (by decide)
  have n710 : ρ 7 ≠ ρ 10 := fun e => absurd (hri 7 10 (by decide) (by decide) (by decide) (by decide) e) (by decide)
  have n89 : ρ 8 ≠ ρ 9 := fun e => absurd (hri 8 9 (by decide) (by decide) (by decide) (by decide) e) (by decide)
  have n810 : ρ 8 ≠ ρ 10 := fun e => absurd (hri 8 10 (by decide) (by decide) (by decide) (by decide) e) (by decide)
  have n910 : ρ 9 ≠ ρ 10 := fun e => absurd (hri 9 10 (by decide) (by decide) (by decide) (by decide) e) (by decide)
  have p710 := h_r7.apart h_r10 n710
  have p810 := h_r8.apart h_r10 n810
  have p910 := h_r9.apart h_r10 n910
  obtain ⟨m7, g7, -⟩ := hga _ h_r7
  obtain ⟨m8, g8, -⟩ := hga _ h_r8
  obtain ⟨m9, g9, -⟩ := hga _ h_r9
  obtain ⟨m10, g10, -⟩ := hga _ h_r10
  show WP X (d + 6) 106 0 [.inr (some 0), .inr none] [] (sh, R, I) (4 * c) (4 * (c * 4860)) _
  refine w_aload (pc' := 1) k106_0 rfl rfl ?_
  refine w_getR (pc' := 4) (v := 1) k106_1 rfl (hL.1 0 (10, 12) rfl) (hL.2 0 0 1 rfl) ?_
  refine w_aload (pc' := 5) k106_4 rfl rfl ?_
  refine w_getR (pc' := 8) (v := (ρ 10)) k106_5 rfl (hL.1 0 (10, 12) rfl) t10 ?_
  refine w_callI (pc' := 11) (as := [.inr (some 1), .inr (some (ρ 10))]) k106_8 rfl rfl (co_v rfl rfl (hL.1 1 (4, 4) rfl)) (by decide) (m13 hL h_r10 htx) (fun z_8 h_8 hq => ?_)
  obtain ⟨v, stE, I_1, hz, rfl, w3, w4, w5⟩ := hq
  have hz := Sum.inl.inj hz
  subst hz
  obtain ⟨e1, e2⟩ := hx _ _ w4
  obtain ⟨w6, -⟩ := w5 e1
  subst e1
  refine w_c2 (pc' := 13) k106_11 rfl ?_
  refine w_ic_ne (pc' := 16) k106_13 rfl (fun c_13 => absurd c_13 (by omega)) (fun c_13 => ?_)
  refine w_aload (pc' := 17) k106_16 rfl rfl ?_
  refine w_getR (pc' := 20) (v := 1) k106_17 rfl (hL.1 0 (10, 12) rfl) (hL.2 0 0 1 rfl) ?_
  refine w_getI (pc' := 23) (ki := 2) (v := K) k106_20 rfl (hL.1 1 (4, 4) rfl) rfl (w6.1.trans e2) ?_
  refine w_if_ne (pc' := 26) k106_23 rfl (fun c_23 => ?_) (fun c_23 => absurd c_23 (by omega))
  refine w_aload (pc' := 29) k106_28 rfl rfl ?_
  refine w_getR (pc' := 32) (v := 3) k106_29 rfl (hL.1 0 (10, 12) rfl) (hL.2 0 1 3 rfl) ?_
  refine w_aload (pc' := 33) k106_32 rfl rfl ?_
  refine w_getR (pc' := 36) (v := 1) k106_33 rfl (hL.1 0 (10, 12) rfl) (hL.2 0 0 1 rfl) ?_
  refine w_getI (pc' := 39) (ki := 2) (v := K) k106_36 rfl (hL.1 1 (4, 4) rfl) rfl (w6.1.trans e2) ?_
  refine w_callV (pc' := 42) (as := [.inr (some 3), .inl _]) k106_39 rfl rfl (co_v rfl rfl (hL.1 3 (5, 14) rfl)) (by decide) (m24 hL hK) (fun r_39 h_39 hq => ?_)
  obtain ⟨I_2, rfl, b1, b2⟩ := hq
  refine w_aload (pc' := 43) k106_42 rfl rfl ?_
  refine w_getR (pc' := 46) (v := (ρ 7)) k106_43 rfl (hL.1 0 (10, 12) rfl) t7 ?_
  refine w_aload (pc' := 47) k106_46 rfl rfl ?_
  refine w_getR (pc' := 50) (v := 3) k106_47 rfl (hL.1 0 (10, 12) rfl) (hL.2 0 1 3 rfl) ?_
  refine w_getI (pc' := 53) (ki := 5) (v := L) k106_50 rfl (hL.1 3 (5, 14) rfl) rfl b2.2.2.2.2.2.1 ?_
  refine w_aload (pc' := 54) k106_53 rfl rfl ?_
  refine w_getR (pc' := 57) (v := 3) k106_54 rfl (hL.1 0 (10, 12) rfl) (hL.2 0 1 3 rfl) ?_
  refine w_getI (pc' := 60) (ki := 4) (v := S) k106_57 rfl (hL.1 3 (5, 14) rfl) rfl b2.2.2.2.2.1 ?_
  refine w_callM (pc' := 63) (as := [.inr (some (ρ 7)), .inl _, .inl _]) k106_60 rfl rfl (co_v rfl rfl (hL.s0 h_r7)) ⟨by omega, by omega⟩ (m46 hL hK h_r7 m7 g7 hc (by omega)) (fun r_60 h_60 hq => ?_)
  obtain ⟨sh_1, R_1, J_1, rfl, ft1⟩ := hq
  have hL1 := ft1.1
  have ln1 := ft1.2.1
  have hL := hL1
  have t7 := (ft1.2.2.2.2.2.1 0 7 (Or.inl (by omega)) (by omega)).trans t7
  have t8 := (ft1.2.2.2.2.2.1 0 8 (Or.inl (by omega)) (by omega)).trans t8
  have t9 := (ft1.2.2.2.2.2.1 0 9 (Or.inl (by omega)) (by omega)).trans t9
  have t10 := (ft1.2.2.2.2.2.1 0 10 (Or.inl (by omega)) (by omega)).trans t10
  have b2 := b2.keep (fun a q1 q2 => ft1.2.2.2.1 a (by omega) (by omega))
  have m8 := (ft1.2.2.2.2.2.1 (ρ 8) 6 (Or.inl (by omega)) (by omega)).trans m8
  have g8 := ft1.2.2.1 _ _ g8
  have m9 := (ft1.2.2.2.2.2.1 (ρ 9) 6 (Or.inl (by omega)) (by omega)).trans m9
  have g9 := ft1.2.2.1 _ _ g9
  have m10 := (ft1.2.2.2.2.2.1 (ρ 10) 6 (Or.inl (by omega)) (by omega)).trans m10
  have g10 := ft1.2.2.1 _ _ g10
  refine w_aload (pc' := 64) k106_63 rfl rfl ?_
  refine w_getR (pc' := 67) (v := (ρ 8)) k106_64 rfl (hL.1 0 (10, 12) rfl) t8 ?_
  refine w_aload (pc' := 68) k106_67 rfl rfl ?_
  refine w_getR (pc' := 71) (v := 3) k106_68 rfl (hL.1 0 (10, 12) rfl) (hL.2 0 1 3 rfl) ?_
  refine w_getI (pc' := 74) (ki := 5) (v := L) k106_71 rfl (hL.1 3 (5, 14) rfl) rfl b2.2.2.2.2.2.1 ?_
  refine w_aload (pc' := 75) k106_74 rfl rfl ?_
  refine w_getR (pc' := 78) (v := 3) k106_75 rfl (hL.1 0 (10, 12) rfl) (hL.2 0 1 3 rfl) ?_
  refine w_getI (pc' := 81) (ki := 4) (v := S) k106_78 rfl (hL.1 3 (5, 14) rfl) rfl b2.2.2.2.2.1 ?_
  refine w_callM (pc' := 84) (as := [.inr (some (ρ 8)), .inl _, .inl _]) k106_81 rfl rfl (co_v rfl rfl (hL.s0 h_r8)) ⟨by omega, by omega⟩ (m46 hL hK h_r8 m8 g8 hc (by omega)) (fun r_81 h_81 hq => ?_)
  obtain ⟨sh_2, R_2, J_2, rfl, ft2⟩ := hq
  have hL2 := ft2.1
  have ln2 := ft2.2.1
  have hL := hL2
  have t7 := (ft2.2.2.2.2.2.1 0 7 (Or.inl (by omega)) (by omega)).trans t7
  have t8 := (ft2.2.2.2.2.2.1 0 8 (Or.inl (by omega)) (by omega)).trans t8
  have t9 := (ft2.2.2.2.2.2.1 0 9 (Or.inl (by omega)) (by omega)).trans t9
  have t10 := (ft2.2.2.2.2.2.1 0 10 (Or.inl (by omega)) (by omega)).trans t10
  have b2 := b2.keep (fun a q1 q2 => ft2.2.2.2.1 a (by omega) (by omega))
  have m9 := (ft2.2.2.2.2.2.1 (ρ 9) 6 (Or.inl (by omega)) (by omega)).trans m9
  have g9 := ft2.2.2.1 _ _ g9
  have m10 := (ft2.2.2.2.2.2.1 (ρ 10) 6 (Or.inl (by omega)) (by omega)).trans m10
  have g10 := ft2.2.2.1 _ _ g10
  refine w_aload (pc' := 85) k106_84 rfl rfl ?_
  refine w_getR (pc' := 88) (v := (ρ 9)) k106_85 rfl (hL.1 0 (10, 12) rfl) t9 ?_
  refine w_aload (pc' := 89) k106_88 rfl rfl ?_
  refine w_getR (pc' := 92) (v := 3) k106_89 rfl (hL.1 0 (10, 12) rfl) (hL.2 0 1 3 rfl) ?_
  refine w_getI (pc' := 95) (ki := 5) (v := L) k106_92 rfl (hL.1 3 (5, 14) rfl) rfl b2.2.2.2.2.2.1 ?_
  refine w_aload (pc' := 96) k106_95 rfl rfl ?_
  refine w_getR (pc' := 99) (v := 3) k106_96 rfl (hL.1 0 (10, 12) rfl) (hL.2 0 1 3 rfl) ?_
  refine w_getI (pc' := 102) (ki := 4) (v := S) k106_99 rfl (hL.1 3 (5, 14) rfl) rfl b2.2.2.2.2.1 ?_
  refine w_callM (pc' := 105) (as := [.inr (some (ρ 9)), .inl _, .inl _]) k106_102 rfl rfl (co_v rfl rfl (hL.s0 h_r9)) ⟨by omega, by omega⟩ (m46 hL hK h_r9 m9 g9 hc (by omega)) (fun r_102 h_102 hq => ?_)
  obtain ⟨sh_3, R_3, J_3, rfl, ft3⟩ := hq
  have hL3 := ft3.1
  have ln3 := ft3.2.1
  have hL := hL3
  have t7 := (ft3.2.2.2.2.2.1 0 7 (Or.inl (by omega)) (by omega)).trans t7
  have t8 := (ft3.2.2.2.2.2.1 0 8 (Or.inl (by omega)) (by omega)).trans t8
  have t9 := (ft3.2.2.2.2.2.1 0 9 (Or.inl (by omega)) (by omega)).trans t9
  have t10 := (ft3.2.2.2.2.2.1 0 10 (Or.inl (by omega)) (by omega)).trans t10
  have b2 := b2.keep (fun a q1 q2 => ft3.2.2.2.1 a (by omega) (by omega))
  have m10 := (ft3.2.2.2.2.2.1 (ρ 10) 6 (Or.inl (by omega)) (by omega)).trans m10
  have g10 := ft3.2.2.1 _ _ g10
  refine w_aload (pc' := 106) k106_105 rfl rfl ?_
  refine w_getR (pc' := 109) (v := (ρ 10)) k106_106 rfl (hL.1 0 (10, 12) rfl) t10 ?_
  refine w_aload (pc' := 110) k106_109 rfl rfl ?_
  refine w_getR (pc' := 113) (v := 3) k106_110 rfl (hL.1 0 (10, 12) rfl) (hL.2 0 1 3 rfl) ?_
  refine w_getI (pc' := 116) (ki := 5) (v := L) k106_113 rfl (hL.1 3 (5, 14) rfl) rfl b2.2.2.2.2.2.1 ?_
  refine w_aload (pc' := 117) k106_116 rfl rfl ?_
  refine w_getR (pc' := 120) (v := 3) k106_117 rfl (hL.1 0 (10, 12) rfl) (hL.2 0 1 3 rfl) ?_
  refine w_getI (pc' := 123) (ki := 4) (v := S) k106_120 rfl (hL.1 3 (5, 14) rfl) rfl b2.2.2.2.2.1 ?_
  refine w_callM (pc' := 126) (as := [.inr (some (ρ 10)), .inl _, .inl _]) k106_123 rfl rfl (co_v rfl rfl (hL.s0 h_r10)) ⟨by omega, by omega⟩ (m46 hL hK h_r10 m10 g10 hc (by omega)) (fun r_123 h_123 hq => ?_)
  obtain ⟨sh_4, R_4, J_4, rfl, ft4⟩ := hq
  have hL4 := ft4.1
  have ln4 := ft4.2.1
  have hL := hL4
  have t7 := (ft4.2.2.2.2.2.1 0 7 (Or.inl (by omega)) (by omega)).trans t7
  have t8 := (ft4.2.2.2.2.2.1 0 8 (Or.inl (by omega)) (by omega)).trans t8
  have t9 := (ft4.2.2.2.2.2.1 0 9 (Or.inl (by omega)) (by omega)).trans t9
  have t10 := (ft4.2.2.2.2.2.1 0 10 (Or.inl (by omega)) (by omega)).trans t10
  have b2 := b2.keep (fun a q1 q2 => ft4.2.2.2.1 a (by omega) (by omega))
  have lnn : sh_4.length = sh.length + 4 * c := by omega
  have shp : ∀ (a : Nat) (q : Nat × Nat), sh[a]? = some q → sh_4[a]? = some q := fun a q h => ft4.2.2.1 a q (ft3.2.2.1 a q (ft2.2.2.1 a q (ft1.2.2.1 a q h)))
  have hrl : ∀ s, isS s → s = ρ 7 ∨ s = ρ 8 ∨ s = ρ 9 ∨ s = ρ 10 := by
    intro s hs
    unfold isS at hs h_r7 h_r8 h_r9 h_r10
    omega
  have gv7 : c = 1 → gaL ρ γ sh.length c (ρ 7) = sh.length + 0 := by
    rintro rfl
    unfold gaL
    rw [if_neg (by decide), if_pos rfl]; rfl
  have mg7 : R_4 (ρ 7) 6 = some (gaL ρ γ sh.length c (ρ 7)) ∧ sh_4[gaL ρ γ sh.length c (ρ 7)]? = some (0, (if c = 0 then M else (L * S).toNat)) := by
    rcases ft1.2.2.2.2.2.2 with ⟨h0, a1, a2⟩ | ⟨h1, a1, a2⟩
    · rw [if_pos h0, show gaL ρ γ sh.length c (ρ 7) = γ (ρ 7) from if_pos h0]; exact ⟨(ft4.2.2.2.2.2.1 (ρ 7) 6 (Or.inl n710) (by omega)).trans ((ft3.2.2.2.2.2.1 (ρ 7) 6 (Or.inl n79) (by omega)).trans ((ft2.2.2.2.2.2.1 (ρ 7) 6 (Or.inl n78) (by omega)).trans (a1))), ft4.2.2.1 _ _ (ft3.2.2.1 _ _ (ft2.2.2.1 _ _ (a2)))⟩
    · rw [gv7 h1, if_neg (by omega)]
      exact ⟨(ft4.2.2.2.2.2.1 (ρ 7) 6 (Or.inl n710) (by omega)).trans ((ft3.2.2.2.2.2.1 (ρ 7) 6 (Or.inl n79) (by omega)).trans ((ft2.2.2.2.2.2.1 (ρ 7) 6 (Or.inl n78) (by omega)).trans (a1))), ft4.2.2.1 _ _ (ft3.2.2.1 _ _ (ft2.2.2.1 _ _ (a2)))⟩
  have ji7 := (ft4.2.2.2.1 (ρ 7) n710 (by omega)).trans ((ft3.2.2.2.1 (ρ 7) n79 (by omega)).trans ((ft2.2.2.2.1 (ρ 7) n78 (by omega)).trans (ft1.2.2.2.2.1)))
  have js7 : J_4 (ρ 7) 7 = L ∧ J_4 (ρ 7) 8 = S := by rw [ji7]; exact ⟨by rw [upF_n (by decide), upF_s], by rw [upF_s]⟩
  have gv8 : c = 1 → gaL ρ γ sh.length c (ρ 8) = sh.length + 1 := by
    rintro rfl
    unfold gaL
    rw [if_neg (by decide), if_neg (Ne.symm n78), if_pos rfl]
  have mg8 : R_4 (ρ 8) 6 = some (gaL ρ γ sh.length c (ρ 8)) ∧ sh_4[gaL ρ γ sh.length c (ρ 8)]? = some (0, (if c = 0 then M else (L * S).toNat)) := by
    rcases ft2.2.2.2.2.2.2 with ⟨h0, a1, a2⟩ | ⟨h1, a1, a2⟩
    · rw [if_pos h0, show gaL ρ γ sh.length c (ρ 8) = γ (ρ 8) from if_pos h0]; exact ⟨(ft4.2.2.2.2.2.1 (ρ 8) 6 (Or.inl n810) (by omega)).trans ((ft3.2.2.2.2.2.1 (ρ 8) 6 (Or.inl n89) (by omega)).trans (a1)), ft4.2.2.1 _ _ (ft3.2.2.1 _ _ (a2))⟩
    · rw [gv8 h1, if_neg (by omega)]
      rw [show sh_1.length = sh.length + 1 by omega] at a1 a2
      exact ⟨(ft4.2.2.2.2.2.1 (ρ 8) 6 (Or.inl n810) (by omega)).trans ((ft3.2.2.2.2.2.1 (ρ 8) 6 (Or.inl n89) (by omega)).trans (a1)), ft4.2.2.1 _ _ (ft3.2.2.1 _ _ (a2))⟩
  have ji8 := (ft4.2.2.2.1 (ρ 8) n810 (by omega)).trans ((ft3.2.2.2.1 (ρ 8) n89 (by omega)).trans (ft2.2.2.2.2.1))
  have js8 : J_4 (ρ 8) 7 = L ∧ J_4 (ρ 8) 8 = S := by rw [ji8]; exact ⟨by rw [upF_n (by decide), upF_s], by rw [upF_s]⟩
  have gv9 : c = 1 → gaL ρ γ sh.length c (ρ 9) = sh.length + 2 := by
    rintro rfl
    unfold gaL
    rw [if_neg (by decide), if_neg (Ne.symm n79), if_neg (Ne.symm n89), if_pos rfl]
  have mg9 : R_4 (ρ 9) 6 = some (gaL ρ γ sh.length c (ρ 9)) ∧ sh_4[gaL ρ γ sh.length c (ρ 9)]? = some (0, (if c = 0 then M else (L * S).toNat)) := by
    rcases ft3.2.2.2.2.2.2 with ⟨h0, a1, a2⟩ | ⟨h1, a1, a2⟩
    · rw [if_pos h0, show gaL ρ γ sh.length c (ρ 9) = γ (ρ 9) from if_pos h0]; exact ⟨(ft4.2.2.2.2.2.1 (ρ 9) 6 (Or.inl n910) (by omega)).trans (a1), ft4.2.2.1 _ _ (a2)⟩
    · rw [gv9 h1, if_neg (by omega)]
      rw [show sh_2.length = sh.length + 2 by omega] at a1 a2
      exact ⟨(ft4.2.2.2.2.2.1 (ρ 9) 6 (Or.inl n910) (by omega)).trans (a1), ft4.2.2.1 _ _ (a2)⟩
  have ji9 := (ft4.2.2.2.1 (ρ 9) n910 (by omega)).trans (ft3.2.2.2.2.1)
  have js9 : J_4 (ρ 9) 7 = L ∧ J_4 (ρ 9) 8 = S := by rw [ji9]; exact ⟨by rw [upF_n (by decide), upF_s], by rw [upF_s]⟩
  have gv10 : c = 1 → gaL ρ γ sh.length c (ρ 10) = sh.length + 3 := by
    rintro rfl
    unfold gaL
    rw [if_neg (by decide), if_neg (Ne.symm n710), if_neg (Ne.symm n810), if_neg (Ne.symm n910)]
  have mg10 : R_4 (ρ 10) 6 = some (gaL ρ γ sh.length c (ρ 10)) ∧ sh_4[gaL ρ γ sh.length c (ρ 10)]? = some (0, (if c = 0 then M else (L * S).toNat)) := by
    rcases ft4.2.2.2.2.2.2 with ⟨h0, a1, a2⟩ | ⟨h1, a1, a2⟩
    · rw [if_pos h0, show gaL ρ γ sh.length c (ρ 10) = γ (ρ 10) from if_pos h0]; exact ⟨a1, a2⟩
    · rw [gv10 h1, if_neg (by omega)]
      rw [show sh_3.length = sh.length + 3 by omega] at a1 a2
      exact ⟨a1, a2⟩
  have ji10 := ft4.2.2.2.2.1
  have js10 : J_4 (ρ 10) 7 = L ∧ J_4 (ρ 10) 8 = S := by rw [ji10]; exact ⟨by rw [upF_n (by decide), upF_s], by rw [upF_s]⟩
  have gb : ∀ s, isS s → 53 ≤ gaL ρ γ sh.length c s ∧ (gaL ρ γ sh.length c s < 57 ∨ 77 < gaL ρ γ sh.length c s) := by
    intro s hs
    rcases hc with ⟨c1, c2⟩ | ⟨c1, c2⟩
    · rw [show gaL ρ γ sh.length c s = γ s from if_pos c2]
      rcases (hga s hs).2.2 with q | q
      · exact q
      · omega
    · have := hlen.2 c2
      rcases hrl s hs with rfl | rfl | rfl | rfl
      · rw [gv7 c2]; omega
      · rw [gv8 c2]; omega
      · rw [gv9 c2]; omega
      · rw [gv10 c2]; omega
  have gj : ∀ s t, isS s → isS t → gaL ρ γ sh.length c s = gaL ρ γ sh.length c t → s = t := by
    intro s t hs ht e
    rcases hc with ⟨c1, c2⟩ | ⟨c1, c2⟩
    · rw [show gaL ρ γ sh.length c s = γ s from if_pos c2, show gaL ρ γ sh.length c t = γ t from if_pos c2] at e; exact hgi s t hs ht e
    · have v7 := gv7 c2
      have v8 := gv8 c2
      have v9 := gv9 c2
      have v10 := gv10 c2
      rcases hrl s hs with rfl | rfl | rfl | rfl <;> rcases hrl t ht with rfl | rfl | rfl | rfl <;> first | rfl | omega
  have hM1 : (if c = 0 then M else (L * S).toNat) ≤ 4860 ∧ L * S ≤ (((if c = 0 then M else (L * S).toNat) : Nat) : Int) := by
    rcases hc with ⟨c1, c2⟩ | ⟨c1, c2⟩
    · rw [if_pos c2]; omega
    · rw [if_neg (by omega)]; omega
  have gb10 := gb _ h_r10
  have jf : ∀ a, a < sh.length → a ≠ ρ 7 → a ≠ ρ 8 → a ≠ ρ 9 → a ≠ ρ 10 → J_4 a = I_2 a := fun a q q7 q8 q9 q10 => (ft4.2.2.2.1 a q10 (by omega)).trans ((ft3.2.2.2.1 a q9 (by omega)).trans ((ft2.2.2.2.1 a q8 (by omega)).trans (ft1.2.2.2.1 a q7 (by omega))))
  refine w_aload (pc' := 127) k106_126 rfl rfl ?_
  refine w_getR (pc' := 130) (v := (ρ 10)) k106_127 rfl (hL.1 0 (10, 12) rfl) t10 ?_
  refine w_callV (pc' := 133) (as := [.inr (some (ρ 10))]) k106_130 rfl rfl (co_v rfl rfl (hL.s0 h_r10)) (by decide) (m54 hL hK h_r10 mg10.1 mg10.2 gb10.1 hM1.2 js10.1 js10.2) (fun r_130 h_130 hq => ?_)
  obtain ⟨I_5, rfl, x1, x2⟩ := hq
  refine w_aload (pc' := 134) k106_133 rfl rfl ?_
  refine w_getR (pc' := 137) (v := (ρ 7)) k106_134 rfl (hL.1 0 (10, 12) rfl) t7 ?_
  refine w_astore (pc' := 138) (ls' := [_, _]) k106_137 rfl rfl rfl ?_
  refine w_aload (pc' := 139) k106_138 rfl rfl ?_
  refine w_aload (pc' := 140) k106_139 rfl rfl ?_
  refine w_getR (pc' := 143) (v := (ρ 10)) k106_140 rfl (hL.1 0 (10, 12) rfl) t10 ?_
  refine w_putR (pc' := 146) k106_143 rfl (hL.1 0 (10, 12) rfl) (by first | exact hL.lt h_r7 | exact hL.lt h_r10 | omega) ?_
  refine w_aload (pc' := 147) k106_146 rfl rfl ?_
  refine w_aload (pc' := 148) k106_147 rfl rfl ?_
  refine w_putR (pc' := 151) k106_148 rfl (hL.1 0 (10, 12) rfl) (by first | exact hL.lt h_r7 | exact hL.lt h_r10 | omega) ?_
  refine w_aload (pc' := 152) k106_151 rfl rfl ?_
  refine w_c1 (pc' := 153) k106_152 rfl ?_
  refine w_putI (pc' := 156) (ki := 11) k106_153 rfl (hL.1 0 (10, 12) rfl) rfl ?_
  refine w_c1 (pc' := 157) k106_156 rfl ?_
  have hRF : RF R_4 (upR (upR R_4 0 (upK (R_4 0) 7 (some (ρ 10)))) 0 (upK (upR R_4 0 (upK (R_4 0) 7 (some (ρ 10))) 0) 10 (some (ρ 7)))) := by
    intro a k q
    by_cases e : a = 0
    · subst e
      rw [upR_s, upK_n (by omega), upR_s, upK_n (by omega)]
    · rw [upR_n e, upR_n e]
  have kk : ∀ a, a ≠ 0 → upA I_5 0 (upF (I_5 0) 11 0) a = I_5 a := fun a q => upA_n q
  have kA : ∀ a, ρ 10 + 1 ≤ a → a ≤ ρ 10 + 5 → upA I_5 0 (upF (I_5 0) 11 0) a = I_1 a := fun a q1 q2 => (kk a (by omega)).trans ((x1 a (by omega)).trans ((jf a (by omega) (by omega) (by omega) (by omega) (by omega)).trans (b1 a (by omega))))
  have k5 : upA I_5 0 (upF (I_5 0) 11 0) (ρ 10) = upF (upF (I_1 (ρ 10)) 7 L) 8 S := by
    rw [kk _ (by omega), x1 _ (by omega), ji10, ft3.2.2.2.1 (ρ 10) (by omega) (by omega), ft2.2.2.2.1 (ρ 10) (by omega) (by omega), ft1.2.2.2.1 (ρ 10) (by omega) (by omega), b1 (ρ 10) (by omega)]
  have k12 : ∀ a, a = 1 ∨ a = 2 → upA I_5 0 (upF (I_5 0) 11 0) a = I_1 a := fun a q => (kk a (by omega)).trans ((x1 a (by omega)).trans ((jf a (by omega) (by omega) (by omega) (by omega) (by omega)).trans (b1 a (by omega))))
  refine w_retz k106_157 (Or.inr rfl) ⟨rfl, stE, _, _, _, rfl, w4, lnn, shp, fun a q1 q2 q3 => ?_, fun a k q1 q2 q3 => ?_, hRF.lc hL, hK, b2.keep (fun a q1 q2 => (kk a (by omega)).trans (x1 a (by omega))), fun k q1 q2 => ?_, ?_, fun s hs => ⟨?_, ?_, gb s hs, ?_⟩, gj, hM1.1, hM1.2, by omega, ⟨⟨?_, ?_, ?_, fun l q1 q2 => ?_, fun n l q1 q2 q3 q4 => ?_, fun f q1 q2 => ?_⟩, hab stE w4⟩, fun q => absurd q (by omega), fun q => absurd q (by omega), ⟨⟨by omega, by omega⟩, by rw [upA_s, upF_s]⟩, ?_⟩
  · rw [kk a (by omega), x1 a (by omega), jf a q3 (by omega) (by omega) (by omega) (by omega), b1 a (by omega)]; exact w3.1 a (by omega) (by omega)
  · rw [hRF a k (by omega), ft4.2.2.2.2.2.1 a k (by omega) (by omega), ft3.2.2.2.2.2.1 a k (by omega) (by omega), ft2.2.2.2.2.2.1 a k (by omega) (by omega), ft1.2.2.2.2.2.1 a k (by omega) (by omega)]
  · rcases (show k = 7 ∨ k = 8 ∨ k = 9 ∨ k = 10 by omega) with rfl | rfl | rfl | rfl
    · exact ⟨h_r10, by rw [upR_s, upK_n (by decide), upR_s, upK_s]; rfl⟩
    · exact ⟨h_r8, by rw [upR_s, upK_n (by decide), upR_s, upK_n (by decide)]; exact t8⟩
    · exact ⟨h_r9, by rw [upR_s, upK_n (by decide), upR_s, upK_n (by decide)]; exact t9⟩
    · exact ⟨h_r7, by rw [upR_s, upK_s]; rfl⟩
  · rw [rotL_e]; exact rot_i hri (fun k a b => rotL_r a b) (fun i j a b c e f => rotL_j a b c e f)
  · have := hs.r
    rw [hRF s 6 (by omega)]
    rcases hrl s hs with rfl | rfl | rfl | rfl
    · exact mg7.1
    · exact mg8.1
    · exact mg9.1
    · exact mg10.1
  · rcases hrl s hs with rfl | rfl | rfl | rfl
    · exact mg7.2
    · exact mg8.2
    · exact mg9.2
    · exact mg10.2
  · have := hs.r
    rw [kk s (by omega), x1 s (by omega)]
    rcases hrl s hs with rfl | rfl | rfl | rfl
    · exact js7
    · exact js8
    · exact js9
    · exact js10
  · rw [show rotL ρ 7 = ρ 10 from rfl, k5, upF_n (by decide), upF_n (by decide)]; exact w6.2.1
  · rw [show rotL ρ 7 = ρ 10 from rfl, k5, upF_n (by decide), upF_s]
  · rw [show rotL ρ 7 = ρ 10 from rfl, k5, upF_s]
  · rw [show rotL ρ 7 = ρ 10 from rfl, kA _ (by omega) (by omega)]; exact (w6.2.2.2.2 l q1 (by omega)).1
  · rw [show rotL ρ 7 = ρ 10 from rfl, kk _ (by omega), x2 n l q1 q2 q3 q4, jf _ (by omega) (by omega) (by omega) (by omega) (by omega), b1 _ (by omega)]; exact (w6.2.2.2.2 l q3 (by omega)).1
  · rw [show rotL ρ 7 = ρ 10 from rfl, kA _ (by omega) (by omega), kA _ (by omega) (by omega), kA _ (by omega) (by omega), kA _ (by omega) (by omega)]; exact w6.2.2.2.1 f q1 q2
  · have ht := w3.tx9 h_r10 htx
    unfold TX at ht ⊢
    rw [k12 1 (Or.inl rfl), k12 2 (Or.inr rfl)]; exact ht
end C53
