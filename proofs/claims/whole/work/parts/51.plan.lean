/-! ===== CLASS: plan ===== -/
section C51
variable {X : Nat × (Int → Int)} {d : Nat} {sh : List (Nat × Nat)} {R : Nat → Nat → Option Nat} {I : Nat → Int → Int} {K H E HO S L B : Int} {ρ γ : Nat → Nat} {M : Nat} {A A1 A2 : AS} {u : Int} {tx : Int → Int} {len : Int}
variable {s g_s M_s : Nat}
def shW (A : AS) (σ : Int → Int) : AS := (aAg A, aMk A, aNf A, aFr A, aTo A, aSz A, σ)
def plF (H E : Int) (A : AS) (z : Int) (x : (Int → Int) × Int) : Nat → (Int → Int) × Int
  | 0 => x
  | f + 1 => if aSz A f = z then (upF (plF H E A z x f).1 f (bestS H E A (aNf A) (plF H E A z x f).1 f), (plF H E A z x f).2 + (if bestS H E A (aNf A) (plF H E A z x f).1 f = (plF H E A z x f).1 f then 0 else 1)) else plF H E A z x f
def plN (H E : Int) (A : AS) : Nat → (Int → Int) × Int
  | 0 => (aSh A, 0)
  | t + 1 => plF H E A (99 - (t : Int)) (plN H E A t) (aNf A).toNat
theorem best_r {σ : Int → Int} {f : Int} (h : 0 ≤ σ f ∧ σ f < H * H) : 0 ≤ bestS H E A (aNf A) σ f ∧ bestS H E A (aNf A) σ f < H * H := by
  unfold bestS
  rcases imF_r (ls := fun s => lsV H E A (aNf A) (upF σ f s)) (sh9 := fun s => shV H E A (aNf A) (upF σ f s) f) (p0 := (σ f, lsV H E A (aNf A) σ, shV H E A (aNf A) σ f)) (H * H).toNat with e | e
  · rw [e]; exact h
  · omega
theorem m44s {σ : Int → Int} (hF : CF sh R I K H E HO S L B s g_s M_s (shW A σ)) {f : Int} (hf : 0 ≤ f ∧ f < aNf A) (hU : UI I (cS H E A (aNf A) σ) (qS H E A σ)) : WPM X (d + 6) 44 [.inr (some 21), .inr (some s), .inl f] (sh, R, I) 0 0 (fun r h' => ∃ I', h' = (sh, R, I') ∧ ((∀ a, a < 12 ∨ (14 < a ∧ a < 22) ∨ 24 < a → a ≠ s + 5 → I' a = I a) ∧ I' (s + 5) = upF (I (s + 5)) f (bestS H E A (aNf A) σ f)) ∧ UI I' (cS H E A (aNf A) (upF σ f (bestS H E A (aNf A) σ f))) (qS H E A (upF σ f (bestS H E A (aNf A) σ f))) ∧ ((r = .inl 1 ∧ bestS H E A (aNf A) σ f ≠ σ f) ∨ (r = .inl 0 ∧ bestS H E A (aNf A) σ f = σ f))) := by
  have e1 : bestS H E (shW A σ) (aNf (shW A σ)) (aSh (shW A σ)) f = bestS H E A (aNf A) σ f := bestS_mk (A' := shW A σ) (A := A) rfl rfl rfl
  have e2 : ∀ τ, cS H E (shW A σ) (aNf (shW A σ)) τ = cS H E A (aNf A) τ := fun τ => cS_mk (A' := shW A σ) (A := A) rfl rfl rfl
  have e3 : ∀ τ, qS H E (shW A σ) τ = qS H E A τ := fun τ => qS_mk (A' := shW A σ) (A := A) rfl rfl rfl
  have h := m44 (X := X) (d := d) hF (f := f) hf (by rw [e2, e3]; exact hU)
  rw [e1] at h
  rw [e2, e3] at h
  exact h
/-- on the way of a plan -/
def PLI (I I1 : Nat → Int → Int) (s g : Nat) (H E S L : Int) (A : AS) (σ : Int → Int) : Prop := (∀ a, a < 12 ∨ (14 < a ∧ a < 22) ∨ 24 < a → a ≠ s + 5 → I1 a = I a) ∧ CS I1 s g S L (shW A σ) ∧ UI I1 (cS H E A (aNf A) σ) (qS H E A σ) ∧ (∀ f, 0 ≤ f → f < aNf A → 0 ≤ σ f ∧ σ f < H * H)
theorem shW_AB {σ : Int → Int} (h : AB H HO S L B A) (h2 : ∀ f, 0 ≤ f → f < aNf A → 0 ≤ σ f ∧ σ f < H * H) : AB H HO S L B (shW A σ) := ⟨h.1, h.2.1, h.2.2.1, fun f q1 q2 => ⟨(h.2.2.2 f q1 q2).1, (h.2.2.2 f q1 q2).2.1, (h.2.2.2 f q1 q2).2.2.1, (h.2.2.2 f q1 q2).2.2.2.1, h2 f q1 q2⟩⟩
theorem PLI.cf {σ : Int → Int} {I1 : Nat → Int → Int} (hF : CF sh R I K H E HO S L B s g_s M_s A) (h : PLI I I1 s g_s H E S L A σ) : CF sh R I1 K H E HO S L B s g_s M_s (shW A σ) := by
  obtain ⟨hL, hK, hsp, h_s, m_s, n_s, hg, hM, hLS, hcs, hab, hB⟩ := hF
  have := h_s.r
  exact ⟨hL, hK, hsp.keep (fun a q1 q2 => h.1 a (by omega) (by omega)), h_s, m_s, n_s, hg, hM, hLS, h.2.1, shW_AB hab h.2.2.2, hB⟩
theorem PLI.st {σ : Int → Int} {I1 I2 : Nat → Int → Int} (hF : CF sh R I K H E HO S L B s g_s M_s A) (h : PLI I I1 s g_s H E S L A σ) {f : Int} (hf : 0 ≤ f ∧ f < aNf A) (h1 : (∀ a, a < 12 ∨ (14 < a ∧ a < 22) ∨ 24 < a → a ≠ s + 5 → I2 a = I1 a) ∧ I2 (s + 5) = upF (I1 (s + 5)) f (bestS H E A (aNf A) σ f)) (h2 : UI I2 (cS H E A (aNf A) (upF σ f (bestS H E A (aNf A) σ f))) (qS H E A (upF σ f (bestS H E A (aNf A) σ f)))) : PLI I I2 s g_s H E S L A (upF σ f (bestS H E A (aNf A) σ f)) := by
  obtain ⟨hL, hK, hsp, h_s, m_s, n_s, hg, hM, hLS, hcs, hab, hB⟩ := hF
  have hr := h_s.r
  refine ⟨fun a q1 q2 => (h1.1 a q1 q2).trans (h.1 a q1 q2), ?_, h2, fun g q1 q2 => ?_⟩
  · have h3 : CS (upA I1 (s + 5) (upF (I1 (s + 5)) f (bestS H E A (aNf A) σ f))) s g_s S L (shW A (upF σ f (bestS H E A (aNf A) σ f))) := shift_CS ⟨hg, hr.2⟩ h.2.1
    refine h3.keep (fun a q => ?_)
    by_cases e : a = s + 5
    · rw [e, h1.2, upA_s]
    · rw [upA_n e]; exact h1.1 a (by omega) e
  · by_cases e : g = f
    · rw [e, upF_s]; exact best_r (h.2.2.2 f hf.1 hf.2)
    · rw [upF_n e]; exact h.2.2.2 g q1 q2
theorem m97i (hF : CF sh R I K H E HO S L B s g_s M_s A) (t7 : R 0 7 = some s) {t : Nat} (ht : t < 99) {N : Nat} (hN : aNf A = (N : Int)) {Q : VV → Hp → Prop} (kk : ∀ v3 I2 c, PLI I I2 s g_s H E S L A (plF H E A (99 - (t : Int)) (plN H E A t) N).1 → c = (plF H E A (99 - (t : Int)) (plN H E A t) N).2 → (0 ≤ c ∧ c ≤ 16 * ((t : Int) + 1)) → WP X (d + 7) 97 74 [.inr (some 0), .inl c, .inl (99 - (t : Int)), v3] [] (sh, R, I2) 0 0 Q) : ∀ (k m : Nat) (i c : Int) (I1 : Nat → Int → Int), m + k = N → i = (m : Int) → c = (plF H E A (99 - (t : Int)) (plN H E A t) m).2 → (0 ≤ c ∧ c ≤ 16 * (t : Int) + m) → PLI I I1 s g_s H E S L A (plF H E A (99 - (t : Int)) (plN H E A t) m).1 → WP X (d + 7) 97 26 [.inr (some 0), .inl c, .inl (99 - (t : Int)), .inl i] [] (sh, R, I1) 0 0 Q := by
  have hF0 := hF
  obtain ⟨hL, hK, hsp, h_s, m_s, n_s, hg, hM, hLS, hcs, hab, hB⟩ := hF
  have hnf := hab.2.2.1
  intro k
  induction k with
  | zero =>
    rintro m i c I1 hk rfl hc hc2 hP
    have e : m = N := by omega
    subst e
    have hF1 := hP.cf hF0
    have hcs1 := hP.2.1
    refine w_iload (pc' := 27) k97_26 rfl rfl ?_
    refine w_aload (pc' := 28) k97_27 rfl rfl ?_
    refine w_getR (pc' := 31) (v := s) k97_28 rfl (hL.1 0 (10, 12) rfl) t7 ?_
    refine w_getI (pc' := 34) (ki := 5) (v := aNf A) k97_31 rfl (hL.s0 h_s) rfl hcs1.1 ?_
    refine w_ic_ge (pc' := 37) k97_34 rfl (fun c_34 => ?_) (fun c_34 => absurd c_34 (by omega))
    exact kk _ _ _ hP hc (by omega)
  | succ k ih =>
    rintro m i c I1 hk rfl hc hc2 hP
    have hm : (0 : Int) ≤ (m : Int) ∧ (m : Int) < aNf A := by omega
    have hF1 := hP.cf hF0
    have hcs1 := hP.2.1
    refine w_iload (pc' := 27) k97_26 rfl rfl ?_
    refine w_aload (pc' := 28) k97_27 rfl rfl ?_
    refine w_getR (pc' := 31) (v := s) k97_28 rfl (hL.1 0 (10, 12) rfl) t7 ?_
    refine w_getI (pc' := 34) (ki := 5) (v := aNf A) k97_31 rfl (hL.s0 h_s) rfl hcs1.1 ?_
    refine w_ic_ge (pc' := 37) k97_34 rfl (fun c_34 => absurd c_34 (by omega)) (fun c_34 => ?_)
    refine w_aload (pc' := 38) k97_37 rfl rfl ?_
    refine w_getR (pc' := 41) (v := s) k97_38 rfl (hL.1 0 (10, 12) rfl) t7 ?_
    refine w_getR (pc' := 44) (v := (s + 4)) k97_41 rfl (hL.s0 h_s) (hL.r3 h_s) ?_
    refine w_iload (pc' := 45) k97_44 rfl rfl ?_
    refine w_iald (pc' := 46) (v := aSz A m) k97_45 rfl (hL.s4 h_s) (by omega) ((hcs1.2.2.2.2.2 m hm.1 hm.2).2.2.1) ?_
    refine w_iload (pc' := 47) k97_46 rfl rfl ?_
    refine w_ic_ne (pc' := 50) k97_47 rfl (fun c_47 => ?_) (fun c_47 => ?_)
    · refine w_iinc (pc' := 71) (ls' := [_, _, _, _]) k97_68 rfl rfl (by omega) rfl ?_
      refine w_goto k97_71 ?_
      exact ih (m + 1) _ _ _ (by omega) (by omega) (by rw [plF, if_neg c_47]; exact hc) (by omega) (by rw [plF, if_neg c_47]; exact hP)
    · refine w_aload (pc' := 51) k97_50 rfl rfl ?_
      refine w_getR (pc' := 54) (v := 21) k97_51 rfl (hL.1 0 (10, 12) rfl) (hL.2 0 6 21 rfl) ?_
      refine w_aload (pc' := 55) k97_54 rfl rfl ?_
      refine w_getR (pc' := 58) (v := s) k97_55 rfl (hL.1 0 (10, 12) rfl) t7 ?_
      refine w_iload (pc' := 59) k97_58 rfl rfl ?_
      refine w_callI (pc' := 62) (as := [.inr (some 21), .inr (some s), .inl _]) k97_59 rfl rfl (co_v rfl rfl (hL.1 21 (6, 5) rfl)) (by decide) (m44s hF1 hm hP.2.2.1) (fun z_59 h_59 hq => ?_)
      obtain ⟨I_2, rfl, p1, p2, ⟨hz, hb⟩ | ⟨hz, hb⟩⟩ := hq
      · have hz := Sum.inl.inj hz
        subst hz
        refine w_if_eq (pc' := 65) k97_62 rfl (fun c_62 => absurd c_62 (by decide)) (fun _ => ?_)
        refine w_iinc (pc' := 68) (ls' := [_, _, _, _]) k97_65 rfl rfl (by omega) rfl ?_
        refine w_iinc (pc' := 71) (ls' := [_, _, _, _]) k97_68 rfl rfl (by omega) rfl ?_
        refine w_goto k97_71 ?_
        exact ih (m + 1) _ _ _ (by omega) (by omega) (by rw [plF, if_pos c_47, hc]; show _ = _ + _; rw [if_neg hb]) (by omega) (by rw [plF, if_pos c_47]; exact hP.st hF0 hm p1 p2)
      · have hz := Sum.inl.inj hz
        subst hz
        refine w_if_eq (pc' := 65) k97_62 rfl (fun _ => ?_) (fun c_62 => absurd c_62 (by decide))
        refine w_iinc (pc' := 71) (ls' := [_, _, _, _]) k97_68 rfl rfl (by omega) rfl ?_
        refine w_goto k97_71 ?_
        exact ih (m + 1) _ _ _ (by omega) (by omega) (by rw [plF, if_pos c_47, hc]; show _ = _ + _; rw [if_pos hb, Int.add_zero]) (by omega) (by rw [plF, if_pos c_47]; exact hP.st hF0 hm p1 p2)
theorem m97o (hF : CF sh R I K H E HO S L B s g_s M_s A) (t7 : R 0 7 = some s) {Q : VV → Hp → Prop} (kk : ∀ v2 v3 I2 c, PLI I I2 s g_s H E S L A (plN H E A 99).1 → c = (plN H E A 99).2 → (0 ≤ c ∧ c ≤ 10000) → WP X (d + 7) 97 80 [.inr (some 0), .inl c, v2, v3] [] (sh, R, I2) 0 0 Q) : ∀ (k t : Nat) (z c : Int) (v3 : VV) (I1 : Nat → Int → Int), t + k = 99 → z = 99 - (t : Int) → c = (plN H E A t).2 → (0 ≤ c ∧ c ≤ 16 * (t : Int)) → PLI I I1 s g_s H E S L A (plN H E A t).1 → WP X (d + 7) 97 20 [.inr (some 0), .inl c, .inl z, v3] [] (sh, R, I1) 0 0 Q := by
  have hF0 := hF
  obtain ⟨hL, hK, hsp, h_s, m_s, n_s, hg, hM, hLS, hcs, hab, hB⟩ := hF
  have hnf := hab.2.2.1
  intro k
  induction k with
  | zero =>
    rintro t z c v3 I1 hk rfl hc hc2 hP
    have e : t = 99 := by omega
    subst e
    refine w_iload (pc' := 21) k97_20 rfl rfl ?_
    refine w_if_le (pc' := 24) k97_21 rfl (fun c_21 => ?_) (fun c_21 => absurd c_21 (by omega))
    exact kk _ _ _ _ hP hc (by omega)
  | succ k ih =>
    rintro t z c v3 I1 hk rfl hc hc2 hP
    refine w_iload (pc' := 21) k97_20 rfl rfl ?_
    refine w_if_le (pc' := 24) k97_21 rfl (fun c_21 => absurd c_21 (by omega)) (fun c_21 => ?_)
    refine w_c1 (pc' := 25) k97_24 rfl ?_
    refine w_istore (pc' := 26) (ls' := [_, _, _, _]) k97_25 rfl rfl rfl ?_
    refine m97i hF0 t7 (by omega) (N := (aNf A).toNat) (by omega) (fun v9 I_2 c hP2 hc3 hc4 => ?_) (aNf A).toNat 0 _ _ _ (by omega) rfl hc (by omega) hP
    refine w_iinc (pc' := 77) (ls' := [_, _, _, _]) k97_74 rfl rfl (by omega) rfl ?_
    refine w_goto k97_77 ?_
    exact ih (t + 1) _ _ _ _ (by omega) (by omega) hc3 (by omega) hP2
def planV (H E : Int) (A : AS) : Int := (plN H E A 99).2
def planZ (H E : Int) (z : ZZ) : ZZ := if 0 < (plN H E z.1 99).2 then pushZ z (shW z.1 (plN H E z.1 99).1) else (shW z.1 (plN H E z.1 99).1, z.2)
theorem m97 (hG : CG sh R I K H E HO S L B ρ γ M A A1 A2 u tx len) (hB1 : B + 1 ≤ 1000000) : QC X (d + 7) 97 [.inr (some 0)] sh R I K H E HO S L (B + 1) γ M (planV H E A) (planZ H E (A, A1, A2, u)) (tx) (len) := by
  have hG0 := hG
  have hF0 := hG.cf
  obtain ⟨hL, hK, hsp, hro, hri, hga, hgi, hM, hLS, hB, ⟨hcs, hab⟩, hc1, hc2, ⟨hu, hu0⟩, htx⟩ := hG
  obtain ⟨h_r7, t7⟩ := hro 7 (by decide) (by decide)
  obtain ⟨h_r8, t8⟩ := hro 8 (by decide) (by decide)
  obtain ⟨h_r9, t9⟩ := hro 9 (by decide) (by decide)
  obtain ⟨h_r10, t10⟩ := hro 10 (by decide) (by decide)
  obtain ⟨m_r7, n_r7, g_r7, -⟩ := hga _ h_r7
  obtain ⟨m_r10, n_r10, g_r10, hp7, hp8⟩ := hga _ h_r10
  have hnf := hab.2.2.1
  have r7 := h_r7.r
  have r10 := h_r10.r
  show WP X (d + 7) 97 0 [.inr (some 0), .inr none, .inr none, .inr none] [] (sh, R, I) 0 0 _
  refine w_aload (pc' := 1) k97_0 rfl rfl ?_
  refine w_callV (pc' := 4) (as := [.inr (some 0)]) k97_1 rfl rfl (co_v rfl rfl (hL.1 0 (10, 12) rfl)) (by decide) (m107 hG0) (fun r_1 h_1 hq => ?_)
  obtain ⟨I_1, rfl, o1, o2⟩ := hq
  have hG1 := hG0.kept o1 o2
  refine w_aload (pc' := 5) k97_4 rfl rfl ?_
  refine w_getR (pc' := 8) (v := 21) k97_5 rfl (hL.1 0 (10, 12) rfl) (hL.2 0 6 21 rfl) ?_
  refine w_aload (pc' := 9) k97_8 rfl rfl ?_
  refine w_getR (pc' := 12) (v := (ρ 7)) k97_9 rfl (hL.1 0 (10, 12) rfl) t7 ?_
  refine w_callV (pc' := 15) (as := [.inr (some 21), .inr (some (ρ 7))]) k97_12 rfl rfl (co_v rfl rfl (hL.1 21 (6, 5) rfl)) (by decide) (m36 hG1.cf) (fun r_12 h_12 hq => ?_)
  obtain ⟨I_x, rfl, x1, x2⟩ := hq
  refine w_c1 (pc' := 16) k97_15 rfl ?_
  refine w_istore (pc' := 17) (ls' := [_, _, _, _]) k97_16 rfl rfl rfl ?_
  refine w_c2 (pc' := 19) k97_17 rfl ?_
  refine w_istore (pc' := 20) (ls' := [_, _, _, _]) k97_19 rfl rfl rfl ?_
  have hP0 : PLI I_x I_x (ρ 7) (γ (ρ 7)) H E S L A (plN H E A 0).1 := ⟨fun _ _ _ => rfl, hG1.cs.keep (fun a q => x1 a (by omega)), x2, fun f q1 q2 => (hab.2.2.2 f q1 q2).2.2.2.2⟩
  have hFx : CF sh R I_x K H E HO S L B (ρ 7) (γ (ρ 7)) M A := hG1.cf.keep (fun a q => x1 a (by omega))
  refine m97o hFx t7 (fun v2 v3 I_2 c hP hc3 hc4 => ?_) 99 0 _ _ _ _ rfl rfl rfl (by omega) hP0
  have hGx := hG1.scr (I' := I_x) (fun a q => x1 a (by omega))
  have n710 : ρ 7 ≠ ρ 10 := fun e => absurd (hri 7 10 (by decide) (by decide) (by decide) (by decide) e) (by decide)
  have k00 : CS I_x (ρ 10) (γ (ρ 10)) S L A := o2.keep (fun a q => x1 a (by omega))
  obtain ⟨hG2, k0⟩ := hGx.chg (I' := I_2) (fun a q1 q2 q3 => hP.1 a (by omega) (by omega)) hP.2.1 (shW_AB hab hP.2.2.2) ⟨Int.le_refl _, hB⟩ k00
  refine w_iload (pc' := 81) k97_80 rfl rfl ?_
  refine w_if_le (pc' := 84) k97_81 rfl (fun c_81 => ?_) (fun c_81 => ?_)
  · refine w_iload (pc' := 89) k97_88 rfl rfl ?_
    exact w_reti k97_89 ⟨hc3 ▸ rfl, by rw [show planZ H E (A, A1, A2, u) = (shW A (plN H E A 99).1, A1, A2, u) from if_neg (show ¬ 0 < (plN H E A 99).2 by omega)]; exact ⟨_, _, _, rfl, (fun a q1 q2 => (hP.1 a (by omega) (by omega)).trans ((x1 a (by omega)).trans (OnlyS.m hG0 (by decide) (by decide) o1 a q1 q2))), RF.rf, hG2.mono ⟨by omega, hB1⟩⟩⟩
  · refine w_aload (pc' := 85) k97_84 rfl rfl ?_
    refine w_callV (pc' := 88) (as := [.inr (some 0)]) k97_85 rfl rfl (co_v rfl rfl (hL.1 0 (10, 12) rfl)) (by decide) (m108 hG2 k0 hab) (fun r_85 h_85 hq => ?_)
    obtain ⟨R_3, I_3, rfl, f3, r3, hG3⟩ := hq
    refine w_iload (pc' := 89) k97_88 rfl rfl ?_
    exact w_reti k97_89 ⟨hc3 ▸ rfl, by rw [show planZ H E (A, A1, A2, u) = pushZ (A, A1, A2, u) (shW A (plN H E A 99).1) from if_pos (show 0 < (plN H E A 99).2 by omega)]; exact ⟨_, _, _, rfl, fun a q1 q2 => (f3 a (by omega)).trans ((fun a q1 q2 => (hP.1 a (by omega) (by omega)).trans ((x1 a (by omega)).trans (OnlyS.m hG0 (by decide) (by decide) o1 a q1 q2))) a q1 q2), r3, hG3.mono ⟨by omega, hB1⟩⟩⟩
end C51
