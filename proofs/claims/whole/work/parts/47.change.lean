/-! ===== CLASS: changes ===== -/
/-- now, last, before last, how many may be undone -/
abbrev ZZ : Type := AS × AS × AS × Int
def pushZ (z : ZZ) (A' : AS) : ZZ := (A', z.1, z.2.1, min 2 (z.2.2.2 + 1))
abbrev CW (sh : List (Nat × Nat)) (R : Nat → Nat → Option Nat) (I : Nat → Int → Int) (K H E HO S L B : Int) (ρ γ : Nat → Nat) (M : Nat) (z : ZZ) (tx : Int → Int) (len : Int) : Prop := CG sh R I K H E HO S L B ρ γ M z.1 z.2.1 z.2.2.1 z.2.2.2 tx len
/-- a change: the answer, and the world behind it -/
abbrev QC (X : Nat × (Int → Int)) (d y : Nat) (as : List VV) (sh : List (Nat × Nat)) (R : Nat → Nat → Option Nat) (I : Nat → Int → Int) (K H E HO S L B : Int) (γ : Nat → Nat) (M : Nat) (v : Int) (z : ZZ) (tx : Int → Int) (len : Int) : Prop := WPM X d y as (sh, R, I) 0 0 (fun r h' => r = .inl v ∧ ∃ R' I' ρ', h' = (sh, R', I') ∧ (∀ a, 57 ≤ a → a ≤ 77 → I' a = I a) ∧ RF R R' ∧ CW sh R' I' K H E HO S L B ρ' γ M z tx len)
section C47
variable {X : Nat × (Int → Int)} {d : Nat} {sh : List (Nat × Nat)} {R : Nat → Nat → Option Nat} {I : Nat → Int → Int} {K H E HO S L B : Int} {ρ γ : Nat → Nat} {M : Nat} {A A1 A2 : AS} {u : Int} {tx : Int → Int} {len : Int}
theorem CG.mono (hG : CG sh R I K H E HO S L B ρ γ M A A1 A2 u tx len) {B' : Int} (h : B ≤ B' ∧ B' ≤ 1000000) : CG sh R I K H E HO S L B' ρ γ M A A1 A2 u tx len := by
  obtain ⟨hL, hK, hsp, hro, hri, hga, hgi, hM, hLS, hB, ⟨hcs, hab⟩, hc1, hc2, hu, htx⟩ := hG
  exact ⟨hL, hK, hsp, hro, hri, hga, hgi, hM, hLS, h.2, ⟨hcs, hab.mono h.1⟩, fun q => ⟨(hc1 q).1, (hc1 q).2.mono h.1⟩, fun q => ⟨(hc2 q).1, (hc2 q).2.mono h.1⟩, hu, htx⟩
theorem CG.cs (hG : CG sh R I K H E HO S L B ρ γ M A A1 A2 u tx len) : CS I (ρ 7) (γ (ρ 7)) S L A := hG.2.2.2.2.2.2.2.2.2.2.1.1
theorem CG.ab (hG : CG sh R I K H E HO S L B ρ γ M A A1 A2 u tx len) : AB H HO S L B A := hG.2.2.2.2.2.2.2.2.2.2.1.2
theorem CG.ro (hG : CG sh R I K H E HO S L B ρ γ M A A1 A2 u tx len) {k : Nat} (h : 7 ≤ k) (h2 : k ≤ 10) : R 0 k = some (ρ k) := (hG.2.2.2.1 k h h2).2
theorem CG.gr (hG : CG sh R I K H E HO S L B ρ γ M A A1 A2 u tx len) {k : Nat} (h : 7 ≤ k) (h2 : k ≤ 10) : (53 ≤ γ (ρ k) ∧ (γ (ρ k) < 57 ∨ 77 < γ (ρ k))) ∧ 25 ≤ ρ k ∧ ρ k ≤ 46 := ⟨(hG.2.2.2.2.2.1 _ (hG.2.2.2.1 k h h2).1).2.2.1, (hG.2.2.2.1 k h h2).1.r⟩
theorem RF.rf : RF R R := fun _ _ _ => rfl
theorem OnlyS.m (hG : CG sh R I K H E HO S L B ρ γ M A A1 A2 u tx len) {k : Nat} (h : 7 ≤ k) (h2 : k ≤ 10) {I1 I2 : Nat → Int → Int} (o : OnlyS I1 I2 (ρ k) (γ (ρ k))) : ∀ a, 57 ≤ a → a ≤ 77 → I2 a = I1 a := fun a q1 q2 => by
  have := hG.gr h h2
  exact o a (by omega) (by omega)
theorem CF.only {s g_s M_s : Nat} {A' : AS} {B' : Int} {I' : Nat → Int → Int} (hF : CF sh R I K H E HO S L B s g_s M_s A) (h1 : OnlyS I I' s g_s) (h2 : CS I' s g_s S L A') (h3 : AB H HO S L B' A') (hB' : B' ≤ 1000000) : CF sh R I' K H E HO S L B' s g_s M_s A' := by
  obtain ⟨hL, hK, hsp, h_s, m_s, n_s, hg, hM, hLS, hcs, hab, hB⟩ := hF
  have := h_s.r
  exact ⟨hL, hK, hsp.keep (fun a q1 q2 => h1 a (by omega) (by omega)), h_s, m_s, n_s, hg, hM, hLS, h2, h3, hB'⟩
theorem OnlyS.tr {s g : Nat} {I1 I2 : Nat → Int → Int} (h : OnlyS I I1 s g) (h2 : OnlyS I1 I2 s g) : OnlyS I I2 s g := fun a q1 q2 => (h2 a q1 q2).trans (h a q1 q2)
theorem OnlyS.rf {s g : Nat} : OnlyS I I s g := fun _ _ _ => rfl
theorem OnlyS.c {s g : Nat} {I1 : Nat → Int → Int} (h : OnlyS I I1 s g) : ∀ a, (a < 12 ∨ 24 < a) → (a < s ∨ s + 5 < a) → a ≠ g → I1 a = I a := fun a _ q1 q2 => h a q1 q2
section TURN
variable {s g_s M_s : Nat}
theorem m109 (hF : CF sh R I K H E HO S L B s g_s M_s A) (t7 : R 0 7 = some s) {l : Int} (hl : 0 ≤ l ∧ l < L) : WPM X (d + 2) 109 [.inr (some 0), .inl l] (sh, R, I) 0 0 (fun _ h' => ∃ I', h' = (sh, R, I') ∧ OnlyS I I' s g_s ∧ CS I' s g_s S L (turnA H E A l)) := by
  have hF0 := hF
  obtain ⟨hL, hK, hsp, h_s, m_s, n_s, hg, hM, hLS, hcs, hab, hB⟩ := hF
  have hr := hK.r
  show WP X (d + 2) 109 0 [.inr (some 0), .inl l] [] (sh, R, I) 0 0 _
  refine w_aload (pc' := 1) k109_0 rfl rfl ?_
  refine w_getR (pc' := 4) (v := s) k109_1 rfl (hL.1 0 (10, 12) rfl) t7 ?_
  refine w_iload (pc' := 5) k109_4 rfl rfl ?_
  refine w_aload (pc' := 6) k109_5 rfl rfl ?_
  refine w_getR (pc' := 9) (v := 3) k109_6 rfl (hL.1 0 (10, 12) rfl) (hL.2 0 1 3 rfl) ?_
  refine w_getR (pc' := 12) (v := 8) k109_9 rfl (hL.1 3 (5, 14) rfl) (hL.2 3 10 8 rfl) ?_
  refine w_iload (pc' := 13) k109_12 rfl rfl ?_
  refine w_iald (pc' := 14) (v := l / H) k109_13 rfl (hL.1 8 (0, 108) rfl) (by first | omega | (rcases hK with ⟨rfl, rfl, rfl, rfl, rfl, rfl⟩ | ⟨rfl, rfl, rfl, rfl, rfl, rfl⟩ | ⟨rfl, rfl, rfl, rfl, rfl, rfl⟩ <;> omega)) (hsp.2.2.2.2.2.2.2.1 l hl.1 hl.2).1 ?_
  refine w_aload (pc' := 15) k109_14 rfl rfl ?_
  refine w_getR (pc' := 18) (v := 3) k109_15 rfl (hL.1 0 (10, 12) rfl) (hL.2 0 1 3 rfl) ?_
  refine w_getR (pc' := 21) (v := 9) k109_18 rfl (hL.1 3 (5, 14) rfl) (hL.2 3 11 9 rfl) ?_
  refine w_iload (pc' := 22) k109_21 rfl rfl ?_
  refine w_iald (pc' := 23) (v := upS H E l) k109_22 rfl (hL.1 9 (0, 108) rfl) (by first | omega | (rcases hK with ⟨rfl, rfl, rfl, rfl, rfl, rfl⟩ | ⟨rfl, rfl, rfl, rfl, rfl, rfl⟩ | ⟨rfl, rfl, rfl, rfl, rfl, rfl⟩ <;> omega)) (hsp.2.2.2.2.2.2.2.1 l hl.1 hl.2).2 ?_
  refine w_callV (pc' := 26) (as := [.inr (some s), .inl _, .inl _, .inl _]) k109_23 rfl rfl (co_v rfl rfl (hL.s0 h_s)) (by decide) (m53 hF0 hl) (fun r_23 h_23 hq => ?_)
  obtain ⟨I_1, rfl, o1, o2⟩ := hq
  exact w_retv k109_26 ⟨_, rfl, o1, o2⟩
def trF (H E : Int) (A : AS) (n w : Int) : Nat → AS
  | 0 => A
  | k + 1 => if lkP H E (trF H E A n w k) n w k then turnA H E (trF H E A n w k) k else trF H E A n w k
theorem trF_AB (hK : KP K H E HO S L) (hab : AB H HO S L B A) {n w : Int} : ∀ k : Nat, (k : Int) ≤ L → AB H HO S L (B + 1) (trF H E A n w k) ∧ ∀ l : Int, k ≤ l → aAg (trF H E A n w k) l = aAg A l
  | 0, _ => ⟨hab.mono (by omega), fun _ _ => rfl⟩
  | k + 1, hk => by
    have ⟨h1, h2⟩ := trF_AB hK hab (n := n) (w := w) k (by omega)
    rw [trF]
    split
    · have ha := hab.1 k (by omega) (by omega)
      have hk2 := h2 k (by omega)
      refine ⟨⟨fun l q1 q2 => ?_, fun n2 l q1 q2 q3 q4 => ?_, h1.2.2.1, h1.2.2.2⟩, fun l q => ?_⟩
      · show 0 ≤ upF (aAg (trF H E A n w k)) k (aAg (trF H E A n w k) k + 1) l ∧ upF (aAg (trF H E A n w k)) k (aAg (trF H E A n w k) k + 1) l ≤ B + 1
        by_cases e : l = (k : Int)
        · rw [e, upF_s, hk2]; omega
        · rw [upF_n e]; exact h1.1 l q1 q2
      · show 0 ≤ (if l = (k : Int) ∧ (n2 = (k : Int) / H ∨ n2 = upS H E k) then aAg (trF H E A n w k) k + 1 else aMk (trF H E A n w k) n2 l) ∧ (if l = (k : Int) ∧ (n2 = (k : Int) / H ∨ n2 = upS H E k) then aAg (trF H E A n w k) k + 1 else aMk (trF H E A n w k) n2 l) ≤ B + 1
        split
        · rw [hk2]; omega
        · exact h1.2.1 n2 l q1 q2 q3 q4
      · show upF (aAg (trF H E A n w k)) k (aAg (trF H E A n w k) k + 1) l = aAg A l
        rw [upF_n (by omega)]; exact h2 l (by omega)
    · exact ⟨h1, fun l q => h2 l (by omega)⟩
theorem m112l (hF : CF sh R I K H E HO S L B s g_s M_s A) (t7 : R 0 7 = some s) (hB1 : B + 1 ≤ 1000000) {n w c : Int} {N : Nat} (hN : L = (N : Int)) {Q : VV → Hp → Prop} (kk : ∀ v4 I2, OnlyS I I2 s g_s → CS I2 s g_s S L (trF H E A n w N) → WP X (d + 3) 112 68 [.inr (some 0), .inl n, .inl w, .inl c, v4] [] (sh, R, I2) 0 0 Q) : ∀ (k m : Nat) (i : Int) (I1 : Nat → Int → Int), m + k = N → i = (m : Int) → OnlyS I I1 s g_s → CS I1 s g_s S L (trF H E A n w m) → WP X (d + 3) 112 21 [.inr (some 0), .inl n, .inl w, .inl c, .inl i] [] (sh, R, I1) 0 0 Q := by
  have hF0 := hF
  obtain ⟨hL, hK, hsp, h_s, m_s, n_s, hg, hM, hLS, hcs, hab, hB⟩ := hF
  have hr := hK.r
  intro k
  induction k with
  | zero =>
    rintro m i I1 hk rfl ho hc
    have e : m = N := by omega
    subst e
    have hF1 := hF0.only ho hc (trF_AB hK hab m (by omega)).1 hB1
    have hsp1 := hF1.2.2.1
    refine w_iload (pc' := 23) k112_21 rfl rfl ?_
    refine w_aload (pc' := 24) k112_23 rfl rfl ?_
    refine w_getR (pc' := 27) (v := 3) k112_24 rfl (hL.1 0 (10, 12) rfl) (hL.2 0 1 3 rfl) ?_
    refine w_getI (pc' := 30) (ki := 5) (v := L) k112_27 rfl (hL.1 3 (5, 14) rfl) rfl hsp1.2.2.2.2.2.1 ?_
    refine w_ic_ge (pc' := 33) k112_30 rfl (fun c_30 => ?_) (fun c_30 => absurd c_30 (by omega))
    exact kk _ _ ho hc
  | succ k ih =>
    rintro m i I1 hk rfl ho hc
    have hm : (0 : Int) ≤ (m : Int) ∧ (m : Int) < L := by omega
    have hF1 := hF0.only ho hc (trF_AB hK hab m (by omega)).1 hB1
    have hsp1 := hF1.2.2.1
    refine w_iload (pc' := 23) k112_21 rfl rfl ?_
    refine w_aload (pc' := 24) k112_23 rfl rfl ?_
    refine w_getR (pc' := 27) (v := 3) k112_24 rfl (hL.1 0 (10, 12) rfl) (hL.2 0 1 3 rfl) ?_
    refine w_getI (pc' := 30) (ki := 5) (v := L) k112_27 rfl (hL.1 3 (5, 14) rfl) rfl hsp1.2.2.2.2.2.1 ?_
    refine w_ic_ge (pc' := 33) k112_30 rfl (fun c_30 => absurd c_30 (by omega)) (fun c_30 => ?_)
    refine w_aload (pc' := 34) k112_33 rfl rfl ?_
    refine w_iload (pc' := 35) k112_34 rfl rfl ?_
    refine w_iload (pc' := 37) k112_35 rfl rfl ?_
    refine w_callB (pc' := 40) (as := [.inr (some 0), .inl _, .inl _]) k112_37 rfl rfl (co_v rfl rfl (hL.1 0 (10, 12) rfl)) (by decide) (m110 hF1 hm) (fun q_37 => ?_) (fun q_37 => ?_)
    · refine w_if_eq (pc' := 43) k112_40 rfl (fun c_40 => absurd c_40 (by decide)) (fun _ => ?_)
      refine w_aload (pc' := 44) k112_43 rfl rfl ?_
      refine w_getR (pc' := 47) (v := s) k112_44 rfl (hL.1 0 (10, 12) rfl) t7 ?_
      refine w_iload (pc' := 49) k112_47 rfl rfl ?_
      refine w_callB (pc' := 52) (as := [.inr (some s), .inl _]) k112_49 rfl rfl (co_v rfl rfl (hL.s0 h_s)) (by decide) (m49 hF1 hm) (fun q_49 => ?_) (fun q_49 => ?_)
      · refine w_iload (pc' := 53) k112_52 rfl rfl ?_
        refine w_ic_eq (pc' := 56) k112_53 rfl (fun c_53 => ?_) (fun c_53 => ?_)
        · refine w_iinc (pc' := 65) (ls' := [_, _, _, _, _]) k112_62 rfl rfl (by omega) rfl ?_
          refine w_goto k112_65 ?_
          exact ih (m + 1) _ _ (by omega) (by omega) ho (by rw [trF, if_neg (by rw [show lkP H E (trF H E A n w m) n w m = false from decide_eq_false (fun z => z.2 (by rw [if_pos q_49]; exact c_53))]; decide)]; exact hc)
        · refine w_aload (pc' := 57) k112_56 rfl rfl ?_
          refine w_iload (pc' := 59) k112_57 rfl rfl ?_
          refine w_callV (pc' := 62) (as := [.inr (some 0), .inl _]) k112_59 rfl rfl (co_v rfl rfl (hL.1 0 (10, 12) rfl)) (by decide) (m109 hF1 t7 hm) (fun r_59 h_59 hq => ?_)
          obtain ⟨I_2, rfl, o1, o2⟩ := hq
          refine w_iinc (pc' := 65) (ls' := [_, _, _, _, _]) k112_62 rfl rfl (by omega) rfl ?_
          refine w_goto k112_65 ?_
          exact ih (m + 1) _ _ (by omega) (by omega) (ho.tr o1) (by rw [trF, if_pos (show lkP H E (trF H E A n w m) n w m = true from decide_eq_true ⟨q_37, by rw [if_pos q_49]; exact c_53⟩)]; exact o2)
      · refine w_iload (pc' := 53) k112_52 rfl rfl ?_
        refine w_ic_eq (pc' := 56) k112_53 rfl (fun c_53 => ?_) (fun c_53 => ?_)
        · refine w_iinc (pc' := 65) (ls' := [_, _, _, _, _]) k112_62 rfl rfl (by omega) rfl ?_
          refine w_goto k112_65 ?_
          exact ih (m + 1) _ _ (by omega) (by omega) ho (by rw [trF, if_neg (by rw [show lkP H E (trF H E A n w m) n w m = false from decide_eq_false (fun z => z.2 (by rw [if_neg q_49]; exact c_53))]; decide)]; exact hc)
        · refine w_aload (pc' := 57) k112_56 rfl rfl ?_
          refine w_iload (pc' := 59) k112_57 rfl rfl ?_
          refine w_callV (pc' := 62) (as := [.inr (some 0), .inl _]) k112_59 rfl rfl (co_v rfl rfl (hL.1 0 (10, 12) rfl)) (by decide) (m109 hF1 t7 hm) (fun r_59 h_59 hq => ?_)
          obtain ⟨I_2, rfl, o1, o2⟩ := hq
          refine w_iinc (pc' := 65) (ls' := [_, _, _, _, _]) k112_62 rfl rfl (by omega) rfl ?_
          refine w_goto k112_65 ?_
          exact ih (m + 1) _ _ (by omega) (by omega) (ho.tr o1) (by rw [trF, if_pos (show lkP H E (trF H E A n w m) n w m = true from decide_eq_true ⟨q_37, by rw [if_neg q_49]; exact c_53⟩)]; exact o2)
    · refine w_if_eq (pc' := 43) k112_40 rfl (fun _ => ?_) (fun c_40 => absurd c_40 (by decide))
      refine w_iinc (pc' := 65) (ls' := [_, _, _, _, _]) k112_62 rfl rfl (by omega) rfl ?_
      refine w_goto k112_65 ?_
      exact ih (m + 1) _ _ (by omega) (by omega) ho (by rw [trF, if_neg (by rw [show lkP H E (trF H E A n w m) n w m = false from decide_eq_false (fun z => q_37 z.1)]; decide)]; exact hc)
end TURN
def tlV (H E L : Int) (A : AS) (n w : Int) : Int := if lkC H E L A n w = 0 then -2 else lkC H E L A n w
def tlZ (H E L : Int) (z : ZZ) (n w : Int) : ZZ := if lkC H E L z.1 n w = 0 then z else pushZ z (trF H E z.1 n w L.toNat)
theorem m112 (hG : CG sh R I K H E HO S L B ρ γ M A A1 A2 u tx len) (hB1 : B + 1 ≤ 1000000) {n w : Int} : QC X (d + 3) 112 [.inr (some 0), .inl n, .inl w] sh R I K H E HO S L (B + 1) γ M (tlV H E L A n w) (tlZ H E L (A, A1, A2, u) n w) (tx) (len) := by
  have hG0 := hG
  have hF0 := hG.cf
  obtain ⟨hL, hK, hsp, hro, hri, hga, hgi, hM, hLS, hB, ⟨hcs, hab⟩, hc1, hc2, ⟨hu, hu0⟩, htx⟩ := hG
  obtain ⟨h_r7, t7⟩ := hro 7 (by decide) (by decide)
  obtain ⟨h_r8, t8⟩ := hro 8 (by decide) (by decide)
  obtain ⟨h_r9, t9⟩ := hro 9 (by decide) (by decide)
  obtain ⟨h_r10, t10⟩ := hro 10 (by decide) (by decide)
  obtain ⟨m_r7, n_r7, g_r7, -⟩ := hga _ h_r7
  obtain ⟨m_r10, n_r10, g_r10, hp7, hp8⟩ := hga _ h_r10
  have hr := hK.r
  show WP X (d + 3) 112 0 [.inr (some 0), .inl n, .inl w, .inr none, .inr none] [] (sh, R, I) 0 0 _
  refine w_aload (pc' := 1) k112_0 rfl rfl ?_
  refine w_iload (pc' := 2) k112_1 rfl rfl ?_
  refine w_iload (pc' := 3) k112_2 rfl rfl ?_
  refine w_callE (pc' := 6) (as := [.inr (some 0), .inl _, .inl _]) k112_3 rfl rfl (co_v rfl rfl (hL.1 0 (10, 12) rfl)) (by decide) (m111 hF0 t7) ?_
  refine w_istore (pc' := 7) (ls' := [_, _, _, _, _]) k112_6 rfl rfl rfl ?_
  refine w_iload (pc' := 8) k112_7 rfl rfl ?_
  refine w_if_ne (pc' := 11) k112_8 rfl (fun c_8 => ?_) (fun c_8 => ?_)
  · refine w_aload (pc' := 15) k112_14 rfl rfl ?_
    refine w_callV (pc' := 18) (as := [.inr (some 0)]) k112_15 rfl rfl (co_v rfl rfl (hL.1 0 (10, 12) rfl)) (by decide) (m107 hG0) (fun r_15 h_15 hq => ?_)
    obtain ⟨I_1, rfl, o1, o2⟩ := hq
    have hG1 := hG0.kept o1 o2
    refine w_c1 (pc' := 19) k112_18 rfl ?_
    refine w_istore (pc' := 21) (ls' := [_, _, _, _, _]) k112_19 rfl rfl rfl ?_
    refine m112l hG1.cf t7 hB1 (N := L.toNat) (by omega) (fun v4 I_2 o3 o4 => ?_) L.toNat 0 _ _ (by omega) rfl OnlyS.rf hG1.cs
    obtain ⟨hG2, k0⟩ := hG1.chg o3.c o4 (trF_AB hK hab L.toNat (by omega)).1 ⟨by omega, hB1⟩ o2
    refine w_aload (pc' := 69) k112_68 rfl rfl ?_
    refine w_callV (pc' := 72) (as := [.inr (some 0)]) k112_69 rfl rfl (co_v rfl rfl (hL.1 0 (10, 12) rfl)) (by decide) (m108 hG2 k0 (hab.mono (by omega))) (fun r_69 h_69 hq => ?_)
    obtain ⟨R_3, I_3, rfl, f3, r3, hG3⟩ := hq
    refine w_iload (pc' := 73) k112_72 rfl rfl ?_
    exact w_reti k112_73 ⟨by unfold tlV; rw [if_neg c_8], _, _, _, rfl, fun a q1 q2 => (f3 a (by omega)).trans ((OnlyS.m hG1 (by decide) (by decide) o3 a q1 q2).trans (OnlyS.m hG0 (by decide) (by decide) o1 a q1 q2)), r3, by unfold tlZ; rw [if_neg c_8]; exact hG3⟩
  · refine w_c2 (pc' := 13) k112_11 rfl ?_
    exact w_reti k112_13 ⟨by unfold tlV; rw [if_pos c_8], by unfold tlZ; rw [if_pos c_8]; exact ⟨_, _, _, rfl, fun _ _ _ => rfl, RF.rf, hG0.mono ⟨by omega, hB1⟩⟩⟩
theorem m77 (hG : CG sh R I K H E HO S L B ρ γ M A A1 A2 u tx len) (hB1 : B + 1 ≤ 1000000) {n : Int} : QC X (d + 4) 77 [.inr (some 0), .inl n] sh R I K H E HO S L (B + 1) γ M (if 0 ≤ n ∧ n < S then tlV H E L A n 0 else -1) (if 0 ≤ n ∧ n < S then tlZ H E L (A, A1, A2, u) n 0 else (A, A1, A2, u)) (tx) (len) := by
  have hG0 := hG
  have hF0 := hG.cf
  obtain ⟨hL, hK, hsp, hro, hri, hga, hgi, hM, hLS, hB, ⟨hcs, hab⟩, hc1, hc2, ⟨hu, hu0⟩, htx⟩ := hG
  obtain ⟨h_r7, t7⟩ := hro 7 (by decide) (by decide)
  obtain ⟨h_r8, t8⟩ := hro 8 (by decide) (by decide)
  obtain ⟨h_r9, t9⟩ := hro 9 (by decide) (by decide)
  obtain ⟨h_r10, t10⟩ := hro 10 (by decide) (by decide)
  obtain ⟨m_r7, n_r7, g_r7, -⟩ := hga _ h_r7
  obtain ⟨m_r10, n_r10, g_r10, hp7, hp8⟩ := hga _ h_r10
  show WP X (d + 4) 77 0 [.inr (some 0), .inl n] [] (sh, R, I) 0 0 _
  refine w_aload (pc' := 1) k77_0 rfl rfl ?_
  refine w_iload (pc' := 2) k77_1 rfl rfl ?_
  refine w_callB (pc' := 5) (as := [.inr (some 0), .inl _]) k77_2 rfl rfl (co_v rfl rfl (hL.1 0 (10, 12) rfl)) (by decide) (m99 hF0) (fun q_2 => ?_) (fun q_2 => ?_)
  · refine w_if_eq (pc' := 8) k77_5 rfl (fun c_5 => absurd c_5 (by decide)) (fun _ => ?_)
    refine w_aload (pc' := 9) k77_8 rfl rfl ?_
    refine w_iload (pc' := 10) k77_9 rfl rfl ?_
    refine w_c1 (pc' := 11) k77_10 rfl ?_
    refine w_callI (pc' := 14) (as := [.inr (some 0), .inl _, .inl _]) k77_11 rfl rfl (co_v rfl rfl (hL.1 0 (10, 12) rfl)) (by decide) (m112 hG0 hB1) (fun z_11 h_11 hq => ?_)
    obtain ⟨hz, R_3, I_3, ρ_3, rfl, f3, r3, hG3⟩ := hq
    have hz := Sum.inl.inj hz
    subst hz
    refine w_goto k77_14 ?_
    exact w_reti k77_18 ⟨by rw [if_pos q_2], _, _, _, rfl, f3, r3, by rw [if_pos q_2]; exact hG3⟩
  · refine w_if_eq (pc' := 8) k77_5 rfl (fun _ => ?_) (fun c_5 => absurd c_5 (by decide))
    refine w_c1 (pc' := 18) k77_17 rfl ?_
    exact w_reti k77_18 ⟨by rw [if_neg q_2], by rw [if_neg q_2]; exact ⟨_, _, _, rfl, fun _ _ _ => rfl, RF.rf, hG0.mono ⟨by omega, hB1⟩⟩⟩
theorem m78 (hG : CG sh R I K H E HO S L B ρ γ M A A1 A2 u tx len) (hB1 : B + 1 ≤ 1000000) {n : Int} : QC X (d + 4) 78 [.inr (some 0), .inl n] sh R I K H E HO S L (B + 1) γ M (if 0 ≤ n ∧ n < S then tlV H E L A n 1 else -1) (if 0 ≤ n ∧ n < S then tlZ H E L (A, A1, A2, u) n 1 else (A, A1, A2, u)) (tx) (len) := by
  have hG0 := hG
  have hF0 := hG.cf
  obtain ⟨hL, hK, hsp, hro, hri, hga, hgi, hM, hLS, hB, ⟨hcs, hab⟩, hc1, hc2, ⟨hu, hu0⟩, htx⟩ := hG
  obtain ⟨h_r7, t7⟩ := hro 7 (by decide) (by decide)
  obtain ⟨h_r8, t8⟩ := hro 8 (by decide) (by decide)
  obtain ⟨h_r9, t9⟩ := hro 9 (by decide) (by decide)
  obtain ⟨h_r10, t10⟩ := hro 10 (by decide) (by decide)
  obtain ⟨m_r7, n_r7, g_r7, -⟩ := hga _ h_r7
  obtain ⟨m_r10, n_r10, g_r10, hp7, hp8⟩ := hga _ h_r10
  show WP X (d + 4) 78 0 [.inr (some 0), .inl n] [] (sh, R, I) 0 0 _
  refine w_aload (pc' := 1) k78_0 rfl rfl ?_
  refine w_iload (pc' := 2) k78_1 rfl rfl ?_
  refine w_callB (pc' := 5) (as := [.inr (some 0), .inl _]) k78_2 rfl rfl (co_v rfl rfl (hL.1 0 (10, 12) rfl)) (by decide) (m99 hF0) (fun q_2 => ?_) (fun q_2 => ?_)
  · refine w_if_eq (pc' := 8) k78_5 rfl (fun c_5 => absurd c_5 (by decide)) (fun _ => ?_)
    refine w_aload (pc' := 9) k78_8 rfl rfl ?_
    refine w_iload (pc' := 10) k78_9 rfl rfl ?_
    refine w_c1 (pc' := 11) k78_10 rfl ?_
    refine w_callI (pc' := 14) (as := [.inr (some 0), .inl _, .inl _]) k78_11 rfl rfl (co_v rfl rfl (hL.1 0 (10, 12) rfl)) (by decide) (m112 hG0 hB1) (fun z_11 h_11 hq => ?_)
    obtain ⟨hz, R_3, I_3, ρ_3, rfl, f3, r3, hG3⟩ := hq
    have hz := Sum.inl.inj hz
    subst hz
    refine w_goto k78_14 ?_
    exact w_reti k78_18 ⟨by rw [if_pos q_2], _, _, _, rfl, f3, r3, by rw [if_pos q_2]; exact hG3⟩
  · refine w_if_eq (pc' := 8) k78_5 rfl (fun _ => ?_) (fun c_5 => absurd c_5 (by decide))
    refine w_c1 (pc' := 18) k78_17 rfl ?_
    exact w_reti k78_18 ⟨by rw [if_neg q_2], by rw [if_neg q_2]; exact ⟨_, _, _, rfl, fun _ _ _ => rfl, RF.rf, hG0.mono ⟨by omega, hB1⟩⟩⟩
end C47
