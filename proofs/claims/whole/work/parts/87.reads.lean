/-! ===== REFERENCE: its text read ===== -/
theorem nm_end {tx : Int → Int} {len : Int} : ∀ (k : Nat) (v p : Int), p ≤ (nmS tx len k v p).2 ∧ (nmS tx len k v p).2 ≤ p + (k : Int)
  | 0, v, p => by rw [nmS]; show p ≤ p ∧ p ≤ p + ((0 : Nat) : Int); omega
  | k + 1, v, p => by
    rw [nmS]
    split
    · show p ≤ p ∧ p ≤ p + ((k + 1 : Nat) : Int); omega
    · have := nm_end (tx := tx) (len := len) k (10 * v + fg tx len p) (p + 1); omega
/-- the reference's number is the class's -/
theorem num_e {tx : Int → Int} {len p : Int} {m : Nat} : (if (nmS tx len (m + 1) 0 p).2 = p then -1 else (nmS tx len (m + 1) 0 p).1) = (numS tx len p m).1 ∧ (nmS tx len (m + 1) 0 p).2 = (numS tx len p m).2 := by
  unfold numS
  rw [nmS]
  split
  · exact ⟨if_pos rfl, rfl⟩
  · have := nm_end (tx := tx) (len := len) m (10 * 0 + fg tx len p) (p + 1)
    rw [if_neg (by omega), show 10 * 0 + fg tx len p = fg tx len p by omega]
    exact ⟨rfl, rfl⟩
/-- an item without its end sign -/
def itemQ (tx : Int → Int) (len : Int) (st : PS) (p : Int) (st' : PS) (e : Int) : Prop :=
  (lt9 tx len p = 107 ∧ okK tx len st p ∧ st' = (fg tx len (p + 1), st.2) ∧ e = p + 2) ∨
  (lt9 tx len p = 102 ∧ st.1 ≠ 0 ∧ okFl tx len st p ∧ st' = psF tx len st p ∧ e = (numS tx len (p + 13) 1).2) ∨
  (lt9 tx len p = 120 ∧ st.1 ≠ 0 ∧ okCu tx len st p ∧ st' = psX tx len st p ∧ e = (numS tx len (p + 1) 2).2)
theorem itemQ_i {tx : Int → Int} {len : Int} {st st' : PS} {p e : Int} (h : itemQ tx len st p st' e) (h2 : lt9 tx len e = 59) : itemR tx len st p st' (e + 1) := by
  rcases h with ⟨a1, a2, rfl, rfl⟩ | ⟨a1, a2, a3, rfl, rfl⟩ | ⟨a1, a2, a3, rfl, rfl⟩
  · exact Or.inl ⟨a1, a2, h2, rfl, by omega⟩
  · exact Or.inr (Or.inl ⟨a1, a2, a3, h2, rfl, rfl⟩)
  · exact Or.inr (Or.inr ⟨a1, a2, a3, h2, rfl, rfl⟩)
theorem itemR_q {tx : Int → Int} {len : Int} {st st' : PS} {p p' : Int} (h : itemR tx len st p st' p') : itemQ tx len st p st' (p' - 1) ∧ lt9 tx len (p' - 1) = 59 := by
  rcases h with ⟨a1, a2, a3, rfl, rfl⟩ | ⟨a1, a2, a3, a4, rfl, rfl⟩ | ⟨a1, a2, a3, a4, rfl, rfl⟩
  · rw [show p + 3 - 1 = p + 2 by omega]; exact ⟨Or.inl ⟨a1, a2, rfl, rfl⟩, a3⟩
  · rw [show (numS tx len (p + 13) 1).2 + 1 - 1 = (numS tx len (p + 13) 1).2 by omega]; exact ⟨Or.inr (Or.inl ⟨a1, a2, a3, rfl, rfl⟩), a4⟩
  · rw [show (numS tx len (p + 1) 2).2 + 1 - 1 = (numS tx len (p + 1) 2).2 by omega]; exact ⟨Or.inr (Or.inr ⟨a1, a2, a3, rfl, rfl⟩), a4⟩
theorem itemQ_fn {tx : Int → Int} {len : Int} {st : PS} {p p1 p2 : Int} {s1 s2 : PS} (h1 : itemQ tx len st p s1 p1) (h2 : itemQ tx len st p s2 p2) : s1 = s2 ∧ p1 = p2 := by
  rcases h1 with ⟨a1, a2, rfl, rfl⟩ | ⟨a1, a2, a3, rfl, rfl⟩ | ⟨a1, a2, a3, rfl, rfl⟩ <;> rcases h2 with ⟨b1, b2, rfl, rfl⟩ | ⟨b1, b2, b3, rfl, rfl⟩ | ⟨b1, b2, b3, rfl, rfl⟩ <;> first | exact ⟨rfl, rfl⟩ | omega
/-- what was told, in the reference's cells -/
def TS (I : Nat → Int → Int) (st : PS) : Prop := I 57 14 = st.1 ∧ I 57 15 = st.2.1 ∧ (∀ f, 0 ≤ f → f < st.2.1 → I 67 (4 * f) = st.2.2.1 f ∧ I 67 (4 * f + 1) = st.2.2.2.1 f ∧ I 67 (4 * f + 2) = st.2.2.2.2.1 f ∧ I 67 (4 * f + 3) = 0) ∧ (∀ l, 0 ≤ l → l < 108 → I 68 l = st.2.2.2.2.2 l)
/-- only what a text tells is another -/
def SX (I I1 : Nat → Int → Int) : Prop := (∀ a, a ≠ 57 → a ≠ 67 → a ≠ 68 → I1 a = I a) ∧ ∀ j, j ≠ 14 → j ≠ 15 → j ≠ 28 → I1 57 j = I 57 j
theorem SX.rfl {I : Nat → Int → Int} : SX I I := ⟨fun _ _ _ _ => Eq.refl _, fun _ _ _ _ => Eq.refl _⟩
theorem SX.tr {I I1 I2 : Nat → Int → Int} (h : SX I I1) (h2 : SX I1 I2) : SX I I2 := ⟨fun a q1 q2 q3 => (h2.1 a q1 q2 q3).trans (h.1 a q1 q2 q3), fun j q1 q2 q3 => (h2.2 j q1 q2 q3).trans (h.2 j q1 q2 q3)⟩
section M87
variable {X : Nat × (Int → Int)} {d : Nat} {sh : List (Nat × Nat)} {R : Nat → Nat → Option Nat} {I : Nat → Int → Int} {K H E HO S L B : Int} {A : AS}
variable {tx : Int → Int} {len : Int}
theorem SX.mt {I1 : Nat → Int → Int} (ht : MT I tx len) (h : SX I I1) : MT I1 tx len := ht.keep (h.2 0 (by decide) (by decide) (by decide)) (h.1 58 (by decide) (by decide) (by decide))
theorem m120l (hM : LM sh R) (ht : MT I tx len) {p w : Int} (hp : 0 ≤ p ∧ p ≤ 1000) (hw : 0 ≤ w ∧ w ≤ 3) : ∀ (k : Nat) (v i : Int), i + (k : Int) = p + w → p ≤ i → (0 ≤ v ∧ v ≤ 999 ∧ (k = 3 → v = 0) ∧ (k = 2 → v ≤ 9) ∧ (k = 1 → v ≤ 99)) → WP X (d + 3) 120 5 [.inr (some 57), .inl p, .inl w, .inl v, .inl i] [] (sh, R, I) 0 0 (fun r h' => r = .inl (if (nmS tx len k v i).2 = p then -1 else (nmS tx len k v i).1) ∧ h' = (sh, R, (upA I 57 (upF (I 57) 28 ((nmS tx len k v i).2))))) := by
  have hlen := ht.2.1
  intro k
  induction k with
  | zero =>
    intro v i hk hi hv
    rw [nmS]
    have hfr := fg_r (tx := tx) (len := len) (p := i)
    refine w_aload (pc' := 6) k120_5 rfl rfl ?_
    refine w_iload (pc' := 8) k120_6 rfl rfl ?_
    refine w_callE (pc' := 11) (as := [.inr (some 57), .inl _]) k120_8 rfl rfl (co_v rfl rfl (hM.1 57 (11, 30) rfl)) (by decide) (m119 hM ht (by omega)) ?_
    refine w_if_lt (pc' := 14) k120_11 rfl (fun c_11 => ?_) (fun c_11 => ?_)
    · refine w_aload (pc' := 41) k120_40 rfl rfl ?_
      refine w_iload (pc' := 43) k120_41 rfl rfl ?_
      refine w_putI (pc' := 46) (ki := 28) k120_43 rfl (hM.1 57 (11, 30) rfl) rfl ?_
      refine w_iload (pc' := 48) k120_46 rfl rfl ?_
      refine w_iload (pc' := 49) k120_48 rfl rfl ?_
      refine w_ic_ne (pc' := 52) k120_49 rfl (fun c_49 => ?_) (fun c_49 => ?_)
      · refine w_iload (pc' := 57) k120_56 rfl rfl ?_
        exact w_reti k120_57 ⟨congrArg Sum.inl ((if_neg (show ¬ i = p by omega)).symm), _root_.rfl⟩
      · refine w_c1 (pc' := 53) k120_52 rfl ?_
        refine w_goto k120_53 ?_
        exact w_reti k120_57 ⟨congrArg Sum.inl ((if_pos (show i = p by omega)).symm), _root_.rfl⟩
    · refine w_iload (pc' := 16) k120_14 rfl rfl ?_
      refine w_iload (pc' := 17) k120_16 rfl rfl ?_
      refine w_iload (pc' := 18) k120_17 rfl rfl ?_
      refine w_iadd (pc' := 19) k120_18 rfl (by omega) ?_
      refine w_ic_ge (pc' := 22) k120_19 rfl (fun c_19 => ?_) (fun c_19 => absurd c_19 (by omega))
      refine w_aload (pc' := 41) k120_40 rfl rfl ?_
      refine w_iload (pc' := 43) k120_41 rfl rfl ?_
      refine w_putI (pc' := 46) (ki := 28) k120_43 rfl (hM.1 57 (11, 30) rfl) rfl ?_
      refine w_iload (pc' := 48) k120_46 rfl rfl ?_
      refine w_iload (pc' := 49) k120_48 rfl rfl ?_
      refine w_ic_ne (pc' := 52) k120_49 rfl (fun c_49 => ?_) (fun c_49 => ?_)
      · refine w_iload (pc' := 57) k120_56 rfl rfl ?_
        exact w_reti k120_57 ⟨congrArg Sum.inl ((if_neg (show ¬ i = p by omega)).symm), _root_.rfl⟩
      · refine w_c1 (pc' := 53) k120_52 rfl ?_
        refine w_goto k120_53 ?_
        exact w_reti k120_57 ⟨congrArg Sum.inl ((if_pos (show i = p by omega)).symm), _root_.rfl⟩
  | succ k ih =>
    intro v i hk hi hv
    have hfr := fg_r (tx := tx) (len := len) (p := i)
    rw [nmS]
    by_cases cf : fg tx len i < 0
    · rw [if_pos cf]
      refine w_aload (pc' := 6) k120_5 rfl rfl ?_
      refine w_iload (pc' := 8) k120_6 rfl rfl ?_
      refine w_callE (pc' := 11) (as := [.inr (some 57), .inl _]) k120_8 rfl rfl (co_v rfl rfl (hM.1 57 (11, 30) rfl)) (by decide) (m119 hM ht (by omega)) ?_
      refine w_if_lt (pc' := 14) k120_11 rfl (fun c_11 => ?_) (fun c_11 => absurd c_11 (by omega))
      refine w_aload (pc' := 41) k120_40 rfl rfl ?_
      refine w_iload (pc' := 43) k120_41 rfl rfl ?_
      refine w_putI (pc' := 46) (ki := 28) k120_43 rfl (hM.1 57 (11, 30) rfl) rfl ?_
      refine w_iload (pc' := 48) k120_46 rfl rfl ?_
      refine w_iload (pc' := 49) k120_48 rfl rfl ?_
      refine w_ic_ne (pc' := 52) k120_49 rfl (fun c_49 => ?_) (fun c_49 => ?_)
      · refine w_iload (pc' := 57) k120_56 rfl rfl ?_
        exact w_reti k120_57 ⟨congrArg Sum.inl ((if_neg (show ¬ i = p by omega)).symm), _root_.rfl⟩
      · refine w_c1 (pc' := 53) k120_52 rfl ?_
        refine w_goto k120_53 ?_
        exact w_reti k120_57 ⟨congrArg Sum.inl ((if_pos (show i = p by omega)).symm), _root_.rfl⟩
    · rw [if_neg cf]
      refine w_aload (pc' := 6) k120_5 rfl rfl ?_
      refine w_iload (pc' := 8) k120_6 rfl rfl ?_
      refine w_callE (pc' := 11) (as := [.inr (some 57), .inl _]) k120_8 rfl rfl (co_v rfl rfl (hM.1 57 (11, 30) rfl)) (by decide) (m119 hM ht (by omega)) ?_
      refine w_if_lt (pc' := 14) k120_11 rfl (fun c_11 => absurd c_11 (by omega)) (fun c_11 => ?_)
      refine w_iload (pc' := 16) k120_14 rfl rfl ?_
      refine w_iload (pc' := 17) k120_16 rfl rfl ?_
      refine w_iload (pc' := 18) k120_17 rfl rfl ?_
      refine w_iadd (pc' := 19) k120_18 rfl (by omega) ?_
      refine w_ic_ge (pc' := 22) k120_19 rfl (fun c_19 => absurd c_19 (by omega)) (fun c_19 => ?_)
      refine w_c2 (pc' := 24) k120_22 rfl ?_
      refine w_iload (pc' := 25) k120_24 rfl rfl ?_
      refine w_imul (pc' := 26) k120_25 rfl (by omega) ?_
      refine w_aload (pc' := 27) k120_26 rfl rfl ?_
      refine w_iload (pc' := 29) k120_27 rfl rfl ?_
      refine w_callE (pc' := 32) (as := [.inr (some 57), .inl _]) k120_29 rfl rfl (co_v rfl rfl (hM.1 57 (11, 30) rfl)) (by decide) (m119 hM ht (by omega)) ?_
      refine w_iadd (pc' := 33) k120_32 rfl (by omega) ?_
      refine w_istore (pc' := 34) (ls' := [_, _, _, _, _]) k120_33 rfl rfl rfl ?_
      refine w_iinc (pc' := 37) (ls' := [_, _, _, _, _]) k120_34 rfl rfl (by omega) rfl ?_
      refine w_goto k120_37 ?_
      exact ih _ _ (by omega) (by omega) (by omega)
theorem m120 (hM : LM sh R) (ht : MT I tx len) {p w : Int} {m : Nat} (hp : 0 ≤ p ∧ p ≤ 1000) (hm : m ≤ 2) (hw : w = (m : Int) + 1) : WPM X (d + 3) 120 [.inr (some 57), .inl p, .inl w] (sh, R, I) 0 0 (fun r h' => r = .inl (numS tx len p m).1 ∧ h' = (sh, R, (upA I 57 (upF (I 57) 28 ((numS tx len p m).2))))) := by
  show WP X (d + 3) 120 0 [.inr (some 57), .inl p, .inl w, .inr none, .inr none] [] (sh, R, I) 0 0 _
  refine w_c1 (pc' := 1) k120_0 rfl ?_
  refine w_istore (pc' := 2) (ls' := [_, _, _, _, _]) k120_1 rfl rfl rfl ?_
  refine w_iload (pc' := 3) k120_2 rfl rfl ?_
  refine w_istore (pc' := 5) (ls' := [_, _, _, _, _]) k120_3 rfl rfl rfl ?_
  have hn := num_e (tx := tx) (len := len) (p := p) (m := m)
  have h := m120l (X := X) (d := d) hM ht hp (w := w) (by omega) (m + 1) 0 p (by omega) (by omega) (by omega)
  rw [hn.1, hn.2] at h
  exact h
theorem m121 (hM : LM sh R) (ht : MT I tx len) {p k : Int} (hp : 0 ≤ p ∧ p ≤ 1000) (h14 : I 57 14 = k) (hk : k = 2 ∨ k = 4 ∨ k = 6) : RV X (d + 3) 121 [.inr (some 57), .inl p] (sh, R, I) (hst tx len k p) := by
  have hk2 : 1 ≤ k / 2 ∧ k / 2 ≤ 3 := by omega
  have f0 := fg_r (tx := tx) (len := len) (p := p)
  have f2 := fg_r (tx := tx) (len := len) (p := p + 2)
  have f4 := fg_r (tx := tx) (len := len) (p := p + 4)
  show WP X (d + 3) 121 0 [.inr (some 57), .inl p, .inr none, .inr none, .inr none, .inr none, .inr none, .inr none] [] (sh, R, I) 0 0 _
  refine w_aload (pc' := 1) k121_0 rfl rfl ?_
  refine w_getI (pc' := 4) (ki := 14) (v := k) k121_1 rfl (hM.1 57 (11, 30) rfl) rfl h14 ?_
  refine w_istore (pc' := 5) (ls' := [_, _, _, _, _, _, _, _]) k121_4 rfl rfl rfl ?_
  refine w_iload (pc' := 6) k121_5 rfl rfl ?_
  refine w_c1 (pc' := 7) k121_6 rfl ?_
  refine w_idiv (pc' := 8) k121_7 rfl (by omega) ?_
  refine w_istore (pc' := 9) (ls' := [_, _, _, _, _, _, _, _]) k121_8 rfl rfl rfl ?_
  refine w_aload (pc' := 10) k121_9 rfl rfl ?_
  refine w_iload (pc' := 11) k121_10 rfl rfl ?_
  refine w_callE (pc' := 14) (as := [.inr (some 57), .inl _]) k121_11 rfl rfl (co_v rfl rfl (hM.1 57 (11, 30) rfl)) (by decide) (m119 hM ht (by omega)) ?_
  refine w_istore (pc' := 16) (ls' := [_, _, _, _, _, _, _, _]) k121_14 rfl rfl rfl ?_
  refine w_aload (pc' := 17) k121_16 rfl rfl ?_
  refine w_iload (pc' := 18) k121_17 rfl rfl ?_
  refine w_c1 (pc' := 19) k121_18 rfl ?_
  refine w_iadd (pc' := 20) k121_19 rfl (by omega) ?_
  refine w_callE (pc' := 23) (as := [.inr (some 57), .inl _]) k121_20 rfl rfl (co_v rfl rfl (hM.1 57 (11, 30) rfl)) (by decide) (m119 hM ht (by omega)) ?_
  refine w_istore (pc' := 25) (ls' := [_, _, _, _, _, _, _, _]) k121_23 rfl rfl rfl ?_
  refine w_aload (pc' := 26) k121_25 rfl rfl ?_
  refine w_iload (pc' := 27) k121_26 rfl rfl ?_
  refine w_c1 (pc' := 28) k121_27 rfl ?_
  refine w_iadd (pc' := 29) k121_28 rfl (by omega) ?_
  refine w_callE (pc' := 32) (as := [.inr (some 57), .inl _]) k121_29 rfl rfl (co_v rfl rfl (hM.1 57 (11, 30) rfl)) (by decide) (m119 hM ht (by omega)) ?_
  refine w_istore (pc' := 34) (ls' := [_, _, _, _, _, _, _, _]) k121_32 rfl rfl rfl ?_
  refine w_iload (pc' := 36) k121_34 rfl rfl ?_
  refine w_c1 (pc' := 37) k121_36 rfl ?_
  refine w_iload (pc' := 38) k121_37 rfl rfl ?_
  refine w_c1 (pc' := 39) k121_38 rfl ?_
  refine w_isub (pc' := 40) k121_39 rfl (by omega) ?_
  refine w_callB (pc' := 43) (as := [.inl _, .inl _, .inl _]) k121_40 rfl rfl (co_s (Or.inl rfl) rfl rfl rfl) (by decide) (m117) (fun q_40 => ?_) (fun q_40 => ?_)
  · refine w_if_eq (pc' := 46) k121_43 rfl (fun c_43 => absurd c_43 (by decide)) (fun _ => ?_)
    refine w_aload (pc' := 47) k121_46 rfl rfl ?_
    refine w_iload (pc' := 48) k121_47 rfl rfl ?_
    refine w_c1 (pc' := 49) k121_48 rfl ?_
    refine w_iadd (pc' := 50) k121_49 rfl (by omega) ?_
    refine w_callE (pc' := 53) (as := [.inr (some 57), .inl _]) k121_50 rfl rfl (co_v rfl rfl (hM.1 57 (11, 30) rfl)) (by decide) (m118 hM ht (by omega)) ?_
    refine w_c2 (pc' := 55) k121_53 rfl ?_
    refine w_ic_ne (pc' := 58) k121_55 rfl (fun c_55 => ?_) (fun c_55 => ?_)
    · refine w_c1 (pc' := 99) k121_98 rfl ?_
      refine w_istore (pc' := 101) (ls' := [_, _, _, _, _, _, _, _]) k121_99 rfl rfl rfl ?_
      refine w_iload (pc' := 103) k121_101 rfl rfl ?_
      refine w_if_eq (pc' := 106) k121_103 rfl (fun _ => ?_) (fun c_103 => absurd c_103 (by decide))
      refine w_c1 (pc' := 122) k121_121 rfl ?_
      exact w_reti k121_122 ⟨by unfold hst; rw [if_neg (fun z => c_55 z.2.1)], rfl⟩
    · refine w_iload (pc' := 60) k121_58 rfl rfl ?_
      refine w_c1 (pc' := 61) k121_60 rfl ?_
      refine w_iload (pc' := 62) k121_61 rfl rfl ?_
      refine w_c1 (pc' := 63) k121_62 rfl ?_
      refine w_isub (pc' := 64) k121_63 rfl (by omega) ?_
      refine w_callB (pc' := 67) (as := [.inl _, .inl _, .inl _]) k121_64 rfl rfl (co_s (Or.inl rfl) rfl rfl rfl) (by decide) (m117) (fun q_64 => ?_) (fun q_64 => ?_)
      · refine w_if_eq (pc' := 70) k121_67 rfl (fun c_67 => absurd c_67 (by decide)) (fun _ => ?_)
        refine w_aload (pc' := 71) k121_70 rfl rfl ?_
        refine w_iload (pc' := 72) k121_71 rfl rfl ?_
        refine w_c1 (pc' := 73) k121_72 rfl ?_
        refine w_iadd (pc' := 74) k121_73 rfl (by omega) ?_
        refine w_callE (pc' := 77) (as := [.inr (some 57), .inl _]) k121_74 rfl rfl (co_v rfl rfl (hM.1 57 (11, 30) rfl)) (by decide) (m118 hM ht (by omega)) ?_
        refine w_c2 (pc' := 79) k121_77 rfl ?_
        refine w_ic_ne (pc' := 82) k121_79 rfl (fun c_79 => ?_) (fun c_79 => ?_)
        · refine w_c1 (pc' := 99) k121_98 rfl ?_
          refine w_istore (pc' := 101) (ls' := [_, _, _, _, _, _, _, _]) k121_99 rfl rfl rfl ?_
          refine w_iload (pc' := 103) k121_101 rfl rfl ?_
          refine w_if_eq (pc' := 106) k121_103 rfl (fun _ => ?_) (fun c_103 => absurd c_103 (by decide))
          refine w_c1 (pc' := 122) k121_121 rfl ?_
          exact w_reti k121_122 ⟨by unfold hst; rw [if_neg (fun z => c_79 z.2.2.2.1)], rfl⟩
        · refine w_iload (pc' := 84) k121_82 rfl rfl ?_
          refine w_c1 (pc' := 85) k121_84 rfl ?_
          refine w_iload (pc' := 86) k121_85 rfl rfl ?_
          refine w_c1 (pc' := 87) k121_86 rfl ?_
          refine w_isub (pc' := 88) k121_87 rfl (by omega) ?_
          refine w_callB (pc' := 91) (as := [.inl _, .inl _, .inl _]) k121_88 rfl rfl (co_s (Or.inl rfl) rfl rfl rfl) (by decide) (m117) (fun q_88 => ?_) (fun q_88 => ?_)
          · refine w_if_eq (pc' := 94) k121_91 rfl (fun c_91 => absurd c_91 (by decide)) (fun _ => ?_)
            refine w_c1 (pc' := 95) k121_94 rfl ?_
            refine w_goto k121_95 ?_
            refine w_istore (pc' := 101) (ls' := [_, _, _, _, _, _, _, _]) k121_99 rfl rfl rfl ?_
            refine w_iload (pc' := 103) k121_101 rfl rfl ?_
            refine w_if_eq (pc' := 106) k121_103 rfl (fun c_103 => absurd c_103 (by decide)) (fun _ => ?_)
            refine w_iload (pc' := 108) k121_106 rfl rfl ?_
            refine w_iload (pc' := 109) k121_108 rfl rfl ?_
            refine w_imul (pc' := 110) k121_109 rfl (by rcases hk with rfl | rfl | rfl <;> omega) ?_
            refine w_iload (pc' := 112) k121_110 rfl rfl ?_
            refine w_iadd (pc' := 113) k121_112 rfl (by rcases hk with rfl | rfl | rfl <;> omega) ?_
            refine w_iload (pc' := 114) k121_113 rfl rfl ?_
            refine w_imul (pc' := 115) k121_114 rfl (by rcases hk with rfl | rfl | rfl <;> omega) ?_
            refine w_iload (pc' := 117) k121_115 rfl rfl ?_
            refine w_iadd (pc' := 118) k121_117 rfl (by rcases hk with rfl | rfl | rfl <;> omega) ?_
            refine w_goto k121_118 ?_
            exact w_reti k121_122 ⟨by unfold hst; rw [if_pos ⟨⟨q_40.1, by omega⟩, c_55, ⟨q_64.1, by omega⟩, c_79, q_88.1, by omega⟩], rfl⟩
          · refine w_if_eq (pc' := 94) k121_91 rfl (fun _ => ?_) (fun c_91 => absurd c_91 (by decide))
            refine w_c1 (pc' := 99) k121_98 rfl ?_
            refine w_istore (pc' := 101) (ls' := [_, _, _, _, _, _, _, _]) k121_99 rfl rfl rfl ?_
            refine w_iload (pc' := 103) k121_101 rfl rfl ?_
            refine w_if_eq (pc' := 106) k121_103 rfl (fun _ => ?_) (fun c_103 => absurd c_103 (by decide))
            refine w_c1 (pc' := 122) k121_121 rfl ?_
            exact w_reti k121_122 ⟨by unfold hst; rw [if_neg (fun z => q_88 ⟨z.2.2.2.2.1, by omega⟩)], rfl⟩
      · refine w_if_eq (pc' := 70) k121_67 rfl (fun _ => ?_) (fun c_67 => absurd c_67 (by decide))
        refine w_c1 (pc' := 99) k121_98 rfl ?_
        refine w_istore (pc' := 101) (ls' := [_, _, _, _, _, _, _, _]) k121_99 rfl rfl rfl ?_
        refine w_iload (pc' := 103) k121_101 rfl rfl ?_
        refine w_if_eq (pc' := 106) k121_103 rfl (fun _ => ?_) (fun c_103 => absurd c_103 (by decide))
        refine w_c1 (pc' := 122) k121_121 rfl ?_
        exact w_reti k121_122 ⟨by unfold hst; rw [if_neg (fun z => q_64 ⟨z.2.2.1.1, by omega⟩)], rfl⟩
  · refine w_if_eq (pc' := 46) k121_43 rfl (fun _ => ?_) (fun c_43 => absurd c_43 (by decide))
    refine w_c1 (pc' := 99) k121_98 rfl ?_
    refine w_istore (pc' := 101) (ls' := [_, _, _, _, _, _, _, _]) k121_99 rfl rfl rfl ?_
    refine w_iload (pc' := 103) k121_101 rfl rfl ?_
    refine w_if_eq (pc' := 106) k121_103 rfl (fun _ => ?_) (fun c_103 => absurd c_103 (by decide))
    refine w_c1 (pc' := 122) k121_121 rfl ?_
    exact w_reti k121_122 ⟨by unfold hst; rw [if_neg (fun z => q_40 ⟨z.1.1, by omega⟩)], rfl⟩
theorem m122 (hM : LM sh R) (ht : MT I tx len) {q : Int} (hq0 : 0 ≤ q ∧ q < len) {st : PS} (hs : TS I st) (ho : PSok st) (h0 : st.1 ≠ 0) : WPM X (d + 4) 122 [.inr (some 57), .inl (q + 1)] (sh, R, I) 0 0 (fun r h' => ∃ I', h' = (sh, R, I') ∧ SX I I' ∧ ((okFl tx len st q ∧ r = .inl (numS tx len (q + 13) 1).2 ∧ TS I' (psF tx len st q)) ∨ (¬ okFl tx len st q ∧ r = .inl (-1)))) := by
  have hlen := ht.2.1
  have hk : st.1 = 2 ∨ st.1 = 4 ∨ st.1 = 6 := by have := ho.1; omega
  have hn := ho.2.2.1
  have e6 : q + 1 + 5 = q + 6 := by omega
  have e7 : q + 1 + 6 = q + 7 := by omega
  have e12 : q + 1 + 11 = q + 12 := by omega
  have e13 : q + 1 + 12 = q + 13 := by omega
  have r1 := hst_r (tx := tx) (len := len) (p := q + 1) hk
  have r2 := hst_r (tx := tx) (len := len) (p := q + 7) hk
  have n1 := numS_r (tx := tx) (len := len) (p := q + 13) (m := 1) (by omega)
  show WP X (d + 4) 122 0 [.inr (some 57), .inl (q + 1), .inr none, .inr none, .inr none] [] (sh, R, I) 0 0 _
  refine w_aload (pc' := 1) k122_0 rfl rfl ?_
  refine w_iload (pc' := 2) k122_1 rfl rfl ?_
  refine w_callE (pc' := 5) (as := [.inr (some 57), .inl _]) k122_2 rfl rfl (co_v rfl rfl (hM.1 57 (11, 30) rfl)) (by decide) (m121 hM ht (by omega) hs.1 hk) ?_
  refine w_istore (pc' := 6) (ls' := [_, _, _, _, _]) k122_5 rfl rfl rfl ?_
  refine w_iload (pc' := 7) k122_6 rfl rfl ?_
  refine w_if_lt (pc' := 10) k122_7 rfl (fun c_7 => ?_) (fun c_7 => ?_)
  · refine w_c1 (pc' := 23) k122_22 rfl ?_
    refine w_goto k122_23 ?_
    refine w_istore (pc' := 35) (ls' := [_, _, _, _, _]) k122_34 rfl rfl rfl ?_
    refine w_iload (pc' := 36) k122_35 rfl rfl ?_
    refine w_if_lt (pc' := 39) k122_36 rfl (fun _ => ?_) (fun c_36 => absurd c_36 (by decide))
    refine w_c1 (pc' := 67) k122_66 rfl ?_
    exact w_reti k122_67 ⟨_, rfl, SX.rfl, Or.inr ⟨fun z => by have := z.1; omega, rfl⟩⟩
  · refine w_aload (pc' := 11) k122_10 rfl rfl ?_
    refine w_iload (pc' := 12) k122_11 rfl rfl ?_
    refine w_c1 (pc' := 13) k122_12 rfl ?_
    refine w_iadd (pc' := 14) k122_13 rfl (by omega) ?_
    rw [e6]
    refine w_callE (pc' := 17) (as := [.inr (some 57), .inl _]) k122_14 rfl rfl (co_v rfl rfl (hM.1 57 (11, 30) rfl)) (by decide) (m118 hM ht (by omega)) ?_
    refine w_c2 (pc' := 19) k122_17 rfl ?_
    refine w_ic_eq (pc' := 22) k122_19 rfl (fun c_19 => ?_) (fun c_19 => ?_)
    · refine w_aload (pc' := 27) k122_26 rfl rfl ?_
      refine w_iload (pc' := 28) k122_27 rfl rfl ?_
      refine w_c2 (pc' := 30) k122_28 rfl ?_
      refine w_iadd (pc' := 31) k122_30 rfl (by omega) ?_
      rw [e7]
      refine w_callE (pc' := 34) (as := [.inr (some 57), .inl _]) k122_31 rfl rfl (co_v rfl rfl (hM.1 57 (11, 30) rfl)) (by decide) (m121 hM ht (by omega) hs.1 hk) ?_
      refine w_istore (pc' := 35) (ls' := [_, _, _, _, _]) k122_34 rfl rfl rfl ?_
      refine w_iload (pc' := 36) k122_35 rfl rfl ?_
      refine w_if_lt (pc' := 39) k122_36 rfl (fun c_36 => ?_) (fun c_36 => ?_)
      · refine w_c1 (pc' := 67) k122_66 rfl ?_
        exact w_reti k122_67 ⟨_, rfl, SX.rfl, Or.inr ⟨fun z => by have := z.2.2.1; omega, rfl⟩⟩
      · refine w_iload (pc' := 40) k122_39 rfl rfl ?_
        refine w_iload (pc' := 41) k122_40 rfl rfl ?_
        refine w_ic_eq (pc' := 44) k122_41 rfl (fun c_41 => ?_) (fun c_41 => ?_)
        · refine w_c1 (pc' := 67) k122_66 rfl ?_
          exact w_reti k122_67 ⟨_, rfl, SX.rfl, Or.inr ⟨fun z => z.2.2.2.1 c_41, rfl⟩⟩
        · refine w_aload (pc' := 45) k122_44 rfl rfl ?_
          refine w_iload (pc' := 46) k122_45 rfl rfl ?_
          refine w_c2 (pc' := 48) k122_46 rfl ?_
          refine w_iadd (pc' := 49) k122_48 rfl (by omega) ?_
          rw [e12]
          refine w_callE (pc' := 52) (as := [.inr (some 57), .inl _]) k122_49 rfl rfl (co_v rfl rfl (hM.1 57 (11, 30) rfl)) (by decide) (m118 hM ht (by omega)) ?_
          refine w_c2 (pc' := 54) k122_52 rfl ?_
          refine w_ic_ne (pc' := 57) k122_54 rfl (fun c_54 => ?_) (fun c_54 => ?_)
          · refine w_c1 (pc' := 67) k122_66 rfl ?_
            exact w_reti k122_67 ⟨_, rfl, SX.rfl, Or.inr ⟨fun z => c_54 z.2.2.2.2.1, rfl⟩⟩
          · refine w_aload (pc' := 58) k122_57 rfl rfl ?_
            refine w_getI (pc' := 61) (ki := 15) (v := st.2.1) k122_58 rfl (hM.1 57 (11, 30) rfl) rfl hs.2.1 ?_
            refine w_c2 (pc' := 63) k122_61 rfl ?_
            refine w_ic_ne (pc' := 66) k122_63 rfl (fun c_63 => ?_) (fun c_63 => ?_)
            · refine w_aload (pc' := 69) k122_68 rfl rfl ?_
              refine w_iload (pc' := 70) k122_69 rfl rfl ?_
              refine w_c2 (pc' := 72) k122_70 rfl ?_
              refine w_iadd (pc' := 73) k122_72 rfl (by omega) ?_
              rw [e13]
              refine w_c1 (pc' := 74) k122_73 rfl ?_
              refine w_callI (pc' := 77) (as := [.inr (some 57), .inl _, .inl _]) k122_74 rfl rfl (co_v rfl rfl (hM.1 57 (11, 30) rfl)) (by decide) (m120 hM ht (m := 1) (by omega) (by omega) rfl) (fun z_74 h_74 hq => ?_)
              obtain ⟨e9, rfl⟩ := hq
              obtain rfl := Sum.inl.inj e9
              refine w_istore (pc' := 79) (ls' := [_, _, _, _, _]) k122_77 rfl rfl rfl ?_
              refine w_iload (pc' := 81) k122_79 rfl rfl ?_
              refine w_c1 (pc' := 82) k122_81 rfl ?_
              refine w_ic_ge (pc' := 85) k122_82 rfl (fun c_82 => ?_) (fun c_82 => ?_)
              · refine w_aload (pc' := 88) k122_87 rfl rfl ?_
                refine w_getR (pc' := 91) (v := 67) k122_88 rfl (hM.1 57 (11, 30) rfl) (hM.2 57 16 67 rfl) ?_
                refine w_c1 (pc' := 92) k122_91 rfl ?_
                refine w_aload (pc' := 93) k122_92 rfl rfl ?_
                refine w_getI (pc' := 96) (ki := 15) (v := st.2.1) k122_93 rfl (hM.1 57 (11, 30) rfl) rfl (by rw [upA_s, upF_n (by decide)]; exact hs.2.1) ?_
                refine w_imul (pc' := 97) k122_96 rfl (by omega) ?_
                refine w_iload (pc' := 98) k122_97 rfl rfl ?_
                refine w_iast (pc' := 99) k122_98 rfl (hM.1 67 (0, 64) rfl) (by omega) ?_
                refine w_aload (pc' := 100) k122_99 rfl rfl ?_
                refine w_getR (pc' := 103) (v := 67) k122_100 rfl (hM.1 57 (11, 30) rfl) (hM.2 57 16 67 rfl) ?_
                refine w_c1 (pc' := 104) k122_103 rfl ?_
                refine w_aload (pc' := 105) k122_104 rfl rfl ?_
                refine w_getI (pc' := 108) (ki := 15) (v := st.2.1) k122_105 rfl (hM.1 57 (11, 30) rfl) rfl (by rw [upA_n (by decide)]; rw [upA_s, upF_n (by decide)]; exact hs.2.1) ?_
                refine w_imul (pc' := 109) k122_108 rfl (by omega) ?_
                refine w_c1 (pc' := 110) k122_109 rfl ?_
                refine w_iadd (pc' := 111) k122_110 rfl (by omega) ?_
                refine w_iload (pc' := 112) k122_111 rfl rfl ?_
                refine w_iast (pc' := 113) k122_112 rfl (hM.1 67 (0, 64) rfl) (by omega) ?_
                refine w_aload (pc' := 114) k122_113 rfl rfl ?_
                refine w_getR (pc' := 117) (v := 67) k122_114 rfl (hM.1 57 (11, 30) rfl) (hM.2 57 16 67 rfl) ?_
                refine w_c1 (pc' := 118) k122_117 rfl ?_
                refine w_aload (pc' := 119) k122_118 rfl rfl ?_
                refine w_getI (pc' := 122) (ki := 15) (v := st.2.1) k122_119 rfl (hM.1 57 (11, 30) rfl) rfl (by rw [upA_n (by decide)]; rw [upA_n (by decide)]; rw [upA_s, upF_n (by decide)]; exact hs.2.1) ?_
                refine w_imul (pc' := 123) k122_122 rfl (by omega) ?_
                refine w_c1 (pc' := 124) k122_123 rfl ?_
                refine w_iadd (pc' := 125) k122_124 rfl (by omega) ?_
                refine w_iload (pc' := 127) k122_125 rfl rfl ?_
                refine w_iast (pc' := 128) k122_127 rfl (hM.1 67 (0, 64) rfl) (by omega) ?_
                refine w_aload (pc' := 129) k122_128 rfl rfl ?_
                refine w_getR (pc' := 132) (v := 67) k122_129 rfl (hM.1 57 (11, 30) rfl) (hM.2 57 16 67 rfl) ?_
                refine w_c1 (pc' := 133) k122_132 rfl ?_
                refine w_aload (pc' := 134) k122_133 rfl rfl ?_
                refine w_getI (pc' := 137) (ki := 15) (v := st.2.1) k122_134 rfl (hM.1 57 (11, 30) rfl) rfl (by rw [upA_n (by decide)]; rw [upA_n (by decide)]; rw [upA_n (by decide)]; rw [upA_s, upF_n (by decide)]; exact hs.2.1) ?_
                refine w_imul (pc' := 138) k122_137 rfl (by omega) ?_
                refine w_c1 (pc' := 139) k122_138 rfl ?_
                refine w_iadd (pc' := 140) k122_139 rfl (by omega) ?_
                refine w_c1 (pc' := 141) k122_140 rfl ?_
                refine w_iast (pc' := 142) k122_141 rfl (hM.1 67 (0, 64) rfl) (by omega) ?_
                refine w_aload (pc' := 143) k122_142 rfl rfl ?_
                refine w_dup (pc' := 144) k122_143 rfl ?_
                refine w_getI (pc' := 147) (ki := 15) (v := st.2.1) k122_144 rfl (hM.1 57 (11, 30) rfl) rfl (by rw [upA_n (by decide)]; rw [upA_n (by decide)]; rw [upA_n (by decide)]; rw [upA_n (by decide)]; rw [upA_s, upF_n (by decide)]; exact hs.2.1) ?_
                refine w_c1 (pc' := 148) k122_147 rfl ?_
                refine w_iadd (pc' := 149) k122_148 rfl (by omega) ?_
                refine w_putI (pc' := 152) (ki := 15) k122_149 rfl (hM.1 57 (11, 30) rfl) rfl ?_
                refine w_aload (pc' := 153) k122_152 rfl rfl ?_
                refine w_getI (pc' := 156) (ki := 28) (v := (numS tx len (q + 13) 1).2) k122_153 rfl (hM.1 57 (11, 30) rfl) rfl (by rw [upA_s, upF_n (by decide), upA_n (by decide), upA_n (by decide), upA_n (by decide), upA_n (by decide), upA_s, upF_s]) ?_
                generalize h_9 : upA _ 57 _ = I_9
                have e67 : I_9 67 = upF (upF (upF (upF (I 67) (4 * st.2.1) (hst tx len st.1 (q + 1))) (4 * st.2.1 + 1) (hst tx len st.1 (q + 7))) (4 * st.2.1 + 2) (numS tx len (q + 13) 1).1) (4 * st.2.1 + 3) 0 := by rw [← h_9, upA_n (by decide), upA_s, upA_s, upA_s, upA_s, upA_n (by decide)]
                have eo : ∀ x, x ≠ 57 → x ≠ 67 → I_9 x = I x := fun x q1 q2 => by rw [← h_9, upA_n q1, upA_n q2, upA_n q2, upA_n q2, upA_n q2, upA_n q1]
                have e57 : I_9 57 = upF (upF (I 57) 28 (numS tx len (q + 13) 1).2) 15 (st.2.1 + 1) := by rw [← h_9, upA_s, upA_n (by decide), upA_n (by decide), upA_n (by decide), upA_n (by decide), upA_s]
                have hlt : st.2.1 < 16 := by omega
                refine w_reti k122_156 ⟨_, rfl, ⟨fun a q1 q2 _ => eo a q1 q2, fun j q1 q2 q3 => by rw [e57, upF_n q2, upF_n q3]⟩, Or.inl ⟨⟨by omega, c_19, by omega, c_41, c_54, by omega, hlt⟩, rfl, ?_⟩⟩
                refine ⟨by rw [e57, upF_n (by decide), upF_n (by decide)]; exact hs.1, by rw [e57, upF_s]; rfl, fun f q1 q2 => ?_, fun l q1 q2 => by rw [eo 68 (by decide) (by decide)]; exact hs.2.2.2 l q1 q2⟩
                have q3 : f < st.2.1 + 1 := q2
                rw [e67]
                show _ = upF st.2.2.1 st.2.1 (hst tx len st.1 (q + 1)) f ∧ _ = upF st.2.2.2.1 st.2.1 (hst tx len st.1 (q + 7)) f ∧ _ = upF st.2.2.2.2.1 st.2.1 (numS tx len (q + 13) 1).1 f ∧ _ = 0
                by_cases cf : f = st.2.1
                · subst cf
                  rw [upF_s, upF_s, upF_s]
                  refine ⟨?_, ?_, ?_, ?_⟩
                  · rw [upF_n (by omega), upF_n (by omega), upF_n (by omega), upF_s]
                  · rw [upF_n (by omega), upF_n (by omega), upF_s]
                  · rw [upF_n (by omega), upF_s]
                  · rw [upF_s]
                · have h8 := hs.2.2.1 f q1 (by omega)
                  rw [upF_n cf, upF_n cf, upF_n cf]
                  refine ⟨?_, ?_, ?_, ?_⟩
                  · rw [upF_n (by omega), upF_n (by omega), upF_n (by omega), upF_n (by omega)]; exact h8.1
                  · rw [upF_n (by omega), upF_n (by omega), upF_n (by omega), upF_n (by omega)]; exact h8.2.1
                  · rw [upF_n (by omega), upF_n (by omega), upF_n (by omega), upF_n (by omega)]; exact h8.2.2.1
                  · rw [upF_n (by omega), upF_n (by omega), upF_n (by omega), upF_n (by omega)]; exact h8.2.2.2
              · refine w_c1 (pc' := 86) k122_85 rfl ?_
                exact w_reti k122_86 ⟨_, rfl, ⟨fun a q1 _ _ => by rw [upA_n q1], fun j q1 q2 q3 => by rw [upA_s, upF_n q3]⟩, Or.inr ⟨fun z => by have := z.2.2.2.2.2.1; omega, rfl⟩⟩
            · refine w_c1 (pc' := 67) k122_66 rfl ?_
              exact w_reti k122_67 ⟨_, rfl, SX.rfl, Or.inr ⟨fun z => by have := z.2.2.2.2.2.2; omega, rfl⟩⟩
    · refine w_c1 (pc' := 23) k122_22 rfl ?_
      refine w_goto k122_23 ?_
      refine w_istore (pc' := 35) (ls' := [_, _, _, _, _]) k122_34 rfl rfl rfl ?_
      refine w_iload (pc' := 36) k122_35 rfl rfl ?_
      refine w_if_lt (pc' := 39) k122_36 rfl (fun _ => ?_) (fun c_36 => absurd c_36 (by decide))
      refine w_c1 (pc' := 67) k122_66 rfl ?_
      exact w_reti k122_67 ⟨_, rfl, SX.rfl, Or.inr ⟨fun z => c_19 z.2.1, rfl⟩⟩
theorem m123 (hM : LM sh R) (ht : MT I tx len) {q c : Int} (hq0 : 0 ≤ q ∧ q < len) (hc : lt9 tx len q = c) {st : PS} (hs : TS I st) (ho : PSok st) : WPM X (d + 5) 123 [.inr (some 57), .inl c, .inl (q + 1)] (sh, R, I) 0 0 (fun r h' => ∃ I', h' = (sh, R, I') ∧ SX I I' ∧ ((∃ st' e, r = .inl e ∧ 0 ≤ e ∧ itemQ tx len st q st' e ∧ TS I' st') ∨ (r = .inl (-1) ∧ ∀ st' e, ¬ itemQ tx len st q st' e))) := by
  have hlen := ht.2.1
  have hk : st.1 = 0 ∨ st.1 = 2 ∨ st.1 = 4 ∨ st.1 = 6 := ho.1
  have h14 : I 57 14 = st.1 := hs.1
  have n1 := numS_r (tx := tx) (len := len) (p := q + 1) (m := 2) (by omega)
  have n2 := numS_r (tx := tx) (len := len) (p := q + 13) (m := 1) (by omega)
  have hcu : 0 ≤ st.1 * st.1 * st.1 / 2 ∧ st.1 * st.1 * st.1 / 2 ≤ 108 ∧ (0 ≤ st.1 * st.1 ∧ st.1 * st.1 ≤ 36) ∧ (0 ≤ st.1 * st.1 * st.1 ∧ st.1 * st.1 * st.1 ≤ 216) := by rcases hk with e | e | e | e <;> rw [e] <;> decide
  show WP X (d + 5) 123 0 [.inr (some 57), .inl c, .inl (q + 1), .inr none] [] (sh, R, I) 0 0 _
  refine w_iload (pc' := 1) k123_0 rfl rfl ?_
  refine w_c2 (pc' := 3) k123_1 rfl ?_
  refine w_ic_ne (pc' := 6) k123_3 rfl (fun c_3 => ?_) (fun c_3 => ?_)
  · refine w_aload (pc' := 47) k123_46 rfl rfl ?_
    refine w_getI (pc' := 50) (ki := 14) (v := st.1) k123_47 rfl (hM.1 57 (11, 30) rfl) rfl (by first | exact h14 | (rw [upA_s, upF_n (by decide)]; exact h14)) ?_
    refine w_if_ne (pc' := 53) k123_50 rfl (fun c_50 => ?_) (fun c_50 => ?_)
    · refine w_iload (pc' := 56) k123_55 rfl rfl ?_
      refine w_c2 (pc' := 58) k123_56 rfl ?_
      refine w_ic_ne (pc' := 61) k123_58 rfl (fun c_58 => ?_) (fun c_58 => ?_)
      · refine w_iload (pc' := 68) k123_67 rfl rfl ?_
        refine w_c2 (pc' := 70) k123_68 rfl ?_
        refine w_ic_eq (pc' := 73) k123_70 rfl (fun c_70 => ?_) (fun c_70 => ?_)
        · refine w_aload (pc' := 76) k123_75 rfl rfl ?_
          refine w_iload (pc' := 77) k123_76 rfl rfl ?_
          refine w_c1 (pc' := 78) k123_77 rfl ?_
          refine w_callI (pc' := 81) (as := [.inr (some 57), .inl _, .inl _]) k123_78 rfl rfl (co_v rfl rfl (hM.1 57 (11, 30) rfl)) (by decide) (m120 hM ht (m := 2) (by omega) (by omega) rfl) (fun z_78 h_78 hq => ?_)
          obtain ⟨e9, rfl⟩ := hq
          obtain rfl := Sum.inl.inj e9
          refine w_istore (pc' := 82) (ls' := [_, _, _, _]) k123_81 rfl rfl rfl ?_
          refine w_iload (pc' := 83) k123_82 rfl rfl ?_
          refine w_if_lt (pc' := 86) k123_83 rfl (fun c_83 => ?_) (fun c_83 => ?_)
          · refine w_c1 (pc' := 117) k123_116 rfl ?_
            exact w_reti k123_117 ⟨_, rfl, ⟨fun a q1 _ _ => by rw [upA_n q1], fun j q1 q2 q3 => by rw [upA_s, upF_n q3]⟩, Or.inr ⟨rfl, fun st' e z => by rcases z with ⟨y1, y2, _⟩ | ⟨y1, y2, y3, _⟩ | ⟨y1, y2, y3, _⟩; (exact absurd y1 (by omega)); (exact absurd y1 (by omega)); (have := y3.1; omega)⟩⟩
          · refine w_iload (pc' := 87) k123_86 rfl rfl ?_
            refine w_aload (pc' := 88) k123_87 rfl rfl ?_
            refine w_getI (pc' := 91) (ki := 14) (v := st.1) k123_88 rfl (hM.1 57 (11, 30) rfl) rfl (by first | exact h14 | (rw [upA_s, upF_n (by decide)]; exact h14)) ?_
            refine w_aload (pc' := 92) k123_91 rfl rfl ?_
            refine w_getI (pc' := 95) (ki := 14) (v := st.1) k123_92 rfl (hM.1 57 (11, 30) rfl) rfl (by first | exact h14 | (rw [upA_s, upF_n (by decide)]; exact h14)) ?_
            refine w_imul (pc' := 96) k123_95 rfl (by omega) ?_
            refine w_aload (pc' := 97) k123_96 rfl rfl ?_
            refine w_getI (pc' := 100) (ki := 14) (v := st.1) k123_97 rfl (hM.1 57 (11, 30) rfl) rfl (by first | exact h14 | (rw [upA_s, upF_n (by decide)]; exact h14)) ?_
            refine w_imul (pc' := 101) k123_100 rfl (by omega) ?_
            refine w_c1 (pc' := 102) k123_101 rfl ?_
            refine w_idiv (pc' := 103) k123_102 rfl (by omega) ?_
            refine w_ic_ge (pc' := 106) k123_103 rfl (fun c_103 => ?_) (fun c_103 => ?_)
            · refine w_c1 (pc' := 117) k123_116 rfl ?_
              exact w_reti k123_117 ⟨_, rfl, ⟨fun a q1 _ _ => by rw [upA_n q1], fun j q1 q2 q3 => by rw [upA_s, upF_n q3]⟩, Or.inr ⟨rfl, fun st' e z => by rcases z with ⟨y1, y2, _⟩ | ⟨y1, y2, y3, _⟩ | ⟨y1, y2, y3, _⟩; (exact absurd y1 (by omega)); (exact absurd y1 (by omega)); (have := y3.2.1; omega)⟩⟩
            · refine w_aload (pc' := 107) k123_106 rfl rfl ?_
              refine w_getR (pc' := 110) (v := 68) k123_107 rfl (hM.1 57 (11, 30) rfl) (hM.2 57 17 68 rfl) ?_
              refine w_iload (pc' := 111) k123_110 rfl rfl ?_
              refine w_iald (pc' := 112) (v := st.2.2.2.2.2 (numS tx len (q + 1) 2).1) k123_111 rfl (hM.1 68 (0, 108) rfl) (by omega) (by rw [upA_n (by decide)]; exact hs.2.2.2 _ (by omega) (by omega)) ?_
              refine w_c1 (pc' := 113) k123_112 rfl ?_
              refine w_ic_ne (pc' := 116) k123_113 rfl (fun c_113 => ?_) (fun c_113 => ?_)
              · refine w_aload (pc' := 119) k123_118 rfl rfl ?_
                refine w_getR (pc' := 122) (v := 68) k123_119 rfl (hM.1 57 (11, 30) rfl) (hM.2 57 17 68 rfl) ?_
                refine w_iload (pc' := 123) k123_122 rfl rfl ?_
                refine w_c1 (pc' := 124) k123_123 rfl ?_
                refine w_iast (pc' := 125) k123_124 rfl (hM.1 68 (0, 108) rfl) (by omega) ?_
                refine w_aload (pc' := 126) k123_125 rfl rfl ?_
                refine w_getI (pc' := 129) (ki := 28) (v := (numS tx len (q + 1) 2).2) k123_126 rfl (hM.1 57 (11, 30) rfl) rfl (by rw [upA_n (by decide), upA_s, upF_s]) ?_
                refine w_reti k123_129 ⟨_, rfl, ⟨fun a q1 _ q3 => by rw [upA_n q3, upA_n q1], fun j q1 q2 q3 => by rw [upA_n (by decide), upA_s, upF_n q3]⟩, Or.inl ⟨psX tx len st q, _, rfl, by omega, Or.inr (Or.inr ⟨by omega, c_50, ⟨by omega, by omega, c_113⟩, rfl, rfl⟩), ?_⟩⟩
                refine ⟨by rw [upA_n (by decide), upA_s, upF_n (by decide)]; exact h14, by rw [upA_n (by decide), upA_s, upF_n (by decide)]; exact hs.2.1, fun f q1 q2 => by rw [upA_n (by decide), upA_n (by decide)]; exact hs.2.2.1 f q1 q2, fun l q1 q2 => ?_⟩
                rw [upA_s]
                show _ = upF st.2.2.2.2.2 (numS tx len (q + 1) 2).1 1 l
                by_cases cl : l = (numS tx len (q + 1) 2).1
                · rw [cl, upF_s, upF_s]
                · rw [upF_n cl, upF_n cl, upA_n (by decide)]; exact hs.2.2.2 l q1 q2
              · refine w_c1 (pc' := 117) k123_116 rfl ?_
                exact w_reti k123_117 ⟨_, rfl, ⟨fun a q1 _ _ => by rw [upA_n q1], fun j q1 q2 q3 => by rw [upA_s, upF_n q3]⟩, Or.inr ⟨rfl, fun st' e z => by rcases z with ⟨y1, y2, _⟩ | ⟨y1, y2, y3, _⟩ | ⟨y1, y2, y3, _⟩; (exact absurd y1 (by omega)); (exact absurd y1 (by omega)); (exact y3.2.2 c_113)⟩⟩
        · refine w_c1 (pc' := 74) k123_73 rfl ?_
          exact w_reti k123_74 ⟨_, rfl, SX.rfl, Or.inr ⟨rfl, fun st' e z => by rcases z with ⟨y1, y2, _⟩ | ⟨y1, y2, y3, _⟩ | ⟨y1, y2, y3, _⟩; (exact absurd y1 (by omega)); (exact absurd y1 (by omega)); (exact absurd y1 (by omega))⟩⟩
      · refine w_aload (pc' := 62) k123_61 rfl rfl ?_
        refine w_iload (pc' := 63) k123_62 rfl rfl ?_
        refine w_callI (pc' := 66) (as := [.inr (some 57), .inl _]) k123_63 rfl rfl (co_v rfl rfl (hM.1 57 (11, 30) rfl)) (by decide) (m122 hM ht hq0 hs ho c_50) (fun z_63 h_63 hq => ?_)
        obtain ⟨I_1, rfl, sx, hq⟩ := hq
        rcases hq with ⟨k1, k2, k3⟩ | ⟨k1, k2⟩
        · exact w_reti k123_66 ⟨_, rfl, sx, Or.inl ⟨_, _, k2, by omega, Or.inr (Or.inl ⟨by omega, c_50, k1, rfl, rfl⟩), k3⟩⟩
        · exact w_reti k123_66 ⟨_, rfl, sx, Or.inr ⟨k2, fun st' e z => by rcases z with ⟨y1, y2, _⟩ | ⟨y1, y2, y3, _⟩ | ⟨y1, y2, y3, _⟩; (exact absurd y1 (by omega)); (exact k1 y3); (exact absurd y1 (by omega))⟩⟩
    · refine w_c1 (pc' := 54) k123_53 rfl ?_
      exact w_reti k123_54 ⟨_, rfl, SX.rfl, Or.inr ⟨rfl, fun st' e z => by rcases z with ⟨y1, y2, _⟩ | ⟨y1, y2, y3, _⟩ | ⟨y1, y2, y3, _⟩; (exact absurd y1 (by omega)); (exact y2 c_50); (exact y2 c_50)⟩⟩
  · refine w_aload (pc' := 7) k123_6 rfl rfl ?_
    refine w_iload (pc' := 8) k123_7 rfl rfl ?_
    refine w_callE (pc' := 11) (as := [.inr (some 57), .inl _]) k123_8 rfl rfl (co_v rfl rfl (hM.1 57 (11, 30) rfl)) (by decide) (m119 hM ht (by omega)) ?_
    refine w_istore (pc' := 12) (ls' := [_, _, _, _]) k123_11 rfl rfl rfl ?_
    refine w_aload (pc' := 13) k123_12 rfl rfl ?_
    refine w_getI (pc' := 16) (ki := 14) (v := st.1) k123_13 rfl (hM.1 57 (11, 30) rfl) rfl (by first | exact h14 | (rw [upA_s, upF_n (by decide)]; exact h14)) ?_
    refine w_if_gt (pc' := 19) k123_16 rfl (fun c_16 => ?_) (fun c_16 => ?_)
    · refine w_c1 (pc' := 36) k123_35 rfl ?_
      exact w_reti k123_36 ⟨_, rfl, SX.rfl, Or.inr ⟨rfl, fun st' e z => by rcases z with ⟨y1, y2, _⟩ | ⟨y1, y2, y3, _⟩ | ⟨y1, y2, y3, _⟩; (have := y2.1; have := y2.2; omega); (exact absurd y1 (by omega)); (exact absurd y1 (by omega))⟩⟩
    · refine w_iload (pc' := 20) k123_19 rfl rfl ?_
      refine w_c1 (pc' := 21) k123_20 rfl ?_
      refine w_ic_eq (pc' := 24) k123_21 rfl (fun c_21 => ?_) (fun c_21 => ?_)
      · refine w_aload (pc' := 38) k123_37 rfl rfl ?_
        refine w_iload (pc' := 39) k123_38 rfl rfl ?_
        refine w_putI (pc' := 42) (ki := 14) k123_39 rfl (hM.1 57 (11, 30) rfl) rfl ?_
        refine w_iload (pc' := 43) k123_42 rfl rfl ?_
        refine w_c1 (pc' := 44) k123_43 rfl ?_
        refine w_iadd (pc' := 45) k123_44 rfl (by omega) ?_
        refine w_reti k123_45 ⟨_, rfl, ⟨fun a q1 _ _ => by rw [upA_n q1], fun j q1 q2 q3 => by rw [upA_s, upF_n q1]⟩, Or.inl ⟨(fg tx len (q + 1), st.2), _, rfl, by omega, Or.inl ⟨by omega, ⟨by omega, by omega⟩, rfl, by omega⟩, ?_⟩⟩
        exact ⟨by rw [upA_s, upF_s], by rw [upA_s, upF_n (by decide)]; exact hs.2.1, fun f q1 q2 => by rw [upA_n (by decide)]; exact hs.2.2.1 f q1 q2, fun l q1 q2 => by rw [upA_n (by decide)]; exact hs.2.2.2 l q1 q2⟩
      · refine w_iload (pc' := 25) k123_24 rfl rfl ?_
        refine w_c1 (pc' := 26) k123_25 rfl ?_
        refine w_ic_eq (pc' := 29) k123_26 rfl (fun c_26 => ?_) (fun c_26 => ?_)
        · refine w_aload (pc' := 38) k123_37 rfl rfl ?_
          refine w_iload (pc' := 39) k123_38 rfl rfl ?_
          refine w_putI (pc' := 42) (ki := 14) k123_39 rfl (hM.1 57 (11, 30) rfl) rfl ?_
          refine w_iload (pc' := 43) k123_42 rfl rfl ?_
          refine w_c1 (pc' := 44) k123_43 rfl ?_
          refine w_iadd (pc' := 45) k123_44 rfl (by omega) ?_
          refine w_reti k123_45 ⟨_, rfl, ⟨fun a q1 _ _ => by rw [upA_n q1], fun j q1 q2 q3 => by rw [upA_s, upF_n q1]⟩, Or.inl ⟨(fg tx len (q + 1), st.2), _, rfl, by omega, Or.inl ⟨by omega, ⟨by omega, by omega⟩, rfl, by omega⟩, ?_⟩⟩
          exact ⟨by rw [upA_s, upF_s], by rw [upA_s, upF_n (by decide)]; exact hs.2.1, fun f q1 q2 => by rw [upA_n (by decide)]; exact hs.2.2.1 f q1 q2, fun l q1 q2 => by rw [upA_n (by decide)]; exact hs.2.2.2 l q1 q2⟩
        · refine w_iload (pc' := 30) k123_29 rfl rfl ?_
          refine w_c2 (pc' := 32) k123_30 rfl ?_
          refine w_ic_eq (pc' := 35) k123_32 rfl (fun c_32 => ?_) (fun c_32 => ?_)
          · refine w_aload (pc' := 38) k123_37 rfl rfl ?_
            refine w_iload (pc' := 39) k123_38 rfl rfl ?_
            refine w_putI (pc' := 42) (ki := 14) k123_39 rfl (hM.1 57 (11, 30) rfl) rfl ?_
            refine w_iload (pc' := 43) k123_42 rfl rfl ?_
            refine w_c1 (pc' := 44) k123_43 rfl ?_
            refine w_iadd (pc' := 45) k123_44 rfl (by omega) ?_
            refine w_reti k123_45 ⟨_, rfl, ⟨fun a q1 _ _ => by rw [upA_n q1], fun j q1 q2 q3 => by rw [upA_s, upF_n q1]⟩, Or.inl ⟨(fg tx len (q + 1), st.2), _, rfl, by omega, Or.inl ⟨by omega, ⟨by omega, by omega⟩, rfl, by omega⟩, ?_⟩⟩
            exact ⟨by rw [upA_s, upF_s], by rw [upA_s, upF_n (by decide)]; exact hs.2.1, fun f q1 q2 => by rw [upA_n (by decide)]; exact hs.2.2.1 f q1 q2, fun l q1 q2 => by rw [upA_n (by decide)]; exact hs.2.2.2 l q1 q2⟩
          · refine w_c1 (pc' := 36) k123_35 rfl ?_
            exact w_reti k123_36 ⟨_, rfl, SX.rfl, Or.inr ⟨rfl, fun st' e z => by rcases z with ⟨y1, y2, _⟩ | ⟨y1, y2, y3, _⟩ | ⟨y1, y2, y3, _⟩; (have := y2.1; have := y2.2; omega); (exact absurd y1 (by omega)); (exact absurd y1 (by omega))⟩⟩
theorem m124l (hM : LM sh R) (ht : MT I tx len) : ∀ (k : Nat) (q : Int) (v2 : VV) (st : PS) (I1 : Nat → Int → Int), 0 ≤ q → (len - q < (k : Int) ∧ 0 < k) → SX I I1 → TS I1 st → PSok st → WP X (d + 6) 124 33 [.inr (some 57), .inl q, v2] [] (sh, R, I1) 0 0 (fun r h' => ∃ v stE I', r = .inl v ∧ h' = (sh, R, I') ∧ SX I I' ∧ readR tx len k st q v stE ∧ (v = -4 → TS I' stE)) := by
  have hlen := ht.2.1
  intro k
  induction k with
  | zero =>
    intro q v2 st I1 h0 hk sx hs ho
    exact absurd hk.2 (by omega)
  | succ k ih =>
    intro q v2 st I1 h0 hk sx hs ho
    have ht1 := sx.mt ht
    have h9 : I1 57 0 = len := ht1.1
    refine w_iload (pc' := 34) k124_33 rfl rfl ?_
    refine w_aload (pc' := 35) k124_34 rfl rfl ?_
    refine w_getI (pc' := 38) (ki := 0) (v := len) k124_35 rfl (hM.1 57 (11, 30) rfl) rfl h9 ?_
    refine w_ic_ge (pc' := 41) k124_38 rfl (fun c_38 => ?_) (fun c_38 => ?_)
    · refine w_c2 (pc' := 80) k124_78 rfl ?_
      exact w_reti k124_80 ⟨_, st, _, rfl, rfl, sx, Or.inl ⟨by omega, rfl, rfl⟩, fun _ => hs⟩
    · refine w_aload (pc' := 42) k124_41 rfl rfl ?_
      refine w_aload (pc' := 43) k124_42 rfl rfl ?_
      refine w_getR (pc' := 46) (v := 58) k124_43 rfl (hM.1 57 (11, 30) rfl) (hM.2 57 1 58 rfl) ?_
      refine w_iload (pc' := 47) k124_46 rfl rfl ?_
      refine w_iald (pc' := 48) (v := tx q) k124_47 rfl (hM.1 58 (0, 200) rfl) (by omega) ((ht1.2.2 q h0 (by omega)).1) ?_
      refine w_iload (pc' := 49) k124_48 rfl rfl ?_
      refine w_c1 (pc' := 50) k124_49 rfl ?_
      refine w_iadd (pc' := 51) k124_50 rfl (by omega) ?_
      refine w_callI (pc' := 54) (as := [.inr (some 57), .inl _, .inl _]) k124_51 rfl rfl (co_v rfl rfl (hM.1 57 (11, 30) rfl)) (by decide) (m123 hM ht1 ⟨h0, by omega⟩ (by unfold lt9; rw [if_pos (by omega)]) hs ho) (fun z_51 h_51 hq => ?_)
      obtain ⟨I_2, rfl, sx2, hq⟩ := hq
      have ht2 := (sx.tr sx2).mt ht
      rcases hq with ⟨st2, e2, k1, k2, k3, k4⟩ | ⟨k1, k2⟩
      · obtain rfl := Sum.inl.inj k1
        refine w_istore (pc' := 55) (ls' := [_, _, _]) k124_54 rfl rfl rfl ?_
        refine w_iload (pc' := 56) k124_55 rfl rfl ?_
        refine w_if_lt (pc' := 59) k124_56 rfl (fun c_56 => absurd c_56 (by omega)) (fun c_56 => ?_)
        refine w_aload (pc' := 60) k124_59 rfl rfl ?_
        refine w_iload (pc' := 61) k124_60 rfl rfl ?_
        refine w_callE (pc' := 64) (as := [.inr (some 57), .inl _]) k124_61 rfl rfl (co_v rfl rfl (hM.1 57 (11, 30) rfl)) (by decide) (m118 hM ht2 k2) ?_
        refine w_c2 (pc' := 66) k124_64 rfl ?_
        refine w_ic_eq (pc' := 69) k124_66 rfl (fun c_66 => ?_) (fun c_66 => ?_)
        · have hlt := lt_in c_66 (by decide)
          refine w_iload (pc' := 72) k124_71 rfl rfl ?_
          refine w_c1 (pc' := 73) k124_72 rfl ?_
          refine w_iadd (pc' := 74) k124_73 rfl (by omega) ?_
          refine w_istore (pc' := 75) (ls' := [_, _, _]) k124_74 rfl rfl rfl ?_
          refine w_goto k124_75 ?_
          have hi := itemQ_i k3 c_66
          have hg := itemR_go hi
          refine WP.mono (ih _ _ st2 _ (by omega) (by omega) (sx.tr sx2) k4 (item_ok ho hi)) ?_
          rintro r h' ⟨v, stE, I', rfl, rfl, g1, g2, g3⟩
          exact ⟨v, stE, I', rfl, rfl, g1, Or.inr (Or.inr ⟨c_38, st2, _, hi, g2⟩), g3⟩
        · refine w_iload (pc' := 70) k124_69 rfl rfl ?_
          exact w_reti k124_70 ⟨_, st, _, rfl, rfl, sx.tr sx2, Or.inr (Or.inl ⟨c_38, fun st' p' z => by obtain ⟨y1, y2⟩ := itemR_q z; obtain ⟨_, rfl⟩ := itemQ_fn k3 y1; exact c_66 y2, rfl⟩), fun z => absurd z (by omega)⟩
      · obtain rfl := Sum.inl.inj k1
        refine w_istore (pc' := 55) (ls' := [_, _, _]) k124_54 rfl rfl rfl ?_
        refine w_iload (pc' := 56) k124_55 rfl rfl ?_
        refine w_if_lt (pc' := 59) k124_56 rfl (fun _ => ?_) (fun c_56 => absurd c_56 (by decide))
        refine w_iload (pc' := 70) k124_69 rfl rfl ?_
        exact w_reti k124_70 ⟨_, st, _, rfl, rfl, sx.tr sx2, Or.inr (Or.inl ⟨c_38, fun st' p' z => k2 _ _ (itemR_q z).1, rfl⟩), fun z => absurd z (by omega)⟩
theorem k124 (hM : LM sh R) {Q : VV → Hp → Prop} {v2 : VV} (C : ∀ (I1 : Nat → Int → Int) (v1 : VV), (∀ a, a ≠ 68 → I1 a = I a) → (∀ l, 0 ≤ l → l < 108 → I1 68 l = 0) → WP X (d + 6) 124 31 [.inr (some 57), v1, v2] [] (sh, R, I1) 0 0 Q) : ∀ (k m : Nat) (i : Int) (I1 : Nat → Int → Int), m + k = 108 → i = (m : Int) → (∀ a, a ≠ 68 → I1 a = I a) → (∀ l : Int, 0 ≤ l → l < (m : Int) → I1 68 l = 0) → WP X (d + 6) 124 12 [.inr (some 57), .inl i, v2] [] (sh, R, I1) 0 0 Q := by
  intro k
  induction k with
  | zero =>
    rintro m i I1 hk rfl h1 h2
    refine w_iload (pc' := 13) k124_12 rfl rfl ?_
    refine w_c2 (pc' := 15) k124_13 rfl ?_
    refine w_ic_ge (pc' := 18) k124_15 rfl (fun c_15 => ?_) (fun c_15 => absurd c_15 (by omega))
    exact C _ _ h1 (fun l q1 q2 => h2 l q1 (by omega))
  | succ k ih =>
    rintro m i I1 hk rfl h1 h2
    refine w_iload (pc' := 13) k124_12 rfl rfl ?_
    refine w_c2 (pc' := 15) k124_13 rfl ?_
    refine w_ic_ge (pc' := 18) k124_15 rfl (fun c_15 => absurd c_15 (by omega)) (fun c_15 => ?_)
    refine w_aload (pc' := 19) k124_18 rfl rfl ?_
    refine w_getR (pc' := 22) (v := 68) k124_19 rfl (hM.1 57 (11, 30) rfl) (hM.2 57 17 68 rfl) ?_
    refine w_iload (pc' := 23) k124_22 rfl rfl ?_
    refine w_c1 (pc' := 24) k124_23 rfl ?_
    refine w_iast (pc' := 25) k124_24 rfl (hM.1 68 (0, 108) rfl) (by omega) ?_
    refine w_iinc (pc' := 28) (ls' := [_, _, _]) k124_25 rfl rfl (by omega) rfl ?_
    refine w_goto k124_28 ?_
    refine ih (m + 1) _ _ (by omega) (by omega) (fun a q => by rw [upA_n q, h1 a q]) (fun l q1 q2 => ?_)
    rw [upA_s]
    by_cases c : l = m
    · subst c; rw [upF_s]
    · rw [upF_n c]; exact h2 l q1 (by omega)
theorem m124 (hM : LM sh R) (ht : MT I tx len) : WPM X (d + 6) 124 [.inr (some 57)] (sh, R, I) 0 0 (fun r h' => ∃ v stE I', r = .inl v ∧ h' = (sh, R, I') ∧ SX I I' ∧ readR tx len 300 ps0 0 v stE ∧ (v = -4 → TS I' stE)) := by
  have hlen := ht.2.1
  show WP X (d + 6) 124 0 [.inr (some 57), .inr none, .inr none] [] (sh, R, I) 0 0 _
  refine w_aload (pc' := 1) k124_0 rfl rfl ?_
  refine w_c1 (pc' := 2) k124_1 rfl ?_
  refine w_putI (pc' := 5) (ki := 14) k124_2 rfl (hM.1 57 (11, 30) rfl) rfl ?_
  refine w_aload (pc' := 6) k124_5 rfl rfl ?_
  refine w_c1 (pc' := 7) k124_6 rfl ?_
  refine w_putI (pc' := 10) (ki := 15) k124_7 rfl (hM.1 57 (11, 30) rfl) rfl ?_
  refine w_c1 (pc' := 11) k124_10 rfl ?_
  refine w_istore (pc' := 12) (ls' := [_, _, _]) k124_11 rfl rfl rfl ?_
  refine k124 hM (fun I1 v1 e1 e2 => ?_) 108 0 _ _ (by omega) rfl (fun _ _ => rfl) (fun l q1 q2 => absurd q1 (by omega))
  refine w_c1 (pc' := 32) k124_31 rfl ?_
  refine w_istore (pc' := 33) (ls' := [_, _, _]) k124_32 rfl rfl rfl ?_
  refine m124l hM ht 300 0 _ ps0 _ (by omega) (by omega) ⟨fun a q1 _ q3 => by rw [e1 a q3, upA_n q1, upA_n q1], fun j q1 q2 _ => by rw [e1 57 (by decide), upA_s, upF_n q2, upA_s, upF_n q1]⟩ ⟨by rw [e1 57 (by decide), upA_s, upF_n (by decide), upA_s, upF_s]; rfl, by rw [e1 57 (by decide), upA_s, upF_s]; rfl, fun f q1 q2 => absurd (show f < 0 from q2) (by omega), fun l q1 q2 => e2 l q1 q2⟩ ?_
  exact ⟨Or.inl rfl, fun _ => rfl, ⟨Int.le_refl _, by decide⟩, fun f q1 q2 => absurd q1 (by have q2 : f < 0 := q2; omega), fun l => Or.inl rfl⟩
theorem m127 (hM : LM sh R) (ht : MT I tx len) : WPM X (d + 7) 127 [.inr (some 57)] (sh, R, I) 0 0 (fun r h' => ∃ v stE I', r = .inl v ∧ h' = (sh, R, I') ∧ SX I I' ∧ readR tx len 300 ps0 0 v stE ∧ (v = -4 → TS I' stE)) := by
  show WP X (d + 7) 127 0 [.inr (some 57)] [] (sh, R, I) 0 0 _
  refine w_aload (pc' := 1) k127_0 rfl rfl ?_
  refine w_callI (pc' := 4) (as := [.inr (some 57)]) k127_1 rfl rfl (co_v rfl rfl (hM.1 57 (11, 30) rfl)) (by decide) (m124 hM ht) (fun z_1 h_1 hq => ?_)
  exact w_reti k127_4 hq
end M87
