/-! ===== CLASS: State made for a shape, all told ===== -/
section C52
variable {X : Nat × (Int → Int)} {d : Nat} {sh : List (Nat × Nat)} {R : Nat → Nat → Option Nat} {I : Nat → Int → Int} {s g_s M_s : Nat} {K H E HO S L B : Int} {A : AS}
def TA (I I1 : Nat → Int → Int) (s g : Nat) (S l n : Int) : Prop := (∀ a, a ≠ g → I1 a = I a) ∧ ∀ n' l', 0 ≤ n' → n' < S → 0 ≤ l' → (l' < l ∨ (l' = l ∧ n' < n)) → I1 g (l' * S + n') = I (s + 1) l'

theorem m54i (hL : LC sh R) (hK : KP K H E HO S L) (h_s : isS s) (m_s : R s 6 = some g_s) (n_s : sh[g_s]? = some (0, M_s)) (hg : 53 ≤ g_s) (hLS : L * S ≤ M_s) (h7 : I s 7 = L) (h8 : I s 8 = S) {l : Int} (hl : 0 ≤ l ∧ l < L) {Q : VV → Hp → Prop} (kk : ∀ I2, TA I I2 s g_s S (l + 1) 0 → WP X (d + 1) 54 45 [.inr (some s), .inl l, .inl S] [] (sh, R, I2) 0 0 Q) : ∀ (k : Nat) (n : Int) (I1 : Nat → Int → Int), n + k = S → 0 ≤ n → TA I I1 s g_s S l n → WP X (d + 1) 54 12 [.inr (some s), .inl l, .inl n] [] (sh, R, I1) 0 0 Q := by
  have hr := hK.r
  have hsr := h_s.r
  intro k
  induction k with
  | zero =>
    rintro n I1 hk hn hT
    have e : n = S := by omega
    subst e
    refine w_iload (pc' := 13) k54_12 rfl rfl ?_
    refine w_aload (pc' := 14) k54_13 rfl rfl ?_
    refine w_getI (pc' := 17) (ki := 8) (v := n) k54_14 rfl (hL.s0 h_s) rfl (by rw [hT.1 s (by omega)]; exact h8) ?_
    refine w_ic_ge (pc' := 20) k54_17 rfl (fun c_17 => ?_) (fun c_17 => absurd c_17 (by omega))
    exact kk _ ⟨hT.1, fun n' l' q1 q2 q3 q4 => hT.2 n' l' q1 q2 q3 (by omega)⟩
  | succ k ih =>
    rintro n I1 hk hn hT
    have hx := ix_r hK hl (n := n) ⟨hn, by omega⟩
    refine w_iload (pc' := 13) k54_12 rfl rfl ?_
    refine w_aload (pc' := 14) k54_13 rfl rfl ?_
    refine w_getI (pc' := 17) (ki := 8) (v := S) k54_14 rfl (hL.s0 h_s) rfl (by rw [hT.1 s (by omega)]; exact h8) ?_
    refine w_ic_ge (pc' := 20) k54_17 rfl (fun c_17 => absurd c_17 (by omega)) (fun c_17 => ?_)
    refine w_aload (pc' := 21) k54_20 rfl rfl ?_
    refine w_getR (pc' := 24) (v := g_s) k54_21 rfl (hL.s0 h_s) m_s ?_
    refine w_iload (pc' := 25) k54_24 rfl rfl ?_
    refine w_aload (pc' := 26) k54_25 rfl rfl ?_
    refine w_getI (pc' := 29) (ki := 8) (v := S) k54_26 rfl (hL.s0 h_s) rfl (by rw [hT.1 s (by omega)]; exact h8) ?_
    refine w_imul (pc' := 30) k54_29 rfl (by omega) ?_
    refine w_iload (pc' := 31) k54_30 rfl rfl ?_
    refine w_iadd (pc' := 32) k54_31 rfl (by omega) ?_
    refine w_aload (pc' := 33) k54_32 rfl rfl ?_
    refine w_getR (pc' := 36) (v := (s + 1)) k54_33 rfl (hL.s0 h_s) (hL.r0 h_s) ?_
    refine w_iload (pc' := 37) k54_36 rfl rfl ?_
    refine w_iald (pc' := 38) (v := I (s + 1) l) k54_37 rfl (hL.s1 h_s) (by omega) (by rw [hT.1 (s + 1) (by omega)]) ?_
    refine w_iast (pc' := 39) k54_38 rfl n_s (by omega) ?_
    refine w_iinc (pc' := 42) (ls' := [_, _, _]) k54_39 rfl rfl (by omega) rfl ?_
    refine w_goto k54_42 ?_
    refine ih (n + 1) _ (by omega) (by omega) ⟨fun a q => (upA_n q).trans (hT.1 a q), fun n' l' q1 q2 q3 q4 => ?_⟩
    rw [upA_s]
    by_cases e : l' * S + n' = l * S + n
    · have e2 := ix_inj hK ⟨q1, q2⟩ ⟨hn, by omega⟩ e
      rw [e, upF_s, e2.1]
    · rw [upF_n e]
      refine hT.2 n' l' q1 q2 q3 ?_
      rcases q4 with q4 | ⟨q4, q5⟩
      · exact Or.inl q4
      · refine Or.inr ⟨q4, ?_⟩
        have : n' ≠ n := fun e3 => e (by rw [q4, e3])
        omega
theorem m54o (hL : LC sh R) (hK : KP K H E HO S L) (h_s : isS s) (m_s : R s 6 = some g_s) (n_s : sh[g_s]? = some (0, M_s)) (hg : 53 ≤ g_s) (hLS : L * S ≤ M_s) (h7 : I s 7 = L) (h8 : I s 8 = S) {Q : VV → Hp → Prop} (kk : ∀ v1 v2 I2, TA I I2 s g_s S L 0 → WP X (d + 1) 54 51 [.inr (some s), v1, v2] [] (sh, R, I2) 0 0 Q) : ∀ (k : Nat) (l : Int) (v2 : VV) (I1 : Nat → Int → Int), l + k = L → 0 ≤ l → TA I I1 s g_s S l 0 → WP X (d + 1) 54 2 [.inr (some s), .inl l, v2] [] (sh, R, I1) 0 0 Q := by
  have hr := hK.r
  have hsr := h_s.r
  intro k
  induction k with
  | zero =>
    rintro l v2 I1 hk hl hT
    have e : l = L := by omega
    subst e
    refine w_iload (pc' := 3) k54_2 rfl rfl ?_
    refine w_aload (pc' := 4) k54_3 rfl rfl ?_
    refine w_getI (pc' := 7) (ki := 7) (v := l) k54_4 rfl (hL.s0 h_s) rfl (by rw [hT.1 s (by omega)]; exact h7) ?_
    refine w_ic_ge (pc' := 10) k54_7 rfl (fun c_7 => ?_) (fun c_7 => absurd c_7 (by omega))
    exact kk _ _ _ hT
  | succ k ih =>
    rintro l v2 I1 hk hl hT
    refine w_iload (pc' := 3) k54_2 rfl rfl ?_
    refine w_aload (pc' := 4) k54_3 rfl rfl ?_
    refine w_getI (pc' := 7) (ki := 7) (v := L) k54_4 rfl (hL.s0 h_s) rfl (by rw [hT.1 s (by omega)]; exact h7) ?_
    refine w_ic_ge (pc' := 10) k54_7 rfl (fun c_7 => absurd c_7 (by omega)) (fun c_7 => ?_)
    refine w_c1 (pc' := 11) k54_10 rfl ?_
    refine w_istore (pc' := 12) (ls' := [_, _, _]) k54_11 rfl rfl rfl ?_
    refine m54i hL hK h_s m_s n_s hg hLS h7 h8 ⟨hl, by omega⟩ (fun I2 hT2 => ?_) S.toNat 0 _ (by omega) (by omega) hT
    refine w_iinc (pc' := 48) (ls' := [_, _, _]) k54_45 rfl rfl (by omega) rfl ?_
    refine w_goto k54_48 ?_
    exact ih (l + 1) _ _ (by omega) (by omega) hT2
theorem m54 (hL : LC sh R) (hK : KP K H E HO S L) (h_s : isS s) (m_s : R s 6 = some g_s) (n_s : sh[g_s]? = some (0, M_s)) (hg : 53 ≤ g_s) (hLS : L * S ≤ M_s) (h7 : I s 7 = L) (h8 : I s 8 = S) : WPM X (d + 1) 54 [.inr (some s)] (sh, R, I) 0 0 (fun _ h' => ∃ I', h' = (sh, R, I') ∧ (∀ a, a ≠ g_s → I' a = I a) ∧ ∀ n l, 0 ≤ n → n < S → 0 ≤ l → l < L → I' g_s (l * S + n) = I (s + 1) l) := by
  have hr := hK.r
  show WP X (d + 1) 54 0 [.inr (some s), .inr none, .inr none] [] (sh, R, I) 0 0 _
  refine w_c1 (pc' := 1) k54_0 rfl ?_
  refine w_istore (pc' := 2) (ls' := [_, _, _]) k54_1 rfl rfl rfl ?_
  refine m54o hL hK h_s m_s n_s hg hLS h7 h8 (fun v1 v2 I2 hT => ?_) L.toNat 0 _ _ (by omega) (by omega) ⟨fun _ _ => rfl, fun n' l' q1 q2 q3 q4 => by omega⟩
  exact w_retv k54_51 ⟨_, rfl, hT.1, fun n l q1 q2 q3 q4 => hT.2 n l q1 q2 q3 (Or.inl q4)⟩
/-- a State fitted: c = 1 where its marks are made anew -/
def FT (sh sh' : List (Nat × Nat)) (R R' : Nat → Nat → Option Nat) (I I' : Nat → Int → Int) (s g M : Nat) (L S : Int) (c : Nat) : Prop := LC sh' R' ∧ sh'.length = sh.length + c ∧ (∀ (a : Nat) (q : Nat × Nat), sh[a]? = some q → sh'[a]? = some q) ∧ (∀ a : Nat, a ≠ s → a < sh.length → I' a = I a) ∧ I' s = upF (upF (I s) 7 L) 8 S ∧ (∀ a k : Nat, a ≠ s ∨ k ≠ 6 → a < sh.length → R' a k = R a k) ∧ ((c = 0 ∧ R' s 6 = some g ∧ sh'[g]? = some (0, M)) ∨ (c = 1 ∧ R' s 6 = some sh.length ∧ sh'[sh.length]? = some (0, (L * S).toNat)))
theorem m46 (hL : LC sh R) (hK : KP K H E HO S L) (h_s : isS s) (m_s : R s 6 = some g_s) (n_s : sh[g_s]? = some (0, M_s)) {c : Nat} (hc : (L * S ≤ M_s ∧ c = 0) ∨ ((M_s : Int) < L * S ∧ c = 1)) (hlen : sh.length < 1000) : WPM X (d + 1) 46 [.inr (some s), .inl L, .inl S] (sh, R, I) c (c * 4860) (fun _ h' => ∃ sh' R' I', h' = (sh', R', I') ∧ FT sh sh' R R' I I' s g_s M_s L S c) := by
  have hr := hK.r
  have hLS : 0 ≤ L * S ∧ L * S ≤ 4860 := by first | omega | (rcases hK with ⟨rfl, rfl, rfl, rfl, rfl, rfl⟩ | ⟨rfl, rfl, rfl, rfl, rfl, rfl⟩ | ⟨rfl, rfl, rfl, rfl, rfl, rfl⟩ <;> omega)
  have hlt := hL.lt h_s
  have e9 : upA (upA I s (upF (I s) 7 L)) s (upF (upA I s (upF (I s) 7 L) s) 8 S) s = upF (upF (I s) 7 L) 8 S := by rw [upA_s, upA_s]
  show WP X (d + 1) 46 0 [.inr (some s), .inl L, .inl S] [] (sh, R, I) c (c * 4860) _
  refine w_aload (pc' := 1) k46_0 rfl rfl ?_
  refine w_iload (pc' := 2) k46_1 rfl rfl ?_
  refine w_putI (pc' := 5) (ki := 7) k46_2 rfl (hL.s0 h_s) rfl ?_
  refine w_aload (pc' := 6) k46_5 rfl rfl ?_
  refine w_iload (pc' := 7) k46_6 rfl rfl ?_
  refine w_putI (pc' := 10) (ki := 8) k46_7 rfl (hL.s0 h_s) rfl ?_
  refine w_aload (pc' := 11) k46_10 rfl rfl ?_
  refine w_getR (pc' := 14) (v := g_s) k46_11 rfl (hL.s0 h_s) m_s ?_
  refine w_alen (pc' := 15) (v := (M_s : Int)) k46_14 rfl n_s rfl ?_
  refine w_iload (pc' := 16) k46_15 rfl rfl ?_
  refine w_iload (pc' := 17) k46_16 rfl rfl ?_
  refine w_imul (pc' := 18) k46_17 rfl (by first | omega | (rcases hK with ⟨rfl, rfl, rfl, rfl, rfl, rfl⟩ | ⟨rfl, rfl, rfl, rfl, rfl, rfl⟩ | ⟨rfl, rfl, rfl, rfl, rfl, rfl⟩ <;> omega)) ?_
  refine w_ic_ge (pc' := 21) k46_18 rfl (fun c_18 => ?_) (fun c_18 => ?_)
  · have hc0 : c = 0 := by omega
    subst hc0
    exact w_retv k46_30 ⟨_, _, _, rfl, hL, rfl, fun _ _ h => h, fun a q1 _ => by rw [upA_n q1, upA_n q1], e9, fun _ _ _ _ => rfl, Or.inl ⟨rfl, m_s, n_s⟩⟩
  · refine w_aload (pc' := 22) k46_21 rfl rfl ?_
    refine w_iload (pc' := 23) k46_22 rfl rfl ?_
    refine w_iload (pc' := 24) k46_23 rfl rfl ?_
    refine w_imul (pc' := 25) k46_24 rfl (by first | omega | (rcases hK with ⟨rfl, rfl, rfl, rfl, rfl, rfl⟩ | ⟨rfl, rfl, rfl, rfl, rfl, rfl⟩ | ⟨rfl, rfl, rfl, rfl, rfl, rfl⟩ <;> omega)) ?_
    have hc1 : c = 1 := by omega
    subst hc1
    refine w_newi (pc' := 27) (n := (L * S).toNat) k46_25 rfl (by omega) rfl (by omega) ?_
    refine w_putR (pc' := 30) k46_27 rfl (by rw [List.getElem?_append_left hlt]; exact hL.s0 h_s) (by simp) ?_
    refine w_retv k46_30 ⟨_, _, _, rfl, ⟨fun a q h => ?_, fun a k v h => ?_⟩, by simp, fun a q h => ?_, fun a q1 q2 => by rw [upA_n (by omega), upA_n q1, upA_n q1], by rw [upA_n (by omega)]; exact e9, fun a k q1 q2 => ?_, Or.inr ⟨rfl, by rw [upR_s, upK_s], by simp⟩⟩
    · have h2 := hL.1 a q h
      rw [List.getElem?_append_left (List.getElem?_eq_some_iff.mp h2).1]; exact h2
    · have h2 := hL.2 a k v h
      have h3 : a < 53 := by
        rcases (show a < 53 ∨ 53 ≤ a by omega) with q | q
        · exact q
        · obtain ⟨j, rfl⟩ : ∃ j, a = 53 + j := ⟨a - 53, by omega⟩
          exact absurd h (by unfold rC; simp)
      have h4 : 52 < sh.length := (List.getElem?_eq_some_iff.mp (hL.1 52 (0, 0) rfl)).1
      by_cases e : a = s
      · subst e
        have hk : k ≠ 6 := by
          rintro rfl
          rcases h_s with rfl | rfl | rfl | rfl <;> exact (Option.some_ne_none v (h.symm.trans rfl)).elim
        rw [upR_s, upK_n hk, upR_n (by omega)]; exact h2
      · rw [upR_n e, upR_n (by omega)]; exact h2
    · rw [List.getElem?_append_left (List.getElem?_eq_some_iff.mp h).1]; exact h
    · by_cases e : a = s
      · subst e
        rw [upR_s, upK_n (by omega), upR_n (by omega)]
      · rw [upR_n e, upR_n (by omega)]
end C52
