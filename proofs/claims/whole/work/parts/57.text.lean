/-! ===== CLASS: the first text ===== -/
def TXT (j : Int) : Int := ((txt0.getD j.toNat 0 : Nat) : Int)
theorem txt_all : ∀ m, m < 67 → txt0[m]? = some (txt0.getD m 0) ∧ 1 ≤ txt0.getD m 0 ∧ txt0.getD m 0 < 256 := by decide
section C57
variable {X : Nat × (Int → Int)} {d : Nat} {sh : List (Nat × Nat)} {R : Nat → Nat → Option Nat} {I : Nat → Int → Int}
theorem m68l (hL : LC sh R) {Q : VV → Hp → Prop} {bc bs : Nat} (kk : ∀ I1, TX I1 TXT 67 → WP X (d + 8) 68 184 [.inr (some 0), .inl 67] [] (sh, R, I1) bc bs Q) : ∀ (k m : Nat) (i : Int) (I1 : Nat → Int → Int), m + k = 67 → i = (m : Int) → TX I1 TXT m → WP X (d + 8) 68 155 [.inr (some 0), .inl i] [] (sh, R, I1) bc bs Q := by
  intro k
  induction k with
  | zero =>
    rintro m i I1 hk rfl ht
    have e : m = 67 := by omega
    subst e
    refine w_iload (pc' := 156) k68_155 rfl rfl ?_
    refine w_ldcS (pc' := 158) k68_156 rfl ?_
    refine w_sLen (pc' := 161) k68_158 rfl rfl ?_
    refine w_ic_ge (pc' := 164) k68_161 rfl (fun c_161 => ?_) (fun c_161 => absurd c_161 (by omega))
    exact kk _ ht
  | succ k ih =>
    rintro m i I1 hk rfl ht
    obtain ⟨hb, hb1, hb2⟩ := txt_all m (by omega)
    refine w_iload (pc' := 156) k68_155 rfl rfl ?_
    refine w_ldcS (pc' := 158) k68_156 rfl ?_
    refine w_sLen (pc' := 161) k68_158 rfl rfl ?_
    refine w_ic_ge (pc' := 164) k68_161 rfl (fun c_161 => absurd c_161 (by omega)) (fun c_161 => ?_)
    refine w_aload (pc' := 165) k68_164 rfl rfl ?_
    refine w_getR (pc' := 168) (v := 1) k68_165 rfl (hL.1 0 (10, 12) rfl) (hL.2 0 0 1 rfl) ?_
    refine w_ldcS (pc' := 170) k68_168 rfl ?_
    refine w_iload (pc' := 171) k68_170 rfl rfl ?_
    refine w_sCh (pc' := 174) (i := m) (b := txt0.getD m 0) k68_171 rfl rfl hb rfl ?_
    refine w_callI (pc' := 177) (as := [.inr (some 1), .inl _]) k68_174 rfl rfl (co_v rfl rfl (hL.1 1 (4, 4) rfl)) (by decide) (m12 (c := ((txt0.getD m 0 : Nat) : Int)) hL ht (by omega)) (fun z_174 h_174 hq => ?_)
    obtain ⟨hx, hz, rfl⟩ | ⟨hx, hz, I_2, rfl, x1, x2⟩ := hq
    · exact absurd hx (by omega)
    · have hz := Sum.inl.inj hz
      subst hz
      refine w_pop (pc' := 178) k68_177 rfl ?_
      refine w_iinc (pc' := 181) (ls' := [_, _]) k68_178 rfl rfl (by omega) rfl ?_
      refine w_goto k68_181 ?_
      refine ih (m + 1) _ _ (by omega) (by omega) ?_
      have e9 : upF TXT m ((txt0.getD m 0 : Nat) : Int) = TXT := by
        funext j
        by_cases e : j = (m : Int)
        · rw [e, upF_s]; unfold TXT; rw [Int.toNat_natCast]
        · rw [upF_n e]
      rw [e9] at x2
      exact x2
end C57
