/-! ===== REFERENCE: ways ===== -/
section M72
variable {X : Nat × (Int → Int)} {d : Nat} {sh : List (Nat × Nat)} {R : Nat → Nat → Option Nat} {I : Nat → Int → Int} {K H E HO S L B : Int} {A : AS}
theorem lk3 (hK : KP K H E HO S L) {a b j m : Int} (ha : 0 ≤ a ∧ a < HO) (hb : 0 ≤ b ∧ b < HO) (hj : 0 ≤ j ∧ j < H) (hm : 0 ≤ m ∧ m < H) : ((0 ≤ a / H / H ∧ a / H / H < 6) ∧ (0 ≤ b / H / H ∧ b / H / H < 6) ∧ (0 ≤ a / H % H ∧ a / H % H < 3) ∧ (0 ≤ b / H % H ∧ b / H % H < 3)) ∧ ((a / H / H * H + a / H % H) * H + j = a / H * H + j ∧ 0 ≤ a / H * H + j ∧ a / H * H + j < L) ∧ ((b / H / H * H + b / H % H) * H + j = b / H * H + j ∧ 0 ≤ b / H * H + j ∧ b / H * H + j < L) ∧ (HO + (a / H / H * H + j) * H + m = (E + a / H / H * H + j) * H + m ∧ 0 ≤ (E + a / H / H * H + j) * H + m ∧ (E + a / H / H * H + j) * H + m < L) ∧ (HO + (b / H / H * H + j) * H + m = (E + b / H / H * H + j) * H + m ∧ 0 ≤ (E + b / H / H * H + j) * H + m ∧ (E + b / H / H * H + j) * H + m < L) := by
  refine ⟨⟨⟨?_, ?_⟩, ⟨?_, ?_⟩, ⟨?_, ?_⟩, ?_, ?_⟩, ⟨?_, ?_, ?_⟩, ⟨?_, ?_, ?_⟩, ⟨?_, ?_, ?_⟩, ?_, ?_, ?_⟩ <;> rcases hK with ⟨rfl, rfl, rfl, rfl, rfl, rfl⟩ | ⟨rfl, rfl, rfl, rfl, rfl, rfl⟩ | ⟨rfl, rfl, rfl, rfl, rfl, rfl⟩ <;> omega
theorem op_e {l : Int} (hl : 0 ≤ l) : opC A (-4) l = ev (aAg A l) := by
  unfold opC
  rw [decide_eq_true (show l ≠ -4 by omega), Bool.true_and]
theorem m167i (hF : MF sh R I K H E HO S L B A) {a b : Int} (ha : 0 ≤ a ∧ a < HO) (hb : 0 ≤ b ∧ b < HO) {T j : Int} (hj : 0 ≤ j ∧ j < H) {N : Nat} (hN : H = (N : Int)) {Q : VV → Hp → Prop} (kk : ∀ v8, WP X (d + 3) 167 137 [.inr (some 57), .inl a, .inl b, .inl (a / H / H), .inl (b / H / H), .inl T, .inl j, .inl (if a / H / H = b / H / H then 1 else cnt (fun m => opC A (-4) ((E + a / H / H * H + j) * H + m) && opC A (-4) ((E + b / H / H * H + j) * H + m)) N), v8] [] (sh, R, I) 0 0 Q) : ∀ (k m : Nat) (c i : Int), m + k = N → c = (if a / H / H = b / H / H then 1 else cnt (fun m => opC A (-4) ((E + a / H / H * H + j) * H + m) && opC A (-4) ((E + b / H / H * H + j) * H + m)) m) → i = (m : Int) → WP X (d + 3) 167 73 [.inr (some 57), .inl a, .inl b, .inl (a / H / H), .inl (b / H / H), .inl T, .inl j, .inl c, .inl i] [] (sh, R, I) 0 0 Q := by
  have hF0 := hF
  obtain ⟨hM, hK, hpo, hha, hms, hab, hB⟩ := hF
  have hr := hK.r
  intro k
  induction k with
  | zero =>
    rintro m c i hk rfl rfl
    have e : m = N := by omega
    subst e
    refine w_iload (pc' := 75) k167_73 rfl rfl ?_
    refine w_aload (pc' := 76) k167_75 rfl rfl ?_
    refine w_getI (pc' := 79) (ki := 3) (v := H) k167_76 rfl (hM.1 57 (11, 30) rfl) rfl hha ?_
    refine w_ic_ge (pc' := 82) k167_79 rfl (fun c_79 => ?_) (fun c_79 => absurd c_79 (by omega))
    exact kk _
  | succ k ih =>
    rintro m c i hk hc rfl
    have hcl := cnt_le (fun m => opC A (-4) ((E + a / H / H * H + j) * H + m) && opC A (-4) ((E + b / H / H * H + j) * H + m)) m
    have hm : (0 : Int) ≤ (m : Int) ∧ (m : Int) < H := by omega
    have hl := lk3 hK ha hb hj hm
    have o1 := op_e (A := A) hl.2.2.2.1.2.1
    have o2 := op_e (A := A) hl.2.2.2.2.2.1
    have hc4 : 0 ≤ c ∧ c ≤ 4 := by rw [hc]; split <;> omega
    refine w_iload (pc' := 75) k167_73 rfl rfl ?_
    refine w_aload (pc' := 76) k167_75 rfl rfl ?_
    refine w_getI (pc' := 79) (ki := 3) (v := H) k167_76 rfl (hM.1 57 (11, 30) rfl) rfl hha ?_
    refine w_ic_ge (pc' := 82) k167_79 rfl (fun c_79 => absurd c_79 (by omega)) (fun c_79 => ?_)
    refine w_iload (pc' := 84) k167_82 rfl rfl ?_
    refine w_iload (pc' := 85) k167_84 rfl rfl ?_
    refine w_iload (pc' := 87) k167_85 rfl rfl ?_
    refine w_ic_eq (pc' := 90) k167_87 rfl (fun c_87 => ?_) (fun c_87 => ?_)
    · refine w_c1 (pc' := 128) k167_127 rfl ?_
      refine w_iadd (pc' := 129) k167_128 rfl (by omega) ?_
      refine w_istore (pc' := 131) (ls' := [_, _, _, _, _, _, _, _, _]) k167_129 rfl rfl rfl ?_
      refine w_iinc (pc' := 134) (ls' := [_, _, _, _, _, _, _, _, _]) k167_131 rfl rfl (by omega) rfl ?_
      refine w_goto k167_134 ?_
      exact ih (m + 1) _ _ (by omega) (by rw [if_pos c_87, Int.add_zero, hc, if_pos c_87]) (by omega)
    · refine w_aload (pc' := 91) k167_90 rfl rfl ?_
      refine w_aload (pc' := 92) k167_91 rfl rfl ?_
      refine w_iload (pc' := 93) k167_92 rfl rfl ?_
      refine w_iload (pc' := 95) k167_93 rfl rfl ?_
      refine w_iload (pc' := 97) k167_95 rfl rfl ?_
      refine w_callE (pc' := 100) (as := [.inr (some 57), .inl _, .inl _, .inl _]) k167_97 rfl rfl (co_v rfl rfl (hM.1 57 (11, 30) rfl)) (by decide) (m139 hF0 hl.1.1 (by omega) (by omega) hl.2.2.2.1.1) ?_
      refine w_callB (pc' := 103) (as := [.inr (some 57), .inl _]) k167_100 rfl rfl (co_v rfl rfl (hM.1 57 (11, 30) rfl)) (by decide) (m142 hF0 hl.2.2.2.1.2) (fun q_100 => ?_) (fun q_100 => ?_)
      · refine w_if_eq (pc' := 106) k167_103 rfl (fun c_103 => absurd c_103 (by decide)) (fun _ => ?_)
        refine w_aload (pc' := 107) k167_106 rfl rfl ?_
        refine w_aload (pc' := 108) k167_107 rfl rfl ?_
        refine w_iload (pc' := 110) k167_108 rfl rfl ?_
        refine w_iload (pc' := 112) k167_110 rfl rfl ?_
        refine w_iload (pc' := 114) k167_112 rfl rfl ?_
        refine w_callE (pc' := 117) (as := [.inr (some 57), .inl _, .inl _, .inl _]) k167_114 rfl rfl (co_v rfl rfl (hM.1 57 (11, 30) rfl)) (by decide) (m139 hF0 hl.1.2.1 (by omega) (by omega) hl.2.2.2.2.1) ?_
        refine w_callB (pc' := 120) (as := [.inr (some 57), .inl _]) k167_117 rfl rfl (co_v rfl rfl (hM.1 57 (11, 30) rfl)) (by decide) (m142 hF0 hl.2.2.2.2.2) (fun q_117 => ?_) (fun q_117 => ?_)
        · refine w_if_eq (pc' := 123) k167_120 rfl (fun c_120 => absurd c_120 (by decide)) (fun _ => ?_)
          refine w_c1 (pc' := 124) k167_123 rfl ?_
          refine w_goto k167_124 ?_
          refine w_iadd (pc' := 129) k167_128 rfl (by omega) ?_
          refine w_istore (pc' := 131) (ls' := [_, _, _, _, _, _, _, _, _]) k167_129 rfl rfl rfl ?_
          refine w_iinc (pc' := 134) (ls' := [_, _, _, _, _, _, _, _, _]) k167_131 rfl rfl (by omega) rfl ?_
          refine w_goto k167_134 ?_
          exact ih (m + 1) _ _ (by omega) (by rw [if_neg c_87, hc, if_neg c_87, cnt_t]; rw [o1, o2, q_100, q_117]; rfl) (by omega)
        · refine w_if_eq (pc' := 123) k167_120 rfl (fun _ => ?_) (fun c_120 => absurd c_120 (by decide))
          refine w_c1 (pc' := 128) k167_127 rfl ?_
          refine w_iadd (pc' := 129) k167_128 rfl (by omega) ?_
          refine w_istore (pc' := 131) (ls' := [_, _, _, _, _, _, _, _, _]) k167_129 rfl rfl rfl ?_
          refine w_iinc (pc' := 134) (ls' := [_, _, _, _, _, _, _, _, _]) k167_131 rfl rfl (by omega) rfl ?_
          refine w_goto k167_134 ?_
          exact ih (m + 1) _ _ (by omega) (by rw [if_neg c_87, Int.add_zero, hc, if_neg c_87, cnt_f]; rw [o2, show ev (aAg A ((E + b / H / H * H + j) * H + (m : Int))) = false by simpa using q_117, Bool.and_false]) (by omega)
      · refine w_if_eq (pc' := 106) k167_103 rfl (fun _ => ?_) (fun c_103 => absurd c_103 (by decide))
        refine w_c1 (pc' := 128) k167_127 rfl ?_
        refine w_iadd (pc' := 129) k167_128 rfl (by omega) ?_
        refine w_istore (pc' := 131) (ls' := [_, _, _, _, _, _, _, _, _]) k167_129 rfl rfl rfl ?_
        refine w_iinc (pc' := 134) (ls' := [_, _, _, _, _, _, _, _, _]) k167_131 rfl rfl (by omega) rfl ?_
        refine w_goto k167_134 ?_
        exact ih (m + 1) _ _ (by omega) (by rw [if_neg c_87, Int.add_zero, hc, if_neg c_87, cnt_f]; rw [o1, show ev (aAg A ((E + a / H / H * H + j) * H + (m : Int))) = false by simpa using q_100, Bool.false_and]) (by omega)
end M72
