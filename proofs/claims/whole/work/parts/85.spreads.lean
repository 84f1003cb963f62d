/-! ===== REFERENCE: tick ===== -/
section SP85
variable {K H E HO S L B : Int} {A : AS}
/-- how many marks become others in one tick -/
def spV (H E S L : Int) (A : AS) : Int := sumN (fun l => cnt (fun n => decide (tk1 H E L (aAg A) (fun n => aMk A n l) n ≠ aMk A n l)) S.toNat) L.toNat
theorem tkF_e {ag m0 : Int → Int} {k : Nat} (h : ev (ag k) = true) (n : Int) : tkF H E ag m0 (k + 1) n = if n = upS H E k then max (tkF H E ag m0 k (upS H E k)) (m0 ((k : Int) / H)) else if n = (k : Int) / H then max (tkF H E ag m0 k ((k : Int) / H)) (m0 (upS H E k)) else tkF H E ag m0 k n := by
  rw [tkF, if_pos h]
  by_cases c : n = upS H E k
  · rw [if_pos c, c, upF_s]
  · rw [if_neg c, upF_n c]
    by_cases c2 : n = (k : Int) / H
    · rw [if_pos c2, c2, upF_s]
    · rw [if_neg c2, upF_n c2]
theorem tkF_n {ag m0 : Int → Int} {k : Nat} (h : ¬ ev (ag k) = true) : tkF H E ag m0 (k + 1) = tkF H E ag m0 k := by rw [tkF, if_neg h]
theorem tkF_ext {ag m0 m1 : Int → Int} (hK : KP K H E HO S L) (h : ∀ n, 0 ≤ n → n < S → m0 n = m1 n) : ∀ k : Nat, (k : Int) ≤ L → ∀ n, 0 ≤ n → n < S → tkF H E ag m0 k n = tkF H E ag m1 k n
  | 0, _, n, q1, q2 => h n q1 q2
  | k + 1, hk, n, q1, q2 => by
    have ih := tkF_ext (ag := ag) hK h k (by omega)
    have hu := up_ne hK (l := (k : Int)) ⟨by omega, by omega⟩
    by_cases c : ev (ag k) = true
    · rw [tkF_e c, tkF_e c, ih n q1 q2, ih _ hu.2.1.1 hu.2.1.2, ih _ hu.2.2.1 hu.2.2.2, h _ hu.2.1.1 hu.2.1.2, h _ hu.2.2.1 hu.2.2.2]
    · rw [tkF_n c, tkF_n c]; exact ih n q1 q2
theorem tkN_fix {ag m0 : Int → Int} (hK : KP K H E HO S L) (h : ∀ n, 0 ≤ n → n < S → tk1 H E L ag m0 n = m0 n) : ∀ t : Nat, ∀ n, 0 ≤ n → n < S → tkN H E L ag m0 t n = m0 n
  | 0, n, _, _ => rfl
  | t + 1, n, q1, q2 => by
    have hr := hK.r
    rw [tkN, ← h n q1 q2]
    exact tkF_ext (ag := ag) hK (fun n p1 p2 => tkN_fix hK h t n p1 p2) L.toNat (by omega) n q1 q2
theorem spV_t {t : Nat} : spV H E S L (tickA H E L A t) = sumN (fun l => tkD H E S L (aAg A) (fun n => aMk A n l) (t : Int)) L.toNat := by
  unfold spV tkD
  apply sumN_ext
  intro l _
  apply cnt_ext
  intro n _
  rw [Int.toNat_natCast]
  rfl
theorem spV_s {t : Nat} : sumN (fun s => spV H E S L (tickA H E L A s.toNat)) t = tickS H E S L A t := by
  unfold tickS
  rw [sumN_swap]
  apply sumN_ext
  intro s _
  rw [Int.toNat_natCast, spV_t]
theorem tickA_0 : tickA H E L A 0 = A := rfl
theorem tickA_s {t : Nat} : tickA H E L (tickA H E L A t) 1 = tickA H E L A (t + 1) := rfl
theorem spV_le (hS : 0 ≤ S ∧ S ≤ 45) (hL : 0 ≤ L ∧ L ≤ 108) : 0 ≤ spV H E S L A ∧ spV H E S L A ≤ 4860 := by
  have := sumN_le (f := fun l => cnt (fun n => decide (tk1 H E L (aAg A) (fun n => aMk A n l) n ≠ aMk A n l)) S.toNat) (C := 45) L.toNat (fun i _ => by
    have := cnt_le (fun n => decide (tk1 H E L (aAg A) (fun n => aMk A n (i : Int)) n ≠ aMk A n (i : Int))) S.toNat
    omega)
  unfold spV
  omega
theorem sumN_nn {f : Int → Int} (h : ∀ i : Nat, 0 ≤ f i) : ∀ n : Nat, 0 ≤ sumN f n
  | 0 => Int.le_refl _
  | n + 1 => by have := sumN_nn h n; have := h n; rw [sumN]; omega
theorem sumN_0 {f : Int → Int} {n : Nat} (h : ∀ i : Nat, 0 ≤ f i) (h0 : sumN f n ≤ 0) {i : Nat} (hi : i < n) : f i = 0 := by
  have := sumN_ge h n hi
  have := h i
  omega
/-- nothing becomes another: then and later all stays -/
theorem spV_0 (hK : KP K H E HO S L) (h : spV H E S L A = 0) (t : Nat) {n l : Int} (hn : 0 ≤ n ∧ n < S) (hl : 0 ≤ l ∧ l < L) : aMk (tickA H E L A t) n l = aMk A n l := by
  have h1 : ∀ l, 0 ≤ l → l < L → ∀ n, 0 ≤ n → n < S → tk1 H E L (aAg A) (fun n => aMk A n l) n = aMk A n l := by
    intro l q1 q2 n q3 q4
    have h2 := sumN_0 (f := fun l => cnt (fun n => decide (tk1 H E L (aAg A) (fun n => aMk A n l) n ≠ aMk A n l)) S.toNat) (n := L.toNat) (fun i => (cnt_le _ _).1) (by unfold spV at h; omega) (i := l.toNat) (by omega)
    rw [show ((l.toNat : Nat) : Int) = l by omega] at h2
    have h3 := cnt_0 (P := fun n => decide (tk1 H E L (aAg A) (fun n => aMk A n l) n ≠ aMk A n l)) S.toNat (by omega) n.toNat (by omega)
    rw [show ((n.toNat : Nat) : Int) = n by omega] at h3
    simpa using h3
  exact tkN_fix (m0 := fun n => aMk A n l) hK (h1 l hl.1 hl.2) t n hn.1 hn.2
theorem tickS_0 (hK : KP K H E HO S L) (h : spV H E S L A = 0) (t : Nat) : tickS H E S L A t = 0 := by
  rw [← spV_s]
  refine (sumN_ext (g := fun _ => 0) t (fun s _ => ?_)).trans (sumN_z t)
  unfold spV
  refine (sumN_ext (g := fun _ => 0) _ (fun l hl => ?_)).trans (sumN_z _)
  have hr := hK.r
  apply cnt_no
  intro n hn
  rw [Int.toNat_natCast]
  have e1 : tk1 H E L (aAg (tickA H E L A s)) (fun n => aMk (tickA H E L A s) n (l : Int)) n = aMk (tickA H E L A (s + 1)) n l := rfl
  rw [e1, spV_0 hK h (s + 1) (by omega) (by omega), spV_0 hK h s (by omega) (by omega)]
  simp
theorem tickS_p (h : 0 < spV H E S L A) (hS : 0 ≤ S ∧ S ≤ 45) (hL : 0 ≤ L ∧ L ≤ 108) {t : Nat} (ht : 1 ≤ t) : 0 < tickS H E S L A t := by
  rw [← spV_s]
  have h1 := sumN_ge (g := fun s => spV H E S L (tickA H E L A s.toNat)) (f := 0) (fun i => (spV_le hS hL).1) t (by omega)
  have e : spV H E S L (tickA H E L A ((0 : Nat) : Int).toNat) = spV H E S L A := rfl
  simp only [e] at h1
  omega
theorem sumN_cut {f : Int → Int} {m n : Nat} (h : m ≤ n) (hz : ∀ i : Nat, m ≤ i → i < n → f i = 0) : sumN f n = sumN f m := by
  obtain ⟨k, rfl⟩ : ∃ k, n = m + k := ⟨n - m, by omega⟩
  rw [sumN_app, (sumN_ext (g := fun _ => 0) k (fun i hi => by have := hz (m + i) (by omega) (by omega); rw [Int.natCast_add] at this; exact this)), sumN_z, Int.add_zero]
/-- 4860 marks, those of no use do not count -/
theorem cut_sum (hK : KP K H E HO S L) {P : Int → Bool} {N : Nat} (hN : N = 45 * 108) (h : ∀ j, 0 ≤ j → j < 4860 → ¬ (j % 108 < L ∧ j / 108 < S) → P j = false) : cnt P N = sumN (fun l => cnt (fun n => P (108 * n + l)) S.toNat) L.toNat := by
  have hr := hK.r
  subst hN
  unfold cnt
  rw [sumN_blk, sumN_cut (m := S.toNat) (n := 45) (by omega)]
  · refine Eq.trans ?_ (sumN_swap (f := fun n l => if P (108 * n + l) = true then 1 else 0) L.toNat S.toNat)
    apply sumN_ext
    intro x hx
    rw [sumN_cut (m := L.toNat) (n := 108) (by omega)]
    · apply sumN_ext
      intro y hy
      rw [show (x : Int) * ((108 : Nat) : Int) + (y : Int) = 108 * (x : Int) + (y : Int) by omega]
    · intro y q1 q2
      rw [h _ (by omega) (by omega) (by omega)]; rfl
  · intro x q1 q2
    refine (sumN_ext (g := fun _ => 0) _ (fun y hy => ?_)).trans (sumN_z _)
    rw [h _ (by omega) (by omega) (by omega)]; rfl
end SP85
section M85
variable {X : Nat × (Int → Int)} {d : Nat} {sh : List (Nat × Nat)} {R : Nat → Nat → Option Nat} {I : Nat → Int → Int} {K H E HO S L B : Int} {A : AS}
variable {A1 A2 : AS} {u : Int} {tx : Int → Int} {len : Int}
/-- where spreads is: link l, mark k -/
def SPI (I I1 : Nat → Int → Int) (H E S L : Int) (A : AS) (l : Nat) (k : Int) : Prop := (∀ a, a ≠ 61 → I1 a = I a) ∧ ∀ j, 0 ≤ j → j < 4860 → I1 61 j = if j % 108 < L ∧ j / 108 < S then tkF H E (aAg A) (fun n => aMk A n (j % 108)) (if j % 108 < k then l + 1 else l) (j / 108) else I 60 j
theorem SPI.mf {I1 : Nat → Int → Int} {l : Nat} {k : Int} (hF : MF sh R I K H E HO S L B A) (h : SPI I I1 H E S L A l k) : MF sh R I1 K H E HO S L B A := hF.keep (fun a q => h.1 a (by omega)) (fun j q => by rw [h.1 57 (by decide)])
theorem SPI.nx {I1 : Nat → Int → Int} {l : Nat} {k : Int} (hk : L ≤ k) (h : SPI I I1 H E S L A l k) : SPI I I1 H E S L A (l + 1) 0 := by
  refine ⟨h.1, fun j q1 q2 => ?_⟩
  rw [h.2 j q1 q2]
  by_cases c : j % 108 < L ∧ j / 108 < S
  · rw [if_pos c, if_pos c, if_pos (by omega), if_neg (by omega)]
  · rw [if_neg c, if_neg c]
theorem SPI.skip {I1 : Nat → Int → Int} {l : Nat} (hc : ¬ ev (aAg A l) = true) (h : SPI I I1 H E S L A l 0) : SPI I I1 H E S L A (l + 1) 0 := by
  refine ⟨h.1, fun j q1 q2 => ?_⟩
  rw [h.2 j q1 q2]
  by_cases c : j % 108 < L ∧ j / 108 < S
  · rw [if_pos c, if_pos c, if_neg (by omega), if_neg (by omega), tkF_n hc]
  · rw [if_neg c, if_neg c]
/-- one more mark of both ends -/
theorem SPI.st {I1 I2 : Nat → Int → Int} {l : Nat} {k : Int} (hK : KP K H E HO S L) (hl : (l : Int) < L) (hk : 0 ≤ k ∧ k < L) (hc : ev (aAg A l) = true) (h : SPI I I1 H E S L A l k) {x y : Int} (hx : x = max (tkF H E (aAg A) (fun n => aMk A n k) l ((l : Int) / H)) (aMk A (upS H E l) k)) (hy : y = max (tkF H E (aAg A) (fun n => aMk A n k) l (upS H E l)) (aMk A ((l : Int) / H) k)) (e1 : ∀ a, a ≠ 61 → I2 a = I1 a) (e2 : I2 61 = upF (upF (I1 61) (108 * ((l : Int) / H) + k) x) (108 * upS H E l + k) y) : SPI I I2 H E S L A l (k + 1) := by
  have hr := hK.r
  have hu := up_ne hK (l := (l : Int)) ⟨by omega, hl⟩
  refine ⟨fun a q => (e1 a q).trans (h.1 a q), fun j q1 q2 => ?_⟩
  rw [e2]
  by_cases c1 : j = 108 * upS H E l + k
  · subst c1
    have m1 : (108 * upS H E l + k) % 108 = k := by omega
    have m2 : (108 * upS H E l + k) / 108 = upS H E l := by omega
    rw [upF_s, m1, m2, if_pos ⟨hk.2, hu.2.2.2⟩, if_pos (by omega), tkF_e hc, if_pos rfl, hy]
  · rw [upF_n c1]
    by_cases c2 : j = 108 * ((l : Int) / H) + k
    · subst c2
      have m1 : (108 * ((l : Int) / H) + k) % 108 = k := by omega
      have m2 : (108 * ((l : Int) / H) + k) / 108 = (l : Int) / H := by omega
      rw [upF_s, m1, m2, if_pos ⟨hk.2, hu.2.1.2⟩, if_pos (by omega), tkF_e hc, if_neg hu.1, if_pos rfl, hx]
    · rw [upF_n c2, h.2 j q1 q2]
      by_cases c : j % 108 < L ∧ j / 108 < S
      · rw [if_pos c, if_pos c]
        by_cases c3 : j % 108 = k
        · rw [if_neg (by omega), if_pos (by omega), tkF_e hc, if_neg (by omega), if_neg (by omega)]
        · by_cases c4 : j % 108 < k
          · rw [if_pos c4, if_pos (by omega)]
          · rw [if_neg c4, if_neg (by omega)]
      · rw [if_neg c, if_neg c]
theorem k154a (hM : LM sh R) {Q : VV → Hp → Prop} {v2 v3 v4 : VV} (C : ∀ v1 : VV, WP X (d + 3) 154 27 [.inr (some 57), v1, v2, v3, v4] [] (sh, R, upA I 61 (cqF (I 61) (I 60) 0 0 4860)) 0 0 Q) : ∀ (k m : Nat) (i : Int) (I1 : Nat → Int → Int), m + k = 4860 → i = (m : Int) → I1 = upA I 61 (cqF (I 61) (I 60) 0 0 m) → WP X (d + 3) 154 2 [.inr (some 57), .inl i, v2, v3, v4] [] (sh, R, I1) 0 0 Q := by
  intro k
  induction k with
  | zero =>
    rintro m i I1 hk rfl rfl
    have e : m = 4860 := by omega
    subst e
    refine w_iload (pc' := 3) k154_2 rfl rfl ?_
    refine w_c3 (pc' := 6) k154_3 rfl ?_
    refine w_ic_ge (pc' := 9) k154_6 rfl (fun c_6 => ?_) (fun c_6 => absurd c_6 (by omega))
    exact C _
  | succ k ih =>
    rintro m i I1 hk rfl e
    refine w_iload (pc' := 3) k154_2 rfl rfl ?_
    refine w_c3 (pc' := 6) k154_3 rfl ?_
    refine w_ic_ge (pc' := 9) k154_6 rfl (fun c_6 => absurd c_6 (by omega)) (fun c_6 => ?_)
    refine w_aload (pc' := 10) k154_9 rfl rfl ?_
    refine w_getR (pc' := 13) (v := 61) k154_10 rfl (hM.1 57 (11, 30) rfl) (hM.2 57 6 61 rfl) ?_
    refine w_iload (pc' := 14) k154_13 rfl rfl ?_
    refine w_aload (pc' := 15) k154_14 rfl rfl ?_
    refine w_getR (pc' := 18) (v := 60) k154_15 rfl (hM.1 57 (11, 30) rfl) (hM.2 57 5 60 rfl) ?_
    refine w_iload (pc' := 19) k154_18 rfl rfl ?_
    refine w_iald (pc' := 20) (v := I 60 (0 + (m : Int))) k154_19 rfl (hM.1 60 (0, 4860) rfl) (by omega) (by rw [e, upA_n (by decide), Int.zero_add]) ?_
    refine w_iast (pc' := 21) k154_20 rfl (hM.1 61 (0, 4860) rfl) (by omega) ?_
    refine w_iinc (pc' := 24) (ls' := [_, _, _, _, _]) k154_21 rfl rfl (by omega) rfl ?_
    refine w_goto k154_24 ?_
    exact ih (m + 1) _ _ (by omega) (by omega) (by rw [e, upA_s, upA_uu, cqF_s (by omega) rfl])
theorem m154c (hF : MF sh R I K H E HO S L B A) {I1 : Nat → Int → Int} {v3 v4 : VV} (h : SPI I I1 H E S L A L.toNat 0) {N : Nat} (hN : N = 45 * 108) : ∀ (k m : Nat) (c i : Int), m + k = N → i = (m : Int) → c = cnt (fun j => decide (I1 61 j ≠ I1 60 j)) m → WP X (d + 3) 154 193 [.inr (some 57), .inl c, .inl i, v3, v4] [] (sh, R, I1) 0 0 (fun r h' => ∃ I', r = .inl (spV H E S L A) ∧ h' = (sh, R, I') ∧ (∀ a, a ≠ 61 → I' a = I a) ∧ ∀ n l, 0 ≤ n → n < S → 0 ≤ l → l < L → I' 61 (108 * n + l) = tk1 H E L (aAg A) (fun n => aMk A n l) n) := by
  have hF0 := hF
  obtain ⟨hM, hK, hpo, hha, hms, hab, hB⟩ := hF
  have hr := hK.r
  intro k
  induction k with
  | zero =>
    rintro m c i hk rfl hc
    have e : m = N := by omega
    subst e
    have hrd : ∀ n l, 0 ≤ n → n < S → 0 ≤ l → l < L → I1 61 (108 * n + l) = tk1 H E L (aAg A) (fun n => aMk A n l) n := by
      intro n l q1 q2 q3 q4
      have m1 : (108 * n + l) % 108 = l := by omega
      have m2 : (108 * n + l) / 108 = n := by omega
      rw [h.2 _ (by omega) (by omega), m1, m2, if_pos ⟨q4, q2⟩, if_neg (by omega)]
      rfl
    have hcv : c = spV H E S L A := by
      rw [hc, cut_sum hK hN]
      · unfold spV
        apply sumN_ext
        intro l hl
        apply cnt_ext
        intro n hn
        rw [hrd n l (by omega) (by omega) (by omega) (by omega), h.1 60 (by decide), hms.2.2.1 n l (by omega) (by omega) (by omega) (by omega)]
      · intro j q1 q2 q3
        rw [h.2 j q1 q2, if_neg q3, h.1 60 (by decide)]
        simp
    refine w_iload (pc' := 194) k154_193 rfl rfl ?_
    refine w_c3 (pc' := 197) k154_194 rfl ?_
    refine w_ic_ge (pc' := 200) k154_197 rfl (fun c_197 => ?_) (fun c_197 => absurd c_197 (by omega))
    refine w_iload (pc' := 230) k154_229 rfl rfl ?_
    exact w_reti k154_230 ⟨_, congrArg Sum.inl hcv, rfl, h.1, hrd⟩
  | succ k ih =>
    rintro m c i hk rfl hc
    have hcl := cnt_le (fun j => decide (I1 61 j ≠ I1 60 j)) m
    refine w_iload (pc' := 194) k154_193 rfl rfl ?_
    refine w_c3 (pc' := 197) k154_194 rfl ?_
    refine w_ic_ge (pc' := 200) k154_197 rfl (fun c_197 => absurd c_197 (by omega)) (fun c_197 => ?_)
    refine w_iload (pc' := 201) k154_200 rfl rfl ?_
    refine w_aload (pc' := 202) k154_201 rfl rfl ?_
    refine w_getR (pc' := 205) (v := 61) k154_202 rfl (hM.1 57 (11, 30) rfl) (hM.2 57 6 61 rfl) ?_
    refine w_iload (pc' := 206) k154_205 rfl rfl ?_
    refine w_iald (pc' := 207) k154_206 rfl (hM.1 61 (0, 4860) rfl) (by omega) rfl ?_
    refine w_aload (pc' := 208) k154_207 rfl rfl ?_
    refine w_getR (pc' := 211) (v := 60) k154_208 rfl (hM.1 57 (11, 30) rfl) (hM.2 57 5 60 rfl) ?_
    refine w_iload (pc' := 212) k154_211 rfl rfl ?_
    refine w_iald (pc' := 213) k154_212 rfl (hM.1 60 (0, 4860) rfl) (by omega) rfl ?_
    refine w_ic_ne (pc' := 216) k154_213 rfl (fun c_213 => ?_) (fun c_213 => ?_)
    · refine w_c1 (pc' := 221) k154_220 rfl ?_
      refine w_iadd (pc' := 222) k154_221 rfl (by omega) ?_
      refine w_istore (pc' := 223) (ls' := [_, _, _, _, _]) k154_222 rfl rfl rfl ?_
      refine w_iinc (pc' := 226) (ls' := [_, _, _, _, _]) k154_223 rfl rfl (by omega) rfl ?_
      refine w_goto k154_226 ?_
      exact ih (m + 1) _ _ (by omega) (by omega) (by rw [cnt_s, if_pos (by simpa using c_213), hc])
    · refine w_c1 (pc' := 217) k154_216 rfl ?_
      refine w_goto k154_217 ?_
      refine w_iadd (pc' := 222) k154_221 rfl (by omega) ?_
      refine w_istore (pc' := 223) (ls' := [_, _, _, _, _]) k154_222 rfl rfl rfl ?_
      refine w_iinc (pc' := 226) (ls' := [_, _, _, _, _]) k154_223 rfl rfl (by omega) rfl ?_
      refine w_goto k154_226 ?_
      exact ih (m + 1) _ _ (by omega) (by omega) (by rw [cnt_s, if_neg (by simpa using c_213), hc])
theorem m154i (hF : MF sh R I K H E HO S L B A) {Q : VV → Hp → Prop} {l : Nat} (hl : (l : Int) < L) (hc : ev (aAg A l) = true) {N : Nat} (hN : L = (N : Int)) (C : ∀ (I1 : Nat → Int → Int) (v2 v3 v4 : VV), SPI I I1 H E S L A l L → WP X (d + 3) 154 183 [.inr (some 57), .inl (l : Int), v2, v3, v4] [] (sh, R, I1) 0 0 Q) : ∀ (q m : Nat) (i : Int) (I1 : Nat → Int → Int), m + q = N → i = (m : Int) → SPI I I1 H E S L A l m → WP X (d + 3) 154 66 [.inr (some 57), .inl (l : Int), .inl (108 * ((l : Int) / H)), .inl (108 * upS H E l), .inl i] [] (sh, R, I1) 0 0 Q := by
  have hF0 := hF
  obtain ⟨hM, hK, hpo, hha, hms, hab, hB⟩ := hF
  have hr := hK.r
  have hu := up_ne hK (l := (l : Int)) ⟨by omega, hl⟩
  intro q
  induction q with
  | zero =>
    rintro m i I1 hk rfl h
    have e : m = N := by omega
    subst e
    have hF1 := h.mf hF0
    refine w_iload (pc' := 68) k154_66 rfl rfl ?_
    refine w_aload (pc' := 69) k154_68 rfl rfl ?_
    refine w_callE (pc' := 72) (as := [.inr (some 57)]) k154_69 rfl rfl (co_v rfl rfl (hM.1 57 (11, 30) rfl)) (by decide) (m132 hF1) ?_
    refine w_ic_ge (pc' := 75) k154_72 rfl (fun c_72 => ?_) (fun c_72 => absurd c_72 (by omega))
    exact C _ _ _ _ (hN ▸ h)
  | succ q ih =>
    rintro m i I1 hk rfl h
    have hF1 := h.mf hF0
    have hm : (0 : Int) ≤ (m : Int) ∧ (m : Int) < L := by omega
    have ra : I1 61 (108 * ((l : Int) / H) + (m : Int)) = tkF H E (aAg A) (fun n => aMk A n (m : Int)) l ((l : Int) / H) := by
      have m1 : (108 * ((l : Int) / H) + (m : Int)) % 108 = m := by omega
      have m2 : (108 * ((l : Int) / H) + (m : Int)) / 108 = ((l : Int) / H) := by omega
      rw [h.2 _ (by omega) (by omega), m1, m2, if_pos ⟨hm.2, hu.2.1.2⟩, if_neg (by omega)]
    have rb : I1 61 (108 * upS H E l + (m : Int)) = tkF H E (aAg A) (fun n => aMk A n (m : Int)) l (upS H E l) := by
      have m1 : (108 * upS H E l + (m : Int)) % 108 = m := by omega
      have m2 : (108 * upS H E l + (m : Int)) / 108 = upS H E l := by omega
      rw [h.2 _ (by omega) (by omega), m1, m2, if_pos ⟨hm.2, hu.2.2.2⟩, if_neg (by omega)]
    have ma := hF1.2.2.2.2.1.2.2.1 ((l : Int) / H) m hu.2.1.1 hu.2.1.2 hm.1 hm.2
    have mb := hF1.2.2.2.2.1.2.2.1 (upS H E l) m hu.2.2.1 hu.2.2.2 hm.1 hm.2
    refine w_iload (pc' := 68) k154_66 rfl rfl ?_
    refine w_aload (pc' := 69) k154_68 rfl rfl ?_
    refine w_callE (pc' := 72) (as := [.inr (some 57)]) k154_69 rfl rfl (co_v rfl rfl (hM.1 57 (11, 30) rfl)) (by decide) (m132 hF1) ?_
    refine w_ic_ge (pc' := 75) k154_72 rfl (fun c_72 => absurd c_72 (by omega)) (fun c_72 => ?_)
    refine w_aload (pc' := 76) k154_75 rfl rfl ?_
    refine w_getR (pc' := 79) (v := 61) k154_76 rfl (hM.1 57 (11, 30) rfl) (hM.2 57 6 61 rfl) ?_
    refine w_iload (pc' := 80) k154_79 rfl rfl ?_
    refine w_iload (pc' := 82) k154_80 rfl rfl ?_
    refine w_iadd (pc' := 83) k154_82 rfl (by omega) ?_
    refine w_aload (pc' := 84) k154_83 rfl rfl ?_
    refine w_getR (pc' := 87) (v := 60) k154_84 rfl (hM.1 57 (11, 30) rfl) (hM.2 57 5 60 rfl) ?_
    refine w_iload (pc' := 88) k154_87 rfl rfl ?_
    refine w_iload (pc' := 90) k154_88 rfl rfl ?_
    refine w_iadd (pc' := 91) k154_90 rfl (by omega) ?_
    refine w_iald (pc' := 92) (v := aMk A (upS H E l) (m : Int)) k154_91 rfl (hM.1 60 (0, 4860) rfl) (by omega) mb ?_
    refine w_aload (pc' := 93) k154_92 rfl rfl ?_
    refine w_getR (pc' := 96) (v := 61) k154_93 rfl (hM.1 57 (11, 30) rfl) (hM.2 57 6 61 rfl) ?_
    refine w_iload (pc' := 97) k154_96 rfl rfl ?_
    refine w_iload (pc' := 99) k154_97 rfl rfl ?_
    refine w_iadd (pc' := 100) k154_99 rfl (by omega) ?_
    refine w_iald (pc' := 101) (v := tkF H E (aAg A) (fun n => aMk A n (m : Int)) l ((l : Int) / H)) k154_100 rfl (hM.1 61 (0, 4860) rfl) (by omega) ra ?_
    refine w_ic_le (pc' := 104) k154_101 rfl (fun c_101 => ?_) (fun c_101 => ?_)
    · refine w_aload (pc' := 117) k154_116 rfl rfl ?_
      refine w_getR (pc' := 120) (v := 61) k154_117 rfl (hM.1 57 (11, 30) rfl) (hM.2 57 6 61 rfl) ?_
      refine w_iload (pc' := 121) k154_120 rfl rfl ?_
      refine w_iload (pc' := 123) k154_121 rfl rfl ?_
      refine w_iadd (pc' := 124) k154_123 rfl (by omega) ?_
      refine w_iald (pc' := 125) (v := tkF H E (aAg A) (fun n => aMk A n (m : Int)) l ((l : Int) / H)) k154_124 rfl (hM.1 61 (0, 4860) rfl) (by omega) ra ?_
      refine w_iast (pc' := 126) k154_125 rfl (hM.1 61 (0, 4860) rfl) (by omega) ?_
      refine w_aload (pc' := 127) k154_126 rfl rfl ?_
      refine w_getR (pc' := 130) (v := 61) k154_127 rfl (hM.1 57 (11, 30) rfl) (hM.2 57 6 61 rfl) ?_
      refine w_iload (pc' := 131) k154_130 rfl rfl ?_
      refine w_iload (pc' := 133) k154_131 rfl rfl ?_
      refine w_iadd (pc' := 134) k154_133 rfl (by omega) ?_
      refine w_aload (pc' := 135) k154_134 rfl rfl ?_
      refine w_getR (pc' := 138) (v := 60) k154_135 rfl (hM.1 57 (11, 30) rfl) (hM.2 57 5 60 rfl) ?_
      refine w_iload (pc' := 139) k154_138 rfl rfl ?_
      refine w_iload (pc' := 141) k154_139 rfl rfl ?_
      refine w_iadd (pc' := 142) k154_141 rfl (by omega) ?_
      refine w_iald (pc' := 143) (v := aMk A ((l : Int) / H) (m : Int)) k154_142 rfl (hM.1 60 (0, 4860) rfl) (by omega) (by rw [upA_n (by decide)]; exact ma) ?_
      refine w_aload (pc' := 144) k154_143 rfl rfl ?_
      refine w_getR (pc' := 147) (v := 61) k154_144 rfl (hM.1 57 (11, 30) rfl) (hM.2 57 6 61 rfl) ?_
      refine w_iload (pc' := 148) k154_147 rfl rfl ?_
      refine w_iload (pc' := 150) k154_148 rfl rfl ?_
      refine w_iadd (pc' := 151) k154_150 rfl (by omega) ?_
      refine w_iald (pc' := 152) (v := tkF H E (aAg A) (fun n => aMk A n (m : Int)) l (upS H E l)) k154_151 rfl (hM.1 61 (0, 4860) rfl) (by omega) (by rw [upA_s, upF_n (by omega)]; exact rb) ?_
      refine w_ic_le (pc' := 155) k154_152 rfl (fun c_152 => ?_) (fun c_152 => ?_)
      · refine w_aload (pc' := 168) k154_167 rfl rfl ?_
        refine w_getR (pc' := 171) (v := 61) k154_168 rfl (hM.1 57 (11, 30) rfl) (hM.2 57 6 61 rfl) ?_
        refine w_iload (pc' := 172) k154_171 rfl rfl ?_
        refine w_iload (pc' := 174) k154_172 rfl rfl ?_
        refine w_iadd (pc' := 175) k154_174 rfl (by omega) ?_
        refine w_iald (pc' := 176) (v := tkF H E (aAg A) (fun n => aMk A n (m : Int)) l (upS H E l)) k154_175 rfl (hM.1 61 (0, 4860) rfl) (by omega) (by rw [upA_s, upF_n (by omega)]; exact rb) ?_
        refine w_iast (pc' := 177) k154_176 rfl (hM.1 61 (0, 4860) rfl) (by omega) ?_
        refine w_iinc (pc' := 180) (ls' := [_, _, _, _, _]) k154_177 rfl rfl (by omega) rfl ?_
        refine w_goto k154_180 ?_
        exact ih (m + 1) _ _ (by omega) (by omega) (h.st hK hl hm hc (x := tkF H E (aAg A) (fun n => aMk A n (m : Int)) l ((l : Int) / H)) (y := tkF H E (aAg A) (fun n => aMk A n (m : Int)) l (upS H E l)) (by omega) (by omega) (fun a q => by rw [upA_n q, upA_n q]) (by rw [upA_s, upA_s]))
      · refine w_aload (pc' := 156) k154_155 rfl rfl ?_
        refine w_getR (pc' := 159) (v := 60) k154_156 rfl (hM.1 57 (11, 30) rfl) (hM.2 57 5 60 rfl) ?_
        refine w_iload (pc' := 160) k154_159 rfl rfl ?_
        refine w_iload (pc' := 162) k154_160 rfl rfl ?_
        refine w_iadd (pc' := 163) k154_162 rfl (by omega) ?_
        refine w_iald (pc' := 164) (v := aMk A ((l : Int) / H) (m : Int)) k154_163 rfl (hM.1 60 (0, 4860) rfl) (by omega) (by rw [upA_n (by decide)]; exact ma) ?_
        refine w_goto k154_164 ?_
        refine w_iast (pc' := 177) k154_176 rfl (hM.1 61 (0, 4860) rfl) (by omega) ?_
        refine w_iinc (pc' := 180) (ls' := [_, _, _, _, _]) k154_177 rfl rfl (by omega) rfl ?_
        refine w_goto k154_180 ?_
        exact ih (m + 1) _ _ (by omega) (by omega) (h.st hK hl hm hc (x := tkF H E (aAg A) (fun n => aMk A n (m : Int)) l ((l : Int) / H)) (y := aMk A ((l : Int) / H) (m : Int)) (by omega) (by omega) (fun a q => by rw [upA_n q, upA_n q]) (by rw [upA_s, upA_s]))
    · refine w_aload (pc' := 105) k154_104 rfl rfl ?_
      refine w_getR (pc' := 108) (v := 60) k154_105 rfl (hM.1 57 (11, 30) rfl) (hM.2 57 5 60 rfl) ?_
      refine w_iload (pc' := 109) k154_108 rfl rfl ?_
      refine w_iload (pc' := 111) k154_109 rfl rfl ?_
      refine w_iadd (pc' := 112) k154_111 rfl (by omega) ?_
      refine w_iald (pc' := 113) (v := aMk A (upS H E l) (m : Int)) k154_112 rfl (hM.1 60 (0, 4860) rfl) (by omega) mb ?_
      refine w_goto k154_113 ?_
      refine w_iast (pc' := 126) k154_125 rfl (hM.1 61 (0, 4860) rfl) (by omega) ?_
      refine w_aload (pc' := 127) k154_126 rfl rfl ?_
      refine w_getR (pc' := 130) (v := 61) k154_127 rfl (hM.1 57 (11, 30) rfl) (hM.2 57 6 61 rfl) ?_
      refine w_iload (pc' := 131) k154_130 rfl rfl ?_
      refine w_iload (pc' := 133) k154_131 rfl rfl ?_
      refine w_iadd (pc' := 134) k154_133 rfl (by omega) ?_
      refine w_aload (pc' := 135) k154_134 rfl rfl ?_
      refine w_getR (pc' := 138) (v := 60) k154_135 rfl (hM.1 57 (11, 30) rfl) (hM.2 57 5 60 rfl) ?_
      refine w_iload (pc' := 139) k154_138 rfl rfl ?_
      refine w_iload (pc' := 141) k154_139 rfl rfl ?_
      refine w_iadd (pc' := 142) k154_141 rfl (by omega) ?_
      refine w_iald (pc' := 143) (v := aMk A ((l : Int) / H) (m : Int)) k154_142 rfl (hM.1 60 (0, 4860) rfl) (by omega) (by rw [upA_n (by decide)]; exact ma) ?_
      refine w_aload (pc' := 144) k154_143 rfl rfl ?_
      refine w_getR (pc' := 147) (v := 61) k154_144 rfl (hM.1 57 (11, 30) rfl) (hM.2 57 6 61 rfl) ?_
      refine w_iload (pc' := 148) k154_147 rfl rfl ?_
      refine w_iload (pc' := 150) k154_148 rfl rfl ?_
      refine w_iadd (pc' := 151) k154_150 rfl (by omega) ?_
      refine w_iald (pc' := 152) (v := tkF H E (aAg A) (fun n => aMk A n (m : Int)) l (upS H E l)) k154_151 rfl (hM.1 61 (0, 4860) rfl) (by omega) (by rw [upA_s, upF_n (by omega)]; exact rb) ?_
      refine w_ic_le (pc' := 155) k154_152 rfl (fun c_152 => ?_) (fun c_152 => ?_)
      · refine w_aload (pc' := 168) k154_167 rfl rfl ?_
        refine w_getR (pc' := 171) (v := 61) k154_168 rfl (hM.1 57 (11, 30) rfl) (hM.2 57 6 61 rfl) ?_
        refine w_iload (pc' := 172) k154_171 rfl rfl ?_
        refine w_iload (pc' := 174) k154_172 rfl rfl ?_
        refine w_iadd (pc' := 175) k154_174 rfl (by omega) ?_
        refine w_iald (pc' := 176) (v := tkF H E (aAg A) (fun n => aMk A n (m : Int)) l (upS H E l)) k154_175 rfl (hM.1 61 (0, 4860) rfl) (by omega) (by rw [upA_s, upF_n (by omega)]; exact rb) ?_
        refine w_iast (pc' := 177) k154_176 rfl (hM.1 61 (0, 4860) rfl) (by omega) ?_
        refine w_iinc (pc' := 180) (ls' := [_, _, _, _, _]) k154_177 rfl rfl (by omega) rfl ?_
        refine w_goto k154_180 ?_
        exact ih (m + 1) _ _ (by omega) (by omega) (h.st hK hl hm hc (x := aMk A (upS H E l) (m : Int)) (y := tkF H E (aAg A) (fun n => aMk A n (m : Int)) l (upS H E l)) (by omega) (by omega) (fun a q => by rw [upA_n q, upA_n q]) (by rw [upA_s, upA_s]))
      · refine w_aload (pc' := 156) k154_155 rfl rfl ?_
        refine w_getR (pc' := 159) (v := 60) k154_156 rfl (hM.1 57 (11, 30) rfl) (hM.2 57 5 60 rfl) ?_
        refine w_iload (pc' := 160) k154_159 rfl rfl ?_
        refine w_iload (pc' := 162) k154_160 rfl rfl ?_
        refine w_iadd (pc' := 163) k154_162 rfl (by omega) ?_
        refine w_iald (pc' := 164) (v := aMk A ((l : Int) / H) (m : Int)) k154_163 rfl (hM.1 60 (0, 4860) rfl) (by omega) (by rw [upA_n (by decide)]; exact ma) ?_
        refine w_goto k154_164 ?_
        refine w_iast (pc' := 177) k154_176 rfl (hM.1 61 (0, 4860) rfl) (by omega) ?_
        refine w_iinc (pc' := 180) (ls' := [_, _, _, _, _]) k154_177 rfl rfl (by omega) rfl ?_
        refine w_goto k154_180 ?_
        exact ih (m + 1) _ _ (by omega) (by omega) (h.st hK hl hm hc (x := aMk A (upS H E l) (m : Int)) (y := aMk A ((l : Int) / H) (m : Int)) (by omega) (by omega) (fun a q => by rw [upA_n q, upA_n q]) (by rw [upA_s, upA_s]))
theorem m154o (hF : MF sh R I K H E HO S L B A) {v2' : VV} {N : Nat} (hN : L = (N : Int)) : ∀ (q l : Nat) (i : Int) (v2 v3 v4 : VV) (I1 : Nat → Int → Int), l + q = N → i = (l : Int) → SPI I I1 H E S L A l 0 → WP X (d + 3) 154 29 [.inr (some 57), .inl i, v2, v3, v4] [] (sh, R, I1) 0 0 (fun r h' => ∃ I', r = .inl (spV H E S L A) ∧ h' = (sh, R, I') ∧ (∀ a, a ≠ 61 → I' a = I a) ∧ ∀ n l, 0 ≤ n → n < S → 0 ≤ l → l < L → I' 61 (108 * n + l) = tk1 H E L (aAg A) (fun n => aMk A n l) n) := by
  have hF0 := hF
  obtain ⟨hM, hK, hpo, hha, hms, hab, hB⟩ := hF
  have hr := hK.r
  intro q
  induction q with
  | zero =>
    rintro l i v2 v3 v4 I1 hk rfl h
    have hF1 := h.mf hF0
    have e : l = L.toNat := by omega
    subst e
    refine w_iload (pc' := 30) k154_29 rfl rfl ?_
    refine w_aload (pc' := 31) k154_30 rfl rfl ?_
    refine w_callE (pc' := 34) (as := [.inr (some 57)]) k154_31 rfl rfl (co_v rfl rfl (hM.1 57 (11, 30) rfl)) (by decide) (m132 hF1) ?_
    refine w_ic_ge (pc' := 37) k154_34 rfl (fun c_34 => ?_) (fun c_34 => absurd c_34 (by omega))
    refine w_c1 (pc' := 190) k154_189 rfl ?_
    refine w_istore (pc' := 191) (ls' := [_, _, _, _, _]) k154_190 rfl rfl rfl ?_
    refine w_c1 (pc' := 192) k154_191 rfl ?_
    refine w_istore (pc' := 193) (ls' := [_, _, _, _, _]) k154_192 rfl rfl rfl ?_
    exact m154c hF0 h (N := 45 * 108) rfl (45 * 108) 0 _ _ (by omega) rfl rfl
  | succ q ih =>
    rintro l i v2 v3 v4 I1 hk rfl h
    have hF1 := h.mf hF0
    have hl : (0 : Int) ≤ (l : Int) ∧ (l : Int) < L := by omega
    have hu := up_ne hK hl
    refine w_iload (pc' := 30) k154_29 rfl rfl ?_
    refine w_aload (pc' := 31) k154_30 rfl rfl ?_
    refine w_callE (pc' := 34) (as := [.inr (some 57)]) k154_31 rfl rfl (co_v rfl rfl (hM.1 57 (11, 30) rfl)) (by decide) (m132 hF1) ?_
    refine w_ic_ge (pc' := 37) k154_34 rfl (fun c_34 => absurd c_34 (by omega)) (fun c_34 => ?_)
    refine w_aload (pc' := 38) k154_37 rfl rfl ?_
    refine w_iload (pc' := 39) k154_38 rfl rfl ?_
    refine w_callB (pc' := 42) (as := [.inr (some 57), .inl _]) k154_39 rfl rfl (co_v rfl rfl (hM.1 57 (11, 30) rfl)) (by decide) (m142 hF1 hl) (fun q_39 => ?_) (fun q_39 => ?_)
    · refine w_if_eq (pc' := 45) k154_42 rfl (fun c_42 => absurd c_42 (by decide)) (fun _ => ?_)
      refine w_c2 (pc' := 47) k154_45 rfl ?_
      refine w_aload (pc' := 48) k154_47 rfl rfl ?_
      refine w_iload (pc' := 49) k154_48 rfl rfl ?_
      refine w_callE (pc' := 52) (as := [.inr (some 57), .inl _]) k154_49 rfl rfl (co_v rfl rfl (hM.1 57 (11, 30) rfl)) (by decide) (m140 hF1 hl) ?_
      refine w_imul (pc' := 53) k154_52 rfl (by omega) ?_
      refine w_istore (pc' := 54) (ls' := [_, _, _, _, _]) k154_53 rfl rfl rfl ?_
      refine w_c2 (pc' := 56) k154_54 rfl ?_
      refine w_aload (pc' := 57) k154_56 rfl rfl ?_
      refine w_iload (pc' := 58) k154_57 rfl rfl ?_
      refine w_callE (pc' := 61) (as := [.inr (some 57), .inl _]) k154_58 rfl rfl (co_v rfl rfl (hM.1 57 (11, 30) rfl)) (by decide) (m141 hF1 hl) ?_
      refine w_imul (pc' := 62) k154_61 rfl (by omega) ?_
      refine w_istore (pc' := 63) (ls' := [_, _, _, _, _]) k154_62 rfl rfl rfl ?_
      refine w_c1 (pc' := 64) k154_63 rfl ?_
      refine w_istore (pc' := 66) (ls' := [_, _, _, _, _]) k154_64 rfl rfl rfl ?_
      refine m154i hF0 hl.2 q_39 hN (fun I3 v2 v3 v4 h3 => ?_) N 0 _ _ (by omega) rfl h
      refine w_iinc (pc' := 186) (ls' := [_, _, _, _, _]) k154_183 rfl rfl (by omega) rfl ?_
      refine w_goto k154_186 ?_
      exact ih (l + 1) _ _ _ _ _ (by omega) (by omega) (h3.nx (Int.le_refl _))
    · refine w_if_eq (pc' := 45) k154_42 rfl (fun _ => ?_) (fun c_42 => absurd c_42 (by decide))
      refine w_iinc (pc' := 186) (ls' := [_, _, _, _, _]) k154_183 rfl rfl (by omega) rfl ?_
      refine w_goto k154_186 ?_
      exact ih (l + 1) _ _ _ _ _ (by omega) (by omega) (h.skip q_39)
theorem m154 (hF : MF sh R I K H E HO S L B A)  : WPM X (d + 3) 154 [.inr (some 57)] (sh, R, I) 0 0 (fun r h' => ∃ I', r = .inl (spV H E S L A) ∧ h' = (sh, R, I') ∧ (∀ a, a ≠ 61 → I' a = I a) ∧ ∀ n l, 0 ≤ n → n < S → 0 ≤ l → l < L → I' 61 (108 * n + l) = tk1 H E L (aAg A) (fun n => aMk A n l) n) := by
  have hF0 := hF
  obtain ⟨hM, hK, hpo, hha, hms, hab, hB⟩ := hF
  have hr := hK.r
  show WP X (d + 3) 154 0 [.inr (some 57), .inr none, .inr none, .inr none, .inr none] [] (sh, R, I) 0 0 _
  refine w_c1 (pc' := 1) k154_0 rfl ?_
  refine w_istore (pc' := 2) (ls' := [_, _, _, _, _]) k154_1 rfl rfl rfl ?_
  refine k154a hM (fun v1 => ?_) 4860 0 _ _ (by omega) rfl (by rw [cqF_0, upA_id])
  refine w_c1 (pc' := 28) k154_27 rfl ?_
  refine w_istore (pc' := 29) (ls' := [_, _, _, _, _]) k154_28 rfl rfl rfl ?_
  refine m154o hF0 (v2' := .inl 0) (N := L.toNat) (by omega) L.toNat 0 _ _ _ _ _ (by omega) rfl ⟨fun a q => upA_n q, fun j q1 q2 => ?_⟩
  rw [upA_s, ← Int.zero_add j, cqF_in ⟨q1, q2⟩, Int.zero_add]
  by_cases c : j % 108 < L ∧ j / 108 < S
  · rw [if_pos c, if_neg (by omega)]
    show _ = aMk A (j / 108) (j % 108)
    rw [← hms.2.2.1 (j / 108) (j % 108) (by omega) c.2 (by omega) c.1]
    congr 1
    omega
  · rw [if_neg c]
end M85
