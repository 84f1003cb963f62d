/-! ===== REFERENCE: its world; undo, turns, cut, fail, heal ===== -/
/-- what is kept at k is A -/
def MO (I : Nat → Int → Int) (k S L : Int) (A : AS) : Prop := I 66 k = aNf A ∧ (∀ l, 0 ≤ l → l < L → I 63 (108 * k + l) = aAg A l) ∧ (∀ n l, 0 ≤ n → n < S → 0 ≤ l → l < L → I 64 (4860 * k + (108 * n + l)) = aMk A n l) ∧ (∀ f, 0 ≤ f → f < aNf A → I 65 (64 * k + 4 * f) = aFr A f ∧ I 65 (64 * k + (4 * f + 1)) = aTo A f ∧ I 65 (64 * k + (4 * f + 2)) = aSz A f ∧ I 65 (64 * k + (4 * f + 3)) = aSh A f)
def HW (I : Nat → Int → Int) (H HO S L B : Int) (A1 A2 : AS) (u : Int) : Prop := (0 ≤ u ∧ u ≤ 2) ∧ (1 ≤ u → MO I (u - 1) S L A1 ∧ AB H HO S L B A1) ∧ (u = 2 → MO I 0 S L A2 ∧ AB H HO S L B A2)
/-- the reference's whole world -/
def MG (sh : List (Nat × Nat)) (R : Nat → Nat → Option Nat) (I : Nat → Int → Int) (K H E HO S L B : Int) (z : ZZ) (tx : Int → Int) (len : Int) : Prop := MF sh R I K H E HO S L B z.1 ∧ I 57 9 = z.2.2.2 ∧ HW I H HO S L B z.2.1 z.2.2.1 z.2.2.2 ∧ MT I tx len
abbrev QN (X : Nat × (Int → Int)) (d y : Nat) (as : List VV) (sh : List (Nat × Nat)) (R : Nat → Nat → Option Nat) (I : Nat → Int → Int) (K H E HO S L B v : Int) (z : ZZ) (tx : Int → Int) (len : Int) : Prop := WPM X d y as (sh, R, I) 0 0 (fun r h' => r = .inl v ∧ ∃ I', h' = (sh, R, I') ∧ (∀ a, a < 57 ∨ 77 < a → I' a = I a) ∧ MG sh R I' K H E HO S L B z tx len)
section M82
variable {X : Nat × (Int → Int)} {d : Nat} {sh : List (Nat × Nat)} {R : Nat → Nat → Option Nat} {I : Nat → Int → Int} {K H E HO S L B : Int} {A : AS}
variable {A1 A2 : AS} {u : Int} {tx : Int → Int} {len : Int}
theorem HW.keep {I' : Nat → Int → Int} (h : HW I H HO S L B A1 A2 u) (e : ∀ a, 63 ≤ a → a ≤ 66 → I' a = I a) : HW I' H HO S L B A1 A2 u := by
  unfold HW MO at h ⊢
  rw [e 63 (by omega) (by omega), e 64 (by omega) (by omega), e 65 (by omega) (by omega), e 66 (by omega) (by omega)]
  exact h
theorem HW.mono {B' : Int} (h : HW I H HO S L B A1 A2 u) (hb : B ≤ B') : HW I H HO S L B' A1 A2 u := ⟨h.1, fun q => ⟨(h.2.1 q).1, (h.2.1 q).2.mono hb⟩, fun q => ⟨(h.2.2 q).1, (h.2.2 q).2.mono hb⟩⟩
theorem MF.mono {B' : Int} (hF : MF sh R I K H E HO S L B A) (hb : B ≤ B') (hB : B' ≤ 1000000) : MF sh R I K H E HO S L B' A := ⟨hF.1, hF.2.1, hF.2.2.1, hF.2.2.2.1, hF.2.2.2.2.1, hF.2.2.2.2.2.1.mono hb, hB⟩
theorem MF.ab {B' : Int} (hF : MF sh R I K H E HO S L B' A) (h : AB H HO S L B A) (hB : B ≤ 1000000) : MF sh R I K H E HO S L B A := ⟨hF.1, hF.2.1, hF.2.2.1, hF.2.2.2.1, hF.2.2.2.2.1, h, hB⟩
theorem MT.keep {I' : Nat → Int → Int} (h : MT I tx len) (e1 : I' 57 0 = I 57 0) (e2 : I' 58 = I 58) : MT I' tx len := by
  unfold MT at h ⊢
  rw [e1, e2]
  exact h
theorem MG.mono {B' : Int} {z : ZZ} (h : MG sh R I K H E HO S L B z tx len) (hb : B ≤ B') (hB : B' ≤ 1000000) : MG sh R I K H E HO S L B' z tx len := ⟨h.1.mono hb hB, h.2.1, h.2.2.1.mono hb, h.2.2.2⟩
/-- a question changes nothing of it -/
theorem MG.qm {I' : Nat → Int → Int} {z : ZZ} (h : MG sh R I K H E HO S L B z tx len) (e : ∀ a, (a < 57 ∨ 77 < a) ∨ (57 < a ∧ a < 67) → I' a = I a) (e2 : ∀ j, j < 14 → I' 57 j = I 57 j) : MG sh R I' K H E HO S L B z tx len := ⟨h.1.keep (fun a q => e a (by omega)) (fun j q => e2 j (by omega)), by rw [e2 9 (by omega)]; exact h.2.1, h.2.2.1.keep (fun a q1 q2 => e a (by omega)), h.2.2.2.keep (e2 0 (by omega)) (e 58 (by omega))⟩
/-- what keeps leaves: the same state, and it is kept -/
theorem KPT.hw {I' : Nat → Int → Int} (hF : MF sh R I K H E HO S L B A) (hw : HW I H HO S L B A1 A2 u) (h : KPT I I' u) : HW I' H HO S L B A A1 (min 2 (u + 1)) := by
  obtain ⟨hM, hK, hpo, hha, hms, hab, hB⟩ := hF
  have hr := hK.r
  have hnf := hab.2.2.1
  obtain ⟨_, _, _, ⟨k1, k2, k3, k4⟩, k5⟩ := h
  obtain ⟨hu, w1, w2⟩ := hw
  refine ⟨by omega, fun _ => ⟨?_, hab⟩, fun q => ?_⟩
  · rw [show min 2 (u + 1) - 1 = min 1 u by omega]
    refine ⟨by rw [k4]; exact hms.1, fun l q1 q2 => by rw [k1 l q1 (by omega)]; exact hms.2.1 l q1 q2, fun n l q1 q2 q3 q4 => by rw [k2 _ (by omega) (by omega)]; exact hms.2.2.1 n l q1 q2 q3 q4, fun f q1 q2 => ?_⟩
    rw [k3 _ (by omega) (by omega), k3 _ (by omega) (by omega), k3 _ (by omega) (by omega), k3 _ (by omega) (by omega)]
    exact hms.2.2.2 f q1 q2
  · have hu1 : 1 ≤ u := by omega
    obtain ⟨⟨o1, o2, o3, o4⟩, oab⟩ := w1 hu1
    have hnf2 := oab.2.2.1
    obtain ⟨g1, g2, g3, g4⟩ := k5 hu1
    refine ⟨⟨by rw [g4]; exact o1, fun l q1 q2 => ?_, fun n l q1 q2 q3 q4 => ?_, fun f q1 q2 => ?_⟩, oab⟩
    · rw [show (108 : Int) * 0 + l = l by omega, g1 l q1 (by omega)]; exact o2 l q1 q2
    · rw [show (4860 : Int) * 0 + (108 * n + l) = 108 * n + l by omega, g2 _ (by omega) (by omega)]; exact o3 n l q1 q2 q3 q4
    · rw [show (64 : Int) * 0 + 4 * f = 4 * f by omega, show (64 : Int) * 0 + (4 * f + 1) = 4 * f + 1 by omega, show (64 : Int) * 0 + (4 * f + 2) = 4 * f + 2 by omega, show (64 : Int) * 0 + (4 * f + 3) = 4 * f + 3 by omega, g3 _ (by omega) (by omega), g3 _ (by omega) (by omega), g3 _ (by omega) (by omega), g3 _ (by omega) (by omega)]
      exact o4 f q1 q2
theorem KPT.mf {I' : Nat → Int → Int} (hF : MF sh R I K H E HO S L B A) (h : KPT I I' u) : MF sh R I' K H E HO S L B A := hF.keep (fun a q => h.1 a (by omega) (by omega)) (fun j q => h.2.1 j (by omega))
/-- a change behind keeps -/
theorem MG.push {I1 I2 : Nat → Int → Int} {A' : AS} {B' : Int} (hG : MG sh R I K H E HO S L B (A, A1, A2, u) tx len) (h : KPT I I1 u) (hb : B ≤ B') (hF2 : MF sh R I2 K H E HO S L B' A') (e : ∀ a, a = 58 ∨ (63 ≤ a ∧ a ≤ 66) → I2 a = I1 a) (e2 : ∀ j, j = 0 ∨ j = 9 → I2 57 j = I1 57 j) : MG sh R I2 K H E HO S L B' (pushZ (A, A1, A2, u) A') tx len := by
  refine ⟨hF2, ?_, ((h.hw hG.1 hG.2.2.1).keep (fun a q1 q2 => e a (by omega))).mono hb, hG.2.2.2.keep ?_ ?_⟩
  · rw [e2 9 (by omega)]; exact h.2.2.1
  · rw [e2 0 (by omega), h.2.1 0 (by omega)]
  · rw [e 58 (by omega), h.1 58 (by omega) (by omega)]
theorem up_r (hK : KP K H E HO S L) {l : Int} (hl : 0 ≤ l ∧ l < L) : 0 ≤ upS H E l ∧ upS H E l < S := by
  unfold upS
  rcases hK with ⟨rfl, rfl, rfl, rfl, rfl, rfl⟩ | ⟨rfl, rfl, rfl, rfl, rfl, rfl⟩ | ⟨rfl, rfl, rfl, rfl, rfl, rfl⟩ <;> split <;> omega
theorem lo_r (hK : KP K H E HO S L) {l : Int} (hl : 0 ≤ l ∧ l < L) : 0 ≤ l / H ∧ l / H < S := by
  rcases hK with ⟨rfl, rfl, rfl, rfl, rfl, rfl⟩ | ⟨rfl, rfl, rfl, rfl, rfl, rfl⟩ | ⟨rfl, rfl, rfl, rfl, rfl, rfl⟩ <;> omega
/-- one mark is another -/
def mkA (A : AS) (n0 l0 v : Int) : AS := (aAg A, fun n k => if n = n0 ∧ k = l0 then v else aMk A n k, A.2.2)
theorem MF.mark (hF : MF sh R I K H E HO S L B A) {n0 l0 v : Int} (hn : 0 ≤ n0 ∧ n0 < S) (hl : 0 ≤ l0 ∧ l0 < L) (hv : 0 ≤ v ∧ v ≤ B) : MF sh R (upA I 60 (upF (I 60) (108 * n0 + l0) v)) K H E HO S L B (mkA A n0 l0 v) := by
  obtain ⟨hM, hK, hpo, hha, hms, hab, hB⟩ := hF
  have hr := hK.r
  refine ⟨hM, hK, by rw [upA_n (by decide)]; exact hpo, by rw [upA_n (by decide)]; exact hha, ⟨by rw [upA_n (by decide)]; exact hms.1, fun l q1 q2 => by rw [upA_n (by decide)]; exact hms.2.1 l q1 q2, fun n l q1 q2 q3 q4 => ?_, fun f q1 q2 => by rw [upA_n (by decide)]; exact hms.2.2.2 f q1 q2⟩, ⟨hab.1, fun n l q1 q2 q3 q4 => ?_, hab.2.2⟩, hB⟩
  · rw [upA_s]
    show _ = if n = n0 ∧ l = l0 then v else aMk A n l
    by_cases c : n = n0 ∧ l = l0
    · rw [if_pos c, c.1, c.2, upF_s]
    · rw [if_neg c, upF_n (by omega)]; exact hms.2.2.1 n l q1 q2 q3 q4
  · show 0 ≤ (if n = n0 ∧ l = l0 then v else aMk A n l) ∧ (if n = n0 ∧ l = l0 then v else aMk A n l) ≤ B
    split
    · exact hv
    · exact hab.2.1 n l q1 q2 q3 q4
theorem turn_eq {l : Int} : mkA (mkA ((upF (aAg A) l (aAg A l + 1), A.2) : AS) (l / H) l (aAg A l + 1)) (upS H E l) l (aAg A l + 1) = turnA H E A l := by
  unfold mkA turnA
  refine Prod.ext rfl (Prod.ext ?_ rfl)
  funext n k
  show (if n = upS H E l ∧ k = l then aAg A l + 1 else if n = l / H ∧ k = l then aAg A l + 1 else aMk A n k) = if k = l ∧ (n = l / H ∨ n = upS H E l) then aAg A l + 1 else aMk A n k
  by_cases c : n = upS H E l ∧ k = l
  · rw [if_pos c, if_pos ⟨c.2, Or.inr c.1⟩]
  · rw [if_neg c]
    by_cases c2 : n = l / H ∧ k = l
    · rw [if_pos c2, if_pos ⟨c2.2, Or.inl c2.1⟩]
    · rw [if_neg c2, if_neg (fun z => z.2.elim (fun z2 => c2 ⟨z2, z.1⟩) (fun z2 => c ⟨z2, z.1⟩))]
theorem m148 (hG : MG sh R I K H E HO S L B (A, A1, A2, u) tx len) (hB1 : B + 2 ≤ 1000000) : QN X (d + 1) 148 [.inr (some 57)] sh R I K H E HO S L (B + 1) (undV u) (undZ (A, A1, A2, u)) tx len := by
  have hG0 := hG
  obtain ⟨hF, h9, ⟨hu, w1, w2⟩, hT⟩ := hG
  have hF : MF sh R I K H E HO S L B A := hF
  have hF0 := hF
  obtain ⟨hM, hK, hpo, hha, hms, hab, hB⟩ := hF
  have hr := hK.r
  have h9' : I 57 9 = u := h9
  have step : ∀ v J0 J1 J2 J3 : Nat → Int → Int, 1 ≤ u → J0 = upA I 57 (upF (I 57) 9 (u - 1)) → J1 = upA J0 59 (cqF (J0 59) (J0 63) 0 (108 * (u - 1)) 108) → J2 = upA J1 60 (cqF (J1 60) (J1 64) 0 (4860 * (u - 1)) 4860) → J3 = upA J2 62 (cqF (J2 62) (J2 65) 0 (64 * (u - 1)) 64) → ∀ v1, WP X (d + 1) 148 124 [.inr (some 57), v1] [] (sh, R, J3) 0 0 (fun r h' => r = .inl (undV u) ∧ ∃ I', h' = (sh, R, I') ∧ (∀ a, a < 57 ∨ 77 < a → I' a = I a) ∧ MG sh R I' K H E HO S L (B + 1) (undZ (A, A1, A2, u)) tx len) := by
    intro v J0 J1 J2 J3 hu1 e0 e1 e2 e3 v1
    have s57 : J3 57 = upF (I 57) 9 (u - 1) := by rw [e3, upA_n (by decide), e2, upA_n (by decide), e1, upA_n (by decide), e0, upA_s]
    have g9 : J3 57 9 = u - 1 := by rw [s57, upF_s]
    have f1 : J3 59 = cqF (I 59) (I 63) 0 (108 * (u - 1)) 108 := by rw [e3, upA_n (by decide), e2, upA_n (by decide), e1, upA_s, e0, upA_n (by decide), upA_n (by decide)]
    have f2 : J3 60 = cqF (I 60) (I 64) 0 (4860 * (u - 1)) 4860 := by rw [e3, upA_n (by decide), e2, upA_s, e1, upA_n (by decide), upA_n (by decide), e0, upA_n (by decide), upA_n (by decide)]
    have f3 : J3 62 = cqF (I 62) (I 65) 0 (64 * (u - 1)) 64 := by rw [e3, upA_s, e2, upA_n (by decide), upA_n (by decide), e1, upA_n (by decide), upA_n (by decide), e0, upA_n (by decide), upA_n (by decide)]
    have fo : ∀ a, a ≠ 57 → a ≠ 59 → a ≠ 60 → a ≠ 62 → J3 a = I a := fun a q1 q2 q3 q4 => by rw [e3, upA_n q4, e2, upA_n q3, e1, upA_n q2, e0, upA_n q1]
    obtain ⟨⟨o1, o2, o3, o4⟩, oab⟩ := w1 hu1
    have hnf2 : 0 ≤ aNf A1 ∧ aNf A1 ≤ 16 := oab.2.2.1
    have g66 : J3 66 (u - 1) = aNf A1 := by rw [fo 66 (by decide) (by decide) (by decide) (by decide)]; exact o1
    refine w_aload (pc' := 125) k148_124 rfl rfl ?_
    refine w_aload (pc' := 126) k148_125 rfl rfl ?_
    refine w_getR (pc' := 129) (v := 66) k148_126 rfl (hM.1 57 (11, 30) rfl) (hM.2 57 13 66 rfl) ?_
    refine w_aload (pc' := 130) k148_129 rfl rfl ?_
    refine w_getI (pc' := 133) (ki := 9) (v := u - 1) k148_130 rfl (hM.1 57 (11, 30) rfl) rfl g9 ?_
    refine w_iald (pc' := 134) (v := aNf A1) k148_133 rfl (hM.1 66 (0, 2) rfl) (by omega) g66 ?_
    refine w_putI (pc' := 137) (ki := 7) k148_134 rfl (hM.1 57 (11, 30) rfl) rfl ?_
    refine w_aload (pc' := 138) k148_137 rfl rfl ?_
    refine w_getI (pc' := 141) (ki := 9) (v := u - 1) k148_138 rfl (hM.1 57 (11, 30) rfl) rfl (by rw [upA_s, upF_n (by decide)]; exact g9) ?_
    refine w_reti k148_141 ⟨by unfold undV; rw [if_pos hu1], _, rfl, fun a q => by rw [upA_n (by omega), fo a (by omega) (by omega) (by omega) (by omega)], ?_⟩
    have hz : undZ (A, A1, A2, u) = (A1, A2, A2, u - 1) := by unfold undZ; exact if_pos hu1
    rw [hz]
    refine ⟨⟨hM, hK, by rw [upA_s, upF_n (by decide), s57, upF_n (by decide)]; exact hpo, by rw [upA_s, upF_n (by decide), s57, upF_n (by decide)]; exact hha, ⟨by rw [upA_s, upF_s], fun l q1 q2 => ?_, fun n l q1 q2 q3 q4 => ?_, fun f q1 q2 => ?_⟩, oab.mono (by omega), by omega⟩, by rw [upA_s, upF_n (by decide)]; exact g9, ⟨by show 0 ≤ u - 1 ∧ u - 1 ≤ 2; omega, fun q => ?_, fun q => absurd (show u - 1 = 2 from q) (by omega)⟩, hT.keep (by rw [upA_s, upF_n (by decide), s57, upF_n (by decide)]) (by rw [upA_n (by decide), fo 58 (by decide) (by decide) (by decide) (by decide)])⟩
    · rw [upA_n (by decide), f1, ← Int.zero_add l, cqF_in ⟨q1, by omega⟩, Int.zero_add]; exact o2 l q1 q2
    · rw [upA_n (by decide), f2, ← Int.zero_add (108 * n + l), cqF_in ⟨by omega, by omega⟩]; exact o3 n l q1 q2 q3 q4
    · have q3 : f < aNf A1 := q2
      rw [upA_n (by decide), f3, ← Int.zero_add (4 * f), cqF_in ⟨by omega, by omega⟩, Int.zero_add, ← Int.zero_add (4 * f + 1), cqF_in ⟨by omega, by omega⟩, ← Int.zero_add (4 * f + 2), cqF_in ⟨by omega, by omega⟩, ← Int.zero_add (4 * f + 3), cqF_in ⟨by omega, by omega⟩]
      exact o4 f q1 q2
    · have q9 : 1 ≤ u - 1 := q
      have hu2 : u = 2 := by omega
      obtain ⟨m2, ab2⟩ := w2 hu2
      refine ⟨?_, ab2.mono (by omega)⟩
      unfold MO at m2 ⊢
      show _ ∧ _
      rw [show u - 1 - 1 = 0 by omega, upA_n (by decide), upA_n (by decide), upA_n (by decide), upA_n (by decide), fo 63 (by decide) (by decide) (by decide) (by decide), fo 64 (by decide) (by decide) (by decide) (by decide), fo 65 (by decide) (by decide) (by decide) (by decide), fo 66 (by decide) (by decide) (by decide) (by decide)]
      exact m2
  show WP X (d + 1) 148 0 [.inr (some 57), .inr none] [] (sh, R, I) 0 0 _
  refine w_aload (pc' := 1) k148_0 rfl rfl ?_
  refine w_getI (pc' := 4) (ki := 9) (v := u) k148_1 rfl (hM.1 57 (11, 30) rfl) rfl h9' ?_
  refine w_if_ne (pc' := 7) k148_4 rfl (fun c_4 => ?_) (fun c_4 => ?_)
  · refine w_aload (pc' := 11) k148_10 rfl rfl ?_
    refine w_dup (pc' := 12) k148_11 rfl ?_
    refine w_getI (pc' := 15) (ki := 9) (v := u) k148_12 rfl (hM.1 57 (11, 30) rfl) rfl h9' ?_
    refine w_c1 (pc' := 16) k148_15 rfl ?_
    refine w_isub (pc' := 17) k148_16 rfl (by omega) ?_
    refine w_putI (pc' := 20) (ki := 9) k148_17 rfl (hM.1 57 (11, 30) rfl) rfl ?_
    refine w_c1 (pc' := 21) k148_20 rfl ?_
    refine w_istore (pc' := 22) (ls' := [_, _]) k148_21 rfl rfl rfl ?_
    refine k148a (I := (upA I 57 (upF (I 57) 9 (u - 1)))) hM (by rw [upA_s, upF_s]) (by omega) (fun v1 => ?_) 108 0 _ _ (by omega) rfl (by rw [cqF_0, upA_id])
    refine w_c1 (pc' := 55) k148_54 rfl ?_
    refine w_istore (pc' := 56) (ls' := [_, _]) k148_55 rfl rfl rfl ?_
    refine k148b (I := (upA (upA I 57 (upF (I 57) 9 (u - 1))) 59 (cqF ((upA I 57 (upF (I 57) 9 (u - 1))) 59) ((upA I 57 (upF (I 57) 9 (u - 1))) 63) 0 (108 * (u - 1)) 108))) hM (by rw [upA_n (by decide), upA_s, upF_s]) (by omega) (fun v1 => ?_) 4860 0 _ _ (by omega) rfl (by rw [cqF_0, upA_id])
    refine w_c1 (pc' := 91) k148_90 rfl ?_
    refine w_istore (pc' := 92) (ls' := [_, _]) k148_91 rfl rfl rfl ?_
    refine k148c (I := (upA (upA (upA I 57 (upF (I 57) 9 (u - 1))) 59 (cqF ((upA I 57 (upF (I 57) 9 (u - 1))) 59) ((upA I 57 (upF (I 57) 9 (u - 1))) 63) 0 (108 * (u - 1)) 108)) 60 (cqF ((upA (upA I 57 (upF (I 57) 9 (u - 1))) 59 (cqF ((upA I 57 (upF (I 57) 9 (u - 1))) 59) ((upA I 57 (upF (I 57) 9 (u - 1))) 63) 0 (108 * (u - 1)) 108)) 60) ((upA (upA I 57 (upF (I 57) 9 (u - 1))) 59 (cqF ((upA I 57 (upF (I 57) 9 (u - 1))) 59) ((upA I 57 (upF (I 57) 9 (u - 1))) 63) 0 (108 * (u - 1)) 108)) 64) 0 (4860 * (u - 1)) 4860))) hM (by rw [upA_n (by decide), upA_n (by decide), upA_s, upF_s]) (by omega) (fun v1 => ?_) 64 0 _ _ (by omega) rfl (by rw [cqF_0, upA_id])
    exact step I _ _ _ _ (by omega) rfl rfl rfl rfl _
  · refine w_c2 (pc' := 9) k148_7 rfl ?_
    exact w_reti k148_9 ⟨by unfold undV; rw [if_neg (by omega)], _, rfl, fun _ _ => rfl, by unfold undZ; rw [if_neg (show ¬ 1 ≤ u by omega)]; exact hG0.mono (by omega) (by omega)⟩
theorem m149 (hF : MF sh R I K H E HO S L B A) {l : Int} (hl : 0 ≤ l ∧ l < L) (hB1 : B + 1 ≤ 1000000) : WPM X (d + 3) 149 [.inr (some 57), .inl l] (sh, R, I) 0 0 (fun _ h' => ∃ I', h' = (sh, R, I') ∧ (∀ a, a ≠ 59 → a ≠ 60 → I' a = I a) ∧ MF sh R I' K H E HO S L (B + 1) (turnA H E A l)) := by
  have hF0 := hF
  obtain ⟨hM, hK, hpo, hha, hms, hab, hB⟩ := hF
  have hr := hK.r
  have hal := hab.1 l hl.1 hl.2
  have hup : 0 ≤ upS H E l ∧ upS H E l < S := up_r hK hl
  have hlo : 0 ≤ l / H ∧ l / H < S := lo_r hK hl
  have f1 : MF sh R (upA I 59 (upF (I 59) l (aAg A l + 1))) K H E HO S L (B + 1) ((upF (aAg A) l (aAg A l + 1), A.2) : AS) := hF0.age hl hB1 (by rw [upA_s]) (fun a q => by rw [upA_n (by omega)]) (fun j q => by rw [upA_n (by omega)])
  have f2 := f1.mark hlo hl (v := aAg A l + 1) (by omega)
  have f3 := f2.mark hup hl (v := aAg A l + 1) (by omega)
  rw [turn_eq] at f3
  have hv1 : (upA I 59 (upF (I 59) l (aAg A l + 1))) 59 l = aAg A l + 1 := by rw [upA_s, upF_s]
  have hv2 : (upA (upA I 59 (upF (I 59) l (aAg A l + 1))) 60 (upF ((upA I 59 (upF (I 59) l (aAg A l + 1))) 60) (108 * (l / H) + l) (aAg A l + 1))) 59 l = aAg A l + 1 := by rw [upA_n (by decide)]; exact hv1
  show WP X (d + 3) 149 0 [.inr (some 57), .inl l] [] (sh, R, I) 0 0 _
  refine w_aload (pc' := 1) k149_0 rfl rfl ?_
  refine w_getR (pc' := 4) (v := 59) k149_1 rfl (hM.1 57 (11, 30) rfl) (hM.2 57 4 59 rfl) ?_
  refine w_iload (pc' := 5) k149_4 rfl rfl ?_
  refine w_dup2 (pc' := 6) k149_5 rfl ?_
  refine w_iald (pc' := 7) (v := aAg A l) k149_6 rfl (hM.1 59 (0, 108) rfl) (by omega) (hms.2.1 l hl.1 hl.2) ?_
  refine w_c1 (pc' := 8) k149_7 rfl ?_
  refine w_iadd (pc' := 9) k149_8 rfl (by omega) ?_
  refine w_iast (pc' := 10) k149_9 rfl (hM.1 59 (0, 108) rfl) (by omega) ?_
  refine w_aload (pc' := 11) k149_10 rfl rfl ?_
  refine w_getR (pc' := 14) (v := 60) k149_11 rfl (hM.1 57 (11, 30) rfl) (hM.2 57 5 60 rfl) ?_
  refine w_c2 (pc' := 16) k149_14 rfl ?_
  refine w_aload (pc' := 17) k149_16 rfl rfl ?_
  refine w_iload (pc' := 18) k149_17 rfl rfl ?_
  refine w_callE (pc' := 21) (as := [.inr (some 57), .inl _]) k149_18 rfl rfl (co_v rfl rfl (hM.1 57 (11, 30) rfl)) (by decide) (m140 f1 hl) ?_
  refine w_imul (pc' := 22) k149_21 rfl (by omega) ?_
  refine w_iload (pc' := 23) k149_22 rfl rfl ?_
  refine w_iadd (pc' := 24) k149_23 rfl (by omega) ?_
  refine w_aload (pc' := 25) k149_24 rfl rfl ?_
  refine w_getR (pc' := 28) (v := 59) k149_25 rfl (hM.1 57 (11, 30) rfl) (hM.2 57 4 59 rfl) ?_
  refine w_iload (pc' := 29) k149_28 rfl rfl ?_
  refine w_iald (pc' := 30) (v := aAg A l + 1) k149_29 rfl (hM.1 59 (0, 108) rfl) (by omega) hv1 ?_
  refine w_iast (pc' := 31) k149_30 rfl (hM.1 60 (0, 4860) rfl) (by omega) ?_
  refine w_aload (pc' := 32) k149_31 rfl rfl ?_
  refine w_getR (pc' := 35) (v := 60) k149_32 rfl (hM.1 57 (11, 30) rfl) (hM.2 57 5 60 rfl) ?_
  refine w_c2 (pc' := 37) k149_35 rfl ?_
  refine w_aload (pc' := 38) k149_37 rfl rfl ?_
  refine w_iload (pc' := 39) k149_38 rfl rfl ?_
  refine w_callE (pc' := 42) (as := [.inr (some 57), .inl _]) k149_39 rfl rfl (co_v rfl rfl (hM.1 57 (11, 30) rfl)) (by decide) (m141 f2 hl) ?_
  refine w_imul (pc' := 43) k149_42 rfl (by omega) ?_
  refine w_iload (pc' := 44) k149_43 rfl rfl ?_
  refine w_iadd (pc' := 45) k149_44 rfl (by omega) ?_
  refine w_aload (pc' := 46) k149_45 rfl rfl ?_
  refine w_getR (pc' := 49) (v := 59) k149_46 rfl (hM.1 57 (11, 30) rfl) (hM.2 57 4 59 rfl) ?_
  refine w_iload (pc' := 50) k149_49 rfl rfl ?_
  refine w_iald (pc' := 51) (v := aAg A l + 1) k149_50 rfl (hM.1 59 (0, 108) rfl) (by omega) hv2 ?_
  refine w_iast (pc' := 52) k149_51 rfl (hM.1 60 (0, 4860) rfl) (by omega) ?_
  exact w_retv k149_52 ⟨_, rfl, fun a q1 q2 => by rw [upA_n q2, upA_n q2, upA_n q1], f3⟩
theorem m150 (hG : MG sh R I K H E HO S L B (A, A1, A2, u) tx len) (hB1 : B + 2 ≤ 1000000) {l w : Int} : QN X (d + 4) 150 [.inr (some 57), .inl l, .inl w] sh R I K H E HO S L (B + 1) (cutV L A l w) (cutZ H E L (A, A1, A2, u) l w) tx len := by
  have hG0 := hG
  obtain ⟨hF, h9, hW, hT⟩ := hG
  have hF : MF sh R I K H E HO S L B A := hF
  have hF0 := hF
  obtain ⟨hM, hK, hpo, hha, hms, hab, hB⟩ := hF
  have hr := hK.r
  have h9' : I 57 9 = u := h9
  show WP X (d + 4) 150 0 [.inr (some 57), .inl l, .inl w] [] (sh, R, I) 0 0 _
  refine w_aload (pc' := 1) k150_0 rfl rfl ?_
  refine w_iload (pc' := 2) k150_1 rfl rfl ?_
  refine w_callB (pc' := 5) (as := [.inr (some 57), .inl _]) k150_2 rfl rfl (co_v rfl rfl (hM.1 57 (11, 30) rfl)) (by decide) (m135 hF0) (fun q_2 => ?_) (fun q_2 => ?_)
  · refine w_if_eq (pc' := 8) k150_5 rfl (fun c_5 => absurd c_5 (by decide)) (fun _ => ?_)
    refine w_iload (pc' := 9) k150_8 rfl rfl ?_
    refine w_c1 (pc' := 10) k150_9 rfl ?_
    refine w_c1 (pc' := 11) k150_10 rfl ?_
    refine w_callB (pc' := 14) (as := [.inl _, .inl _, .inl _]) k150_11 rfl rfl (co_s (Or.inl rfl) rfl rfl rfl) (by decide) (m117) (fun q_11 => ?_) (fun q_11 => ?_)
    · refine w_if_ne (pc' := 17) k150_14 rfl (fun _ => ?_) (fun c_14 => absurd c_14 (by decide))
      refine w_aload (pc' := 20) k150_19 rfl rfl ?_
      have hal := hab.1 l q_2.1 q_2.2
      have hev : (ev (aAg A l) = true ↔ w = 0) ↔ aAg A l % 2 = w := by
        rw [ev_t]
        omega
      refine w_getR (pc' := 23) (v := 59) k150_20 rfl (hM.1 57 (11, 30) rfl) (hM.2 57 4 59 rfl) ?_
      refine w_iload (pc' := 24) k150_23 rfl rfl ?_
      refine w_iald (pc' := 25) (v := aAg A l) k150_24 rfl (hM.1 59 (0, 108) rfl) (by omega) (hms.2.1 l q_2.1 q_2.2) ?_
      refine w_c1 (pc' := 26) k150_25 rfl ?_
      refine w_irem (pc' := 27) k150_26 rfl (by omega) ?_
      refine w_iload (pc' := 28) k150_27 rfl rfl ?_
      refine w_ic_ne (pc' := 31) k150_28 rfl (fun c_28 => ?_) (fun c_28 => ?_)
      · refine w_aload (pc' := 35) k150_34 rfl rfl ?_
        refine w_callV (pc' := 38) (as := [.inr (some 57)]) k150_35 rfl rfl (co_v rfl rfl (hM.1 57 (11, 30) rfl)) (by decide) (m147 hM h9' hW.1) (fun r_35 h_35 hq => ?_)
        obtain ⟨I_1, rfl, kp⟩ := hq
        have hF1 := kp.mf hF0
        refine w_aload (pc' := 39) k150_38 rfl rfl ?_
        refine w_iload (pc' := 40) k150_39 rfl rfl ?_
        refine w_callV (pc' := 43) (as := [.inr (some 57), .inl _]) k150_40 rfl rfl (co_v rfl rfl (hM.1 57 (11, 30) rfl)) (by decide) (m149 hF1 q_2 (by omega)) (fun r_40 h_40 hq => ?_)
        obtain ⟨I_2, rfl, t1, t2⟩ := hq
        refine w_aload (pc' := 44) k150_43 rfl rfl ?_
        refine w_getR (pc' := 47) (v := 59) k150_44 rfl (hM.1 57 (11, 30) rfl) (hM.2 57 4 59 rfl) ?_
        refine w_iload (pc' := 48) k150_47 rfl rfl ?_
        refine w_iald (pc' := 49) (v := aAg A l + 1) k150_48 rfl (hM.1 59 (0, 108) rfl) (by omega) (by rw [t2.2.2.2.2.1.2.1 l q_2.1 q_2.2]; exact upF_s) ?_
        exact w_reti k150_49 ⟨by unfold cutV; rw [if_pos (show (0 ≤ l ∧ l < L) ∧ 0 ≤ w ∧ w ≤ 1 from ⟨q_2, q_11⟩), if_neg (fun z => c_28 (hev.mp z))], _, rfl, fun a q => by rw [t1 a (by omega) (by omega), kp.1 a (by omega) (by omega)], by unfold cutZ; rw [if_pos (show (0 ≤ l ∧ l < L) ∧ 0 ≤ w ∧ w ≤ 1 from ⟨q_2, q_11⟩), if_neg (fun z => c_28 (hev.mp z))]; exact hG0.push kp (by omega) t2 (fun a q => t1 a (by omega) (by omega)) (fun j q => by rw [t1 57 (by decide) (by decide)])⟩
      · refine w_c2 (pc' := 33) k150_31 rfl ?_
        exact w_reti k150_33 ⟨by unfold cutV; rw [if_pos (show (0 ≤ l ∧ l < L) ∧ 0 ≤ w ∧ w ≤ 1 from ⟨q_2, q_11⟩), if_pos (hev.mpr c_28)], _, rfl, fun _ _ => rfl, by unfold cutZ; rw [if_pos (show (0 ≤ l ∧ l < L) ∧ 0 ≤ w ∧ w ≤ 1 from ⟨q_2, q_11⟩), if_pos (hev.mpr c_28)]; exact hG0.mono (by omega) (by omega)⟩
    · refine w_if_ne (pc' := 17) k150_14 rfl (fun c_14 => absurd c_14 (by decide)) (fun _ => ?_)
      refine w_c1 (pc' := 18) k150_17 rfl ?_
      exact w_reti k150_18 ⟨by unfold cutV; rw [if_neg (fun z => q_11 z.2)], _, rfl, fun _ _ => rfl, by unfold cutZ; rw [if_neg (fun z => q_11 z.2)]; exact hG0.mono (by omega) (by omega)⟩
  · refine w_if_eq (pc' := 8) k150_5 rfl (fun _ => ?_) (fun c_5 => absurd c_5 (by decide))
    refine w_c1 (pc' := 18) k150_17 rfl ?_
    exact w_reti k150_18 ⟨by unfold cutV; rw [if_neg (fun z => q_2 z.1)], _, rfl, fun _ _ => rfl, by unfold cutZ; rw [if_neg (fun z => q_2 z.1)]; exact hG0.mono (by omega) (by omega)⟩
theorem m151t (hG : MG sh R I K H E HO S L B (A, A1, A2, u) tx len) (hB1 : B + 2 ≤ 1000000) {n w c : Int} (hn : 0 ≤ n ∧ n < S) (hw : 0 ≤ w ∧ w ≤ 1) (hc : c = lkC H E L A n w) (hc0 : c ≠ 0) {I1 : Nat → Int → Int} (kp : KPT I I1 u) {N : Nat} (hN : L = (N : Int)) : ∀ (k m : Nat) (i : Int) (I2 : Nat → Int → Int), m + k = N → i = (m : Int) → (∀ a, a ≠ 59 → a ≠ 60 → I2 a = I1 a) → MF sh R I2 K H E HO S L (B + 1) (trF H E A n w m) → WP X (d + 4) 151 75 [.inr (some 57), .inl n, .inl w, .inl c, .inl i] [] (sh, R, I2) 0 0 (fun r h' => r = .inl (tlV H E L A n w) ∧ ∃ I', h' = (sh, R, I') ∧ (∀ a, a < 57 ∨ 77 < a → I' a = I a) ∧ MG sh R I' K H E HO S L (B + 1) (tlZ H E L (A, A1, A2, u) n w) tx len) := by
  have hG0 := hG
  obtain ⟨hF, h9, hW, hT⟩ := hG
  have hF : MF sh R I K H E HO S L B A := hF
  have hF0 := hF
  obtain ⟨hM, hK, hpo, hha, hms, hab, hB⟩ := hF
  have hr := hK.r
  have hlk : ∀ (A' : AS) (m : Int), (lkP H E A' n w m = true ↔ ((m / H = n ∨ upS H E m = n) ∧ aAg A' m % 2 = w)) := by
    intro A' m
    unfold lkP
    rw [decide_eq_true_iff]
    by_cases c : ev (aAg A' m) = true
    · rw [if_pos c]; rw [ev_t] at c; refine ⟨fun z => ⟨z.1, by omega⟩, fun z => ⟨z.1, by omega⟩⟩
    · rw [if_neg c]; rw [ev_t] at c; refine ⟨fun z => ⟨z.1, by omega⟩, fun z => ⟨z.1, by omega⟩⟩
  intro k
  induction k with
  | zero =>
    rintro m i I2 hk rfl h1 h2
    have e : m = N := by omega
    subst e
    have hLN : L.toNat = m := by omega
    refine w_iload (pc' := 77) k151_75 rfl rfl ?_
    refine w_aload (pc' := 78) k151_77 rfl rfl ?_
    refine w_callE (pc' := 81) (as := [.inr (some 57)]) k151_78 rfl rfl (co_v rfl rfl (hM.1 57 (11, 30) rfl)) (by decide) (m132 h2) ?_
    refine w_ic_ge (pc' := 84) k151_81 rfl (fun c_81 => ?_) (fun c_81 => absurd c_81 (by omega))
    refine w_iload (pc' := 120) k151_119 rfl rfl ?_
    exact w_reti k151_120 ⟨by unfold tlV; rw [if_neg (fun z => hc0 (hc.trans z)), ← hc], _, rfl, fun a q => by rw [h1 a (by omega) (by omega), kp.1 a (by omega) (by omega)], by unfold tlZ; rw [if_neg (show ¬ lkC H E L A n w = 0 from fun z => hc0 (hc.trans z)), hLN]; exact hG0.push kp (by omega) h2 (fun a q => h1 a (by omega) (by omega)) (fun j q => by rw [h1 57 (by decide) (by decide)])⟩
  | succ k ih =>
    rintro m i I2 hk rfl h1 h2
    have hm : (0 : Int) ≤ (m : Int) ∧ (m : Int) < L := by omega
    have hal := h2.2.2.2.2.2.1.1 m hm.1 hm.2
    have hlm := hlk (trF H E A n w m) m
    refine w_iload (pc' := 77) k151_75 rfl rfl ?_
    refine w_aload (pc' := 78) k151_77 rfl rfl ?_
    refine w_callE (pc' := 81) (as := [.inr (some 57)]) k151_78 rfl rfl (co_v rfl rfl (hM.1 57 (11, 30) rfl)) (by decide) (m132 h2) ?_
    refine w_ic_ge (pc' := 84) k151_81 rfl (fun c_81 => absurd c_81 (by omega)) (fun c_81 => ?_)
    refine w_aload (pc' := 85) k151_84 rfl rfl ?_
    refine w_iload (pc' := 86) k151_85 rfl rfl ?_
    refine w_iload (pc' := 88) k151_86 rfl rfl ?_
    refine w_callB (pc' := 91) (as := [.inr (some 57), .inl _, .inl _]) k151_88 rfl rfl (co_v rfl rfl (hM.1 57 (11, 30) rfl)) (by decide) (m143 h2 hm) (fun q_88 => ?_) (fun q_88 => ?_)
    · refine w_if_eq (pc' := 94) k151_91 rfl (fun c_91 => absurd c_91 (by decide)) (fun _ => ?_)
      refine w_aload (pc' := 95) k151_94 rfl rfl ?_
      refine w_getR (pc' := 98) (v := 59) k151_95 rfl (hM.1 57 (11, 30) rfl) (hM.2 57 4 59 rfl) ?_
      refine w_iload (pc' := 100) k151_98 rfl rfl ?_
      refine w_iald (pc' := 101) (v := aAg (trF H E A n w m) m) k151_100 rfl (hM.1 59 (0, 108) rfl) (by omega) (h2.2.2.2.2.1.2.1 m hm.1 hm.2) ?_
      refine w_c1 (pc' := 102) k151_101 rfl ?_
      refine w_irem (pc' := 103) k151_102 rfl (by omega) ?_
      refine w_iload (pc' := 104) k151_103 rfl rfl ?_
      refine w_ic_ne (pc' := 107) k151_104 rfl (fun c_104 => ?_) (fun c_104 => ?_)
      · refine w_iinc (pc' := 116) (ls' := [_, _, _, _, _]) k151_113 rfl rfl (by omega) rfl ?_
        refine w_goto k151_116 ?_
        exact ih (m + 1) _ _ (by omega) (by omega) h1 (by rw [trF, if_neg (fun z => c_104 (hlm.mp z).2)]; exact h2)
      · refine w_aload (pc' := 108) k151_107 rfl rfl ?_
        refine w_iload (pc' := 110) k151_108 rfl rfl ?_
        refine w_callV (pc' := 113) (as := [.inr (some 57), .inl _]) k151_110 rfl rfl (co_v rfl rfl (hM.1 57 (11, 30) rfl)) (by decide) (m149 h2 hm (by omega)) (fun r_110 h_110 hq => ?_)
        obtain ⟨I_3, rfl, t1, t2⟩ := hq
        refine w_iinc (pc' := 116) (ls' := [_, _, _, _, _]) k151_113 rfl rfl (by omega) rfl ?_
        refine w_goto k151_116 ?_
        have hT1 : trF H E A n w (m + 1) = turnA H E (trF H E A n w m) m := by rw [trF, if_pos (hlm.mpr ⟨q_88, c_104⟩)]
        exact ih (m + 1) _ _ (by omega) (by omega) (fun a q1 q2 => by rw [t1 a q1 q2, h1 a q1 q2]) (by rw [hT1]; exact t2.ab (hT1 ▸ (trF_AB hK hab (n := n) (w := w) (m + 1) (by omega)).1) (by omega))
    · refine w_if_eq (pc' := 94) k151_91 rfl (fun _ => ?_) (fun c_91 => absurd c_91 (by decide))
      refine w_iinc (pc' := 116) (ls' := [_, _, _, _, _]) k151_113 rfl rfl (by omega) rfl ?_
      refine w_goto k151_116 ?_
      exact ih (m + 1) _ _ (by omega) (by omega) h1 (by rw [trF, if_neg (fun z => q_88 (hlm.mp z).1)]; exact h2)
theorem m151c (hG : MG sh R I K H E HO S L B (A, A1, A2, u) tx len) (hB1 : B + 2 ≤ 1000000) {n w : Int} (hn : 0 ≤ n ∧ n < S) (hw : 0 ≤ w ∧ w ≤ 1) {N : Nat} (hN : L = (N : Int)) : ∀ (k m : Nat) (i c : Int), m + k = N → i = (m : Int) → c = cnt (lkP H E A n w) m → WP X (d + 4) 151 15 [.inr (some 57), .inl n, .inl w, .inl c, .inl i] [] (sh, R, I) 0 0 (fun r h' => r = .inl (tlV H E L A n w) ∧ ∃ I', h' = (sh, R, I') ∧ (∀ a, a < 57 ∨ 77 < a → I' a = I a) ∧ MG sh R I' K H E HO S L (B + 1) (tlZ H E L (A, A1, A2, u) n w) tx len) := by
  have hG0 := hG
  obtain ⟨hF, h9, hW, hT⟩ := hG
  have hF : MF sh R I K H E HO S L B A := hF
  have hF0 := hF
  obtain ⟨hM, hK, hpo, hha, hms, hab, hB⟩ := hF
  have hr := hK.r
  have h9' : I 57 9 = u := h9
  have hlk : ∀ (A' : AS) (m : Int), (lkP H E A' n w m = true ↔ ((m / H = n ∨ upS H E m = n) ∧ aAg A' m % 2 = w)) := by
    intro A' m
    unfold lkP
    rw [decide_eq_true_iff]
    by_cases c : ev (aAg A' m) = true
    · rw [if_pos c]; rw [ev_t] at c; refine ⟨fun z => ⟨z.1, by omega⟩, fun z => ⟨z.1, by omega⟩⟩
    · rw [if_neg c]; rw [ev_t] at c; refine ⟨fun z => ⟨z.1, by omega⟩, fun z => ⟨z.1, by omega⟩⟩
  intro k
  induction k with
  | zero =>
    rintro m i c hk rfl hc
    have e : m = N := by omega
    subst e
    have hLN : L.toNat = m := by omega
    have hc2 : c = lkC H E L A n w := by unfold lkC; rw [hLN]; exact hc
    refine w_iload (pc' := 17) k151_15 rfl rfl ?_
    refine w_aload (pc' := 18) k151_17 rfl rfl ?_
    refine w_callE (pc' := 21) (as := [.inr (some 57)]) k151_18 rfl rfl (co_v rfl rfl (hM.1 57 (11, 30) rfl)) (by decide) (m132 hF0) ?_
    refine w_ic_ge (pc' := 24) k151_21 rfl (fun c_21 => ?_) (fun c_21 => absurd c_21 (by omega))
    refine w_iload (pc' := 62) k151_61 rfl rfl ?_
    refine w_if_ne (pc' := 65) k151_62 rfl (fun c_62 => ?_) (fun c_62 => ?_)
    · refine w_aload (pc' := 69) k151_68 rfl rfl ?_
      refine w_callV (pc' := 72) (as := [.inr (some 57)]) k151_69 rfl rfl (co_v rfl rfl (hM.1 57 (11, 30) rfl)) (by decide) (m147 hM h9' hW.1) (fun r_69 h_69 hq => ?_)
      obtain ⟨I_1, rfl, kp⟩ := hq
      refine w_c1 (pc' := 73) k151_72 rfl ?_
      refine w_istore (pc' := 75) (ls' := [_, _, _, _, _]) k151_73 rfl rfl rfl ?_
      exact m151t hG0 hB1 hn hw hc2 c_62 kp (N := L.toNat) (by omega) L.toNat 0 _ _ (by omega) rfl (fun _ _ _ => rfl) ((kp.mf hF0).mono (by omega) (by omega))
    · refine w_c2 (pc' := 67) k151_65 rfl ?_
      exact w_reti k151_67 ⟨by unfold tlV; rw [if_pos (hc2.symm.trans c_62)], _, rfl, fun _ _ => rfl, by unfold tlZ; rw [if_pos (show lkC H E L A n w = 0 from hc2.symm.trans c_62)]; exact hG0.mono (by omega) (by omega)⟩
  | succ k ih =>
    rintro m i c hk rfl hc
    have hm : (0 : Int) ≤ (m : Int) ∧ (m : Int) < L := by omega
    have hal := hab.1 m hm.1 hm.2
    have hcl := cnt_le (lkP H E A n w) m
    have hlm := hlk A m
    refine w_iload (pc' := 17) k151_15 rfl rfl ?_
    refine w_aload (pc' := 18) k151_17 rfl rfl ?_
    refine w_callE (pc' := 21) (as := [.inr (some 57)]) k151_18 rfl rfl (co_v rfl rfl (hM.1 57 (11, 30) rfl)) (by decide) (m132 hF0) ?_
    refine w_ic_ge (pc' := 24) k151_21 rfl (fun c_21 => absurd c_21 (by omega)) (fun c_21 => ?_)
    refine w_iload (pc' := 25) k151_24 rfl rfl ?_
    refine w_aload (pc' := 26) k151_25 rfl rfl ?_
    refine w_iload (pc' := 27) k151_26 rfl rfl ?_
    refine w_iload (pc' := 29) k151_27 rfl rfl ?_
    refine w_callB (pc' := 32) (as := [.inr (some 57), .inl _, .inl _]) k151_29 rfl rfl (co_v rfl rfl (hM.1 57 (11, 30) rfl)) (by decide) (m143 hF0 hm) (fun q_29 => ?_) (fun q_29 => ?_)
    · refine w_if_eq (pc' := 35) k151_32 rfl (fun c_32 => absurd c_32 (by decide)) (fun _ => ?_)
      refine w_aload (pc' := 36) k151_35 rfl rfl ?_
      refine w_getR (pc' := 39) (v := 59) k151_36 rfl (hM.1 57 (11, 30) rfl) (hM.2 57 4 59 rfl) ?_
      refine w_iload (pc' := 41) k151_39 rfl rfl ?_
      refine w_iald (pc' := 42) (v := aAg A m) k151_41 rfl (hM.1 59 (0, 108) rfl) (by omega) (hms.2.1 m hm.1 hm.2) ?_
      refine w_c1 (pc' := 43) k151_42 rfl ?_
      refine w_irem (pc' := 44) k151_43 rfl (by omega) ?_
      refine w_iload (pc' := 45) k151_44 rfl rfl ?_
      refine w_ic_ne (pc' := 48) k151_45 rfl (fun c_45 => ?_) (fun c_45 => ?_)
      · refine w_c1 (pc' := 53) k151_52 rfl ?_
        refine w_iadd (pc' := 54) k151_53 rfl (by omega) ?_
        refine w_istore (pc' := 55) (ls' := [_, _, _, _, _]) k151_54 rfl rfl rfl ?_
        refine w_iinc (pc' := 58) (ls' := [_, _, _, _, _]) k151_55 rfl rfl (by omega) rfl ?_
        refine w_goto k151_58 ?_
        exact ih (m + 1) _ _ (by omega) (by omega) (by rw [cnt_s, if_neg (fun z => c_45 (hlm.mp z).2), ← hc])
      · refine w_c1 (pc' := 49) k151_48 rfl ?_
        refine w_goto k151_49 ?_
        refine w_iadd (pc' := 54) k151_53 rfl (by omega) ?_
        refine w_istore (pc' := 55) (ls' := [_, _, _, _, _]) k151_54 rfl rfl rfl ?_
        refine w_iinc (pc' := 58) (ls' := [_, _, _, _, _]) k151_55 rfl rfl (by omega) rfl ?_
        refine w_goto k151_58 ?_
        exact ih (m + 1) _ _ (by omega) (by omega) (by rw [cnt_s, if_pos (hlm.mpr ⟨q_29, c_45⟩), ← hc])
    · refine w_if_eq (pc' := 35) k151_32 rfl (fun _ => ?_) (fun c_32 => absurd c_32 (by decide))
      refine w_c1 (pc' := 53) k151_52 rfl ?_
      refine w_iadd (pc' := 54) k151_53 rfl (by omega) ?_
      refine w_istore (pc' := 55) (ls' := [_, _, _, _, _]) k151_54 rfl rfl rfl ?_
      refine w_iinc (pc' := 58) (ls' := [_, _, _, _, _]) k151_55 rfl rfl (by omega) rfl ?_
      refine w_goto k151_58 ?_
      exact ih (m + 1) _ _ (by omega) (by omega) (by rw [cnt_s, if_neg (fun z => q_29 (hlm.mp z).1), ← hc])
theorem m151 (hG : MG sh R I K H E HO S L B (A, A1, A2, u) tx len) (hB1 : B + 2 ≤ 1000000) {n w : Int} (hw : 0 ≤ w ∧ w ≤ 1) : QN X (d + 4) 151 [.inr (some 57), .inl n, .inl w] sh R I K H E HO S L (B + 1) (if 0 ≤ n ∧ n < S then tlV H E L A n w else -1) (if 0 ≤ n ∧ n < S then tlZ H E L (A, A1, A2, u) n w else (A, A1, A2, u)) tx len := by
  have hG0 := hG
  obtain ⟨hF, h9, hW, hT⟩ := hG
  have hF : MF sh R I K H E HO S L B A := hF
  have hF0 := hF
  obtain ⟨hM, hK, hpo, hha, hms, hab, hB⟩ := hF
  have hr := hK.r
  show WP X (d + 4) 151 0 [.inr (some 57), .inl n, .inl w, .inr none, .inr none] [] (sh, R, I) 0 0 _
  refine w_aload (pc' := 1) k151_0 rfl rfl ?_
  refine w_iload (pc' := 2) k151_1 rfl rfl ?_
  refine w_callB (pc' := 5) (as := [.inr (some 57), .inl _]) k151_2 rfl rfl (co_v rfl rfl (hM.1 57 (11, 30) rfl)) (by decide) (m134 hF0) (fun q_2 => ?_) (fun q_2 => ?_)
  · refine w_if_ne (pc' := 8) k151_5 rfl (fun _ => ?_) (fun c_5 => absurd c_5 (by decide))
    refine w_c1 (pc' := 11) k151_10 rfl ?_
    refine w_istore (pc' := 12) (ls' := [_, _, _, _, _]) k151_11 rfl rfl rfl ?_
    refine w_c1 (pc' := 13) k151_12 rfl ?_
    refine w_istore (pc' := 15) (ls' := [_, _, _, _, _]) k151_13 rfl rfl rfl ?_
    rw [if_pos q_2, if_pos q_2]
    exact m151c hG0 hB1 q_2 hw (N := L.toNat) (by omega) L.toNat 0 _ _ (by omega) rfl rfl
  · refine w_if_ne (pc' := 8) k151_5 rfl (fun c_5 => absurd c_5 (by decide)) (fun _ => ?_)
    refine w_c1 (pc' := 9) k151_8 rfl ?_
    exact w_reti k151_9 ⟨by rw [if_neg q_2], _, rfl, fun _ _ => rfl, by rw [if_neg q_2]; exact hG0.mono (by omega) (by omega)⟩
theorem m152 (hG : MG sh R I K H E HO S L B (A, A1, A2, u) tx len) (hB1 : B + 2 ≤ 1000000) {n : Int} : QN X (d + 5) 152 [.inr (some 57), .inl n] sh R I K H E HO S L (B + 1) (if 0 ≤ n ∧ n < S then tlV H E L A n 0 else -1) (if 0 ≤ n ∧ n < S then tlZ H E L (A, A1, A2, u) n 0 else (A, A1, A2, u)) tx len := by
  have hM := hG.1.1
  show WP X (d + 5) 152 0 [.inr (some 57), .inl n] [] (sh, R, I) 0 0 _
  refine w_aload (pc' := 1) k152_0 rfl rfl ?_
  refine w_iload (pc' := 2) k152_1 rfl rfl ?_
  refine w_c1 (pc' := 3) k152_2 rfl ?_
  refine w_callI (pc' := 6) (as := [.inr (some 57), .inl _, .inl _]) k152_3 rfl rfl (co_v rfl rfl (hM.1 57 (11, 30) rfl)) (by decide) (m151 hG hB1 (w := 0) (by omega)) (fun z_3 h_3 hq => ?_)
  exact w_reti k152_6 hq
theorem m153 (hG : MG sh R I K H E HO S L B (A, A1, A2, u) tx len) (hB1 : B + 2 ≤ 1000000) {n : Int} : QN X (d + 5) 153 [.inr (some 57), .inl n] sh R I K H E HO S L (B + 1) (if 0 ≤ n ∧ n < S then tlV H E L A n 1 else -1) (if 0 ≤ n ∧ n < S then tlZ H E L (A, A1, A2, u) n 1 else (A, A1, A2, u)) tx len := by
  have hM := hG.1.1
  show WP X (d + 5) 153 0 [.inr (some 57), .inl n] [] (sh, R, I) 0 0 _
  refine w_aload (pc' := 1) k153_0 rfl rfl ?_
  refine w_iload (pc' := 2) k153_1 rfl rfl ?_
  refine w_c1 (pc' := 3) k153_2 rfl ?_
  refine w_callI (pc' := 6) (as := [.inr (some 57), .inl _, .inl _]) k153_3 rfl rfl (co_v rfl rfl (hM.1 57 (11, 30) rfl)) (by decide) (m151 hG hB1 (w := 1) (by omega)) (fun z_3 h_3 hq => ?_)
  exact w_reti k153_6 hq
end M82
