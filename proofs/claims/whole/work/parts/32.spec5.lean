/-! ===== specification: flows' steps ===== -/
section SP5
variable {c c' : Int → Int} {q q' : Int → Int → Int} {H E : Int} {A A' : AS}
theorem upF_uu {f : Int → Int} {i v w : Int} : upF (upF f i v) i w = upF f i w := by
  funext j
  unfold upF
  by_cases h : j = i
  · rw [if_pos h, if_pos h]
  · rw [if_neg h, if_neg h, if_neg h]
theorem upF_id {f : Int → Int} {i : Int} : upF f i (f i) = f := by
  funext j
  unfold upF
  by_cases h : j = i
  · rw [if_pos h, h]
  · rw [if_neg h]
theorem usG_ext {u : Int} (hc : ∀ f, 0 ≤ f → f < 16 → c' f = c f) (hq : ∀ f x, 0 ≤ f → f < 16 → 0 ≤ x → x < c f → q' f x = q f x) : usG c' q' u = usG c q u := by
  unfold usG
  refine sumN_ext 16 (fun f hf => ?_)
  unfold kG
  rw [hc f (by omega) (by omega)]
  exact cnt_ext (fun x hx => by rw [hq f x (by omega) (by omega) (by omega) (by omega)])
theorem UI.ext {I : Nat → Int → Int} (h : UI I c q) (hc : ∀ f, 0 ≤ f → f < 16 → c' f = c f) (hq : ∀ f x, 0 ≤ f → f < 16 → 0 ≤ x → x < c f → q' f x = q f x) : UI I c' q' := by
  refine ⟨fun f h1 h2 => by rw [hc f h1 h2]; exact h.1 f h1 h2, fun f x h1 h2 h3 h4 => ?_, fun u h1 h2 => by rw [usG_ext hc hq]; exact h.2.2 u h1 h2⟩
  rw [hc f h1 h2] at h4
  rw [hq f x h1 h2 h3 h4]
  exact h.2.1 f x h1 h2 h3 h4
/-- how many steps a flow has by a shift; which -/
def stC (H E : Int) (A : AS) (f t : Int) : Int := if pA H E A (aFr A f / H) (aTo A f) t then pV H E A (aFr A f / H) (aTo A f) t + 1 else 0
def stL (H E : Int) (A : AS) (n b t : Int) (k : Nat) : Int := if pL H E A n b t k / H = pN H E A n b t k then pL H E A n b t k else 108 + pL H E A n b t k
def stQ (H E : Int) (A : AS) (f t x : Int) : Int := if x = 0 then 216 + aFr A f else if x < pV H E A (aFr A f / H) (aTo A f) t then stL H E A (aFr A f / H) (aTo A f) t (x - 1).toNat else 270 + aTo A f
def cS (H E : Int) (A : AS) (nf : Int) (σ : Int → Int) (g : Int) : Int := if 0 ≤ g ∧ g < nf then stC H E A g (σ g) else 0
def qS (H E : Int) (A : AS) (σ : Int → Int) (g x : Int) : Int := stQ H E A g (σ g) x
theorem stC_r {f t : Int} : 0 ≤ stC H E A f t ∧ stC H E A f t ≤ 6 := by
  have := pV_r (H := H) (E := E) (A := A) (n := aFr A f / H) (b := aTo A f) (s := t)
  unfold stC
  split <;> omega
theorem cS_r {nf : Int} {σ : Int → Int} {f : Int} : 0 ≤ cS H E A nf σ f ∧ cS H E A nf σ f ≤ 6 := by
  unfold cS
  split
  · exact stC_r
  · omega
/-- shares by shifts σ, and the least -/
def shV (H E : Int) (A : AS) (nf : Int) (σ : Int → Int) (f : Int) : Int := shG (cS H E A nf σ) (qS H E A σ) f
def lsV (H E : Int) (A : AS) (nf : Int) (σ : Int → Int) : Int := lsG (cS H E A nf σ) (qS H E A σ) nf.toNat
theorem shV_le {nf : Int} {σ : Int → Int} {f : Int} : 0 ≤ shV H E A nf σ f ∧ shV H E A nf σ f ≤ 720720 := shG_le (fun _ _ _ => cS_r)
theorem lsV_le {nf : Int} {σ : Int → Int} : 0 ≤ lsV H E A nf σ ∧ lsV H E A nf σ ≤ 720720 := lsG_le (fun _ _ _ => cS_r) _
/-- the best of the first n shifts, and what they started from -/
def imF (ls sh : Int → Int) (p0 : Int × Int × Int) : Nat → Int × Int × Int
  | 0 => p0
  | n + 1 => if (imF ls sh p0 n).2.1 < ls n ∨ (ls n = (imF ls sh p0 n).2.1 ∧ (imF ls sh p0 n).2.2 < sh n) then ((n : Int), ls n, sh n) else imF ls sh p0 n
def bestS (H E : Int) (A : AS) (nf : Int) (σ : Int → Int) (f : Int) : Int := (imF (fun s => lsV H E A nf (upF σ f s)) (fun s => shV H E A nf (upF σ f s) f) (σ f, lsV H E A nf σ, shV H E A nf σ f) (H * H).toNat).1
/-- what depends on marks and ends of flows alone -/
theorem nl_mk (h : aMk A' = aMk A) {n b s : Int} : nl H E A' n b s = nl H E A n b s := by unfold nl; rw [h]
theorem pN_mk (h : aMk A' = aMk A) {n b s : Int} : ∀ k : Nat, pN H E A' n b s k = pN H E A n b s k
  | 0 => rfl
  | k + 1 => by rw [pN, pN, pN_mk h k, nl_mk h]
theorem pL_mk (h : aMk A' = aMk A) {n b s : Int} {k : Nat} : pL H E A' n b s k = pL H E A n b s k := by unfold pL; rw [pN_mk h, nl_mk h]
theorem pV_mk (h : aMk A' = aMk A) {n b s : Int} : pV H E A' n b s = pV H E A n b s := by unfold pV; simp only [pL_mk h]
theorem pA_mk (h : aMk A' = aMk A) {n b s : Int} : pA H E A' n b s = pA H E A n b s := by unfold pA; rw [pL_mk h, pV_mk h]
theorem stC_mk (h : aMk A' = aMk A) (h1 : aFr A' = aFr A) (h2 : aTo A' = aTo A) {f t : Int} : stC H E A' f t = stC H E A f t := by unfold stC; rw [pA_mk h, pV_mk h, h1, h2]
theorem stQ_mk (h : aMk A' = aMk A) (h1 : aFr A' = aFr A) (h2 : aTo A' = aTo A) {f t x : Int} : stQ H E A' f t x = stQ H E A f t x := by unfold stQ stL; simp only [pL_mk h, pN_mk h, pV_mk h, h1, h2]
theorem cS_mk (h : aMk A' = aMk A) (h1 : aFr A' = aFr A) (h2 : aTo A' = aTo A) {nf : Int} {σ : Int → Int} : cS H E A' nf σ = cS H E A nf σ := by funext g; unfold cS; rw [stC_mk h h1 h2]
theorem qS_mk (h : aMk A' = aMk A) (h1 : aFr A' = aFr A) (h2 : aTo A' = aTo A) {σ : Int → Int} : qS H E A' σ = qS H E A σ := by funext g x; unfold qS; rw [stQ_mk h h1 h2]
theorem lsV_mk (h : aMk A' = aMk A) (h1 : aFr A' = aFr A) (h2 : aTo A' = aTo A) {nf : Int} {σ : Int → Int} : lsV H E A' nf σ = lsV H E A nf σ := by unfold lsV; rw [cS_mk h h1 h2, qS_mk h h1 h2]
theorem shV_mk (h : aMk A' = aMk A) (h1 : aFr A' = aFr A) (h2 : aTo A' = aTo A) {nf : Int} {σ : Int → Int} {f : Int} : shV H E A' nf σ f = shV H E A nf σ f := by unfold shV; rw [cS_mk h h1 h2, qS_mk h h1 h2]
theorem bestS_mk (h : aMk A' = aMk A) (h1 : aFr A' = aFr A) (h2 : aTo A' = aTo A) {nf : Int} {σ : Int → Int} {f : Int} : bestS H E A' nf σ f = bestS H E A nf σ f := by unfold bestS; simp only [lsV_mk h h1 h2, shV_mk h h1 h2]
end SP5
