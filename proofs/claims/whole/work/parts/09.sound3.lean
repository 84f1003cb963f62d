/-! ===== SOUNDNESS, second part: makings, copies, switches, the script ===== -/
theorem im_ext {ad ad2 : Nat → Nat} {h : Hp} {v : VV} (hl : h.1.length < 1000) (ha : ∀ k, k ≠ h.1.length → ad2 k = ad k) (ho : okV h v) : im ad2 v = im ad v := by
  match v, ho with
  | .inl z, _ => rfl
  | .inr none, _ => rfl
  | .inr (some k), ho =>
    have ho : k < h.1.length ∨ 1000000 ≤ k := ho
    show Value.ref (ad2 k) = Value.ref (ad k)
    rw [ha k (by omega)]
theorem map_ext {ad ad2 : Nat → Nat} {st : List VV} (h : ∀ v ∈ st, im ad2 v = im ad v) : st.map (im ad2) = st.map (im ad) := List.map_congr_left h
theorem Lc.ext {ad ad2 : Nat → Nat} {ls : List VV} {rs : Array Slot} {nL : Nat} (h : Lc ad ls rs nL) (he : ∀ v ∈ ls, im ad2 v = im ad v) : Lc ad2 ls rs nL :=
  ⟨h.1, h.2.1, h.2.2.1, fun i v hi hv => by rw [he v (List.mem_of_getElem? hi)]; exact h.2.2.2 i v hi hv⟩
theorem okV.grow {h h2 : Hp} {v : VV} (hl : h.1.length ≤ h2.1.length) (ho : okV h v) : okV h2 v := by
  match v, ho with
  | .inl z, ho => exact ho
  | .inr none, _ => exact trivial
  | .inr (some k), ho =>
    rcases ho with q | q
    · exact Or.inl (Nat.lt_of_lt_of_le q hl)
    · exact Or.inr q
theorem ce_ext {cI cC : ClassId} {ad ad2 : Nat → Nat} {h : Hp} {x : Nat × Nat} {a : Nat} {q : Nat × Nat} (o : okH h) (hl : h.1.length < 1000) (ha : ∀ k, k ≠ h.1.length → ad2 k = ad k) (hq : h.1[a]? = some q) : ce cI cC ad2 (h.1 ++ [x], upR h.2.1 h.1.length (fun _ => none), upA h.2.2 h.1.length (fun _ => 0)) a q = ce cI cC ad h a q := by
  have hn : a ≠ h.1.length := by
    have := (List.getElem?_eq_some_iff.mp hq).1
    omega
  have e1 : upR h.2.1 h.1.length (fun _ => none) a = h.2.1 a := by simp [upR, hn]
  have e2 : upA h.2.2 h.1.length (fun _ => 0) a = h.2.2 a := by simp [upA, hn]
  have e3 : ∀ k, im ad2 (.inr (h.2.1 a k)) = im ad (.inr (h.2.1 a k)) := by
    intro k
    cases hr : h.2.1 a k with
    | none => rfl
    | some z =>
      have := o.2.1 a k z hr
      show Value.ref (ad2 z) = Value.ref (ad z)
      rw [ha z (by omega)]
  unfold ce
  have e4 : fv ad2 (h.1 ++ [x], upR h.2.1 h.1.length (fun _ => none), upA h.2.2 h.1.length (fun _ => 0)) a = fv ad h a := by
    funext ci k
    unfold fv
    simp only [e1, e2, e3]
  simp only [e2, e4]
theorem okH_new {h : Hp} {x : Nat × Nat} (o : okH h) (hl : h.1.length < 1000) (h1 : x.2 ≤ 100000) (h2 : 2 ≤ x.1 → x.1 - 2 < 10 ∧ x.2 = nF (x.1 - 2)) : okH (h.1 ++ [x], upR h.2.1 h.1.length (fun _ => none), upA h.2.2 h.1.length (fun _ => 0)) := by
  have key : ∀ (a : Nat) (q : Nat × Nat), (h.1 ++ [x])[a]? = some q → h.1[a]? = some q ∨ q = x := by
    intro a q hq
    rcases Nat.lt_or_ge a h.1.length with hi | hi
    · rw [List.getElem?_append_left hi] at hq
      exact Or.inl hq
    · rw [List.getElem?_append_right hi] at hq
      have := List.mem_of_getElem? hq
      exact Or.inr (List.mem_singleton.mp this)
  refine ⟨fun a i => ?_, fun a f k hk => ?_, fun a q hq h3 => ?_, ?_, fun a q hq => ?_⟩
  · show inR (upA h.2.2 h.1.length (fun _ => 0) a i)
    unfold upA
    by_cases e : a = h.1.length
    · rw [if_pos e]; exact inR_0
    · rw [if_neg e]; exact o.1 a i
  · have hk : upR h.2.1 h.1.length (fun _ => none) a f = some k := hk
    show k < (h.1 ++ [x]).length
    rw [List.length_append]
    unfold upR at hk
    by_cases e : a = h.1.length
    · rw [if_pos e] at hk; cases hk
    · rw [if_neg e] at hk
      have := o.2.1 a f k hk
      omega
  · rcases key a q hq with h4 | h4
    · exact o.2.2.1 a q h4 h3
    · subst h4; exact h2 h3
  · show (h.1 ++ [x]).length ≤ 1000
    rw [List.length_append]
    simp
    omega
  · rcases key a q hq with h4 | h4
    · exact o.2.2.2.2 a q h4
    · subst h4; exact h1
section SND
variable {p : Program} {l : Launch} {e : Env} {R : Room} {s : State} {m : MethodId} {args : Array Value} {below : List Frame} {meth : Method} {c : Code} {y d : Nat} {D : va_G} {cI cC : ClassId} {A : Nat → Prop} {mc ms : Nat} {ad0 : Nat → Nat} {n0 : Nat} {Qf : State → Prop}
variable {pc : Nat} {ls st : List VV} {h : Hp} {bc bs : Nat} {t : St}
/-- behind a making -/
theorem made {x : Nat × Nat} {pc2 : Nat} {H H1 : Heap} {locs locs1 : List Loc} {cells slots : Nat} {rs : Array Slot} {ad : Nat → Nat} {q : Nat} {E : va_E} (hk : WA p l e R s m args below meth c y D cI cC A mc ms ad0 n0 Qf (pc2, ls, .inr (some h.1.length) :: st, (h.1 ++ [x], upR h.2.1 h.1.length (fun _ => none), upA h.2.2 h.1.length (fun _ => 0)), bc - 1, bs - x.2))
    (hR : Rl s y D cI cC A mc ms ad0 n0 (pc, ls, st, h, bc, bs) ad H locs cells slots rs) (hl : h.1.length < 1000) (h1 : x.2 ≤ 100000) (h2 : 2 ≤ x.1 → x.1 - 2 < 10 ∧ x.2 = nF (x.1 - 2)) (hb1 : 1 ≤ bc) (hb2 : x.2 ≤ bs)
    (hE : ∀ ad2, ce cI cC ad2 (h.1 ++ [x], upR h.2.1 h.1.length (fun _ => none), upA h.2.2 h.1.length (fun _ => 0)) h.1.length x = E) (hP1 : va_P D classes (wo cI cC ad h ++ [(q, E)]) H1) (hD1 : va_D A (wo cI cC ad h ++ [(q, E)])) (hS1 : va_S A s.heap H1 locs1) :
    W p l e R s m args below meth c H1 locs1 (cells + 1) (slots + x.2) Qf (F0 m pc2 rs (.ref q :: st.map (im ad))) := by
  obtain ⟨hL, o1, o2, o3, hP, hD, hS, e1, e2, e3, e4⟩ := hR
  dsimp only at hL o1 o2 o3 hP hD hS e1 e2 e3 e4
  have hne : ∀ k, k ≠ h.1.length → (fun k => if k = h.1.length then q else ad k) k = ad k := fun k hk => if_neg hk
  have hpush := wo_push (cI := cI) (cC := cC) (ad := ad) (ad2 := fun k => if k = h.1.length then q else ad k) (h := h) (h2 := (h.1 ++ [x], upR h.2.1 h.1.length (fun _ => none), upA h.2.2 h.1.length (fun _ => 0))) (q := q) (x := x) rfl (fun a y hy => ce_ext o3 hl hne hy) (fun a ha => hne a (by omega)) (if_pos rfl)
  rw [hE] at hpush
  rw [hpush] at hP1 hD1
  have hgo := hk (fun k => if k = h.1.length then q else ad k) H1 locs1 (cells + 1) (slots + x.2) rs ⟨hL.ext (fun v hv => im_ext hl hne (o1 v hv)), fun v hv => okV.grow (by simp) (o1 v hv), al_cons (Or.inl (by simp)) (fun v hv => okV.grow (by simp) (o2 v hv)), okH_new o3 hl h1 h2, hP1, hD1, hS1, by dsimp only; omega, by dsimp only; omega, by simp; omega, fun k hk => by
    have hk : k < n0 ∨ 1000000 ≤ k := hk
    rw [hne k (by omega)]
    exact e4 k hk⟩
  have est : ((.inr (some h.1.length) : VV) :: st).map (im (fun k => if k = h.1.length then q else ad k)) = .ref q :: st.map (im ad) := by
    rw [List.map_cons, map_ext (fun v hv => im_ext hl hne (o2 v hv))]
    congr 1
    show Value.ref (if h.1.length = h.1.length then q else ad _) = _
    rw [if_pos rfl]
  rw [← est]
  exact hgo
theorem s_newi (C0 : Cx p R s m args meth c y d D cI cC A mc ms) (hd : decode (mB y) pc = .ok ((.newarray .int, 2))) (hn : n_newa 0 pc ls st h bc bs t) (hk : WA p l e R s m args below meth c y D cI cC A mc ms ad0 n0 Qf (t)) : WA p l e R s m args below meth c y D cI cC A mc ms ad0 n0 Qf (pc, ls, st, h, bc, bs) := by
  obtain ⟨n, st', rfl, hn1, hn2, hn3, hn4, rfl⟩ := hn
  obtain ⟨hx, hb, hml, hown, hts, hK, hRm, hin, hA, hNK⟩ := C0
  intro ad H locs cells slots rs hR
  have hR0 := hR
  obtain ⟨hL, o1, o2, o3, hP, hD, hS, e1, e2, e3, e4⟩ := hR
  dsimp only at hL o1 o2 o3 hP hD hS e1 e2 e3 e4
  have on : inR (n : Int) := o2 _ List.mem_cons_self
  have hR1 : Rl s y D cI cC A mc ms ad0 n0 (pc, ls, st', h, bc, bs) ad H locs cells slots rs := ⟨hL, o1, fun w hw => o2 w (List.mem_cons_of_mem _ hw), o3, hP, hD, hS, e1, e2, e3, e4⟩
  refine va_newa (atype := .int) hx hb (hts _ w_arr.1) (ty := .int) rfl hK hP hD hS hA (n := Int32.ofInt n) (N' := n) (a0 := (n, .inl (fun _ => 0))) (fun cA => vp_cell_i cA n (fun _ => 0)) (fun z => ?_) ?_ ?_ (by rw [hRm.2.2.1]; omega) (by rw [hRm.2.2.2]; omega) hd (fun q cA H1 hK1 hP1 hD1 hS1 => ?_)
  · have := (oI_lt on inR_0).mp z
    omega
  · rw [oI_n on]
    omega
  · have : componentBytes .int ≤ 4 := by decide
    have := Nat.mul_le_mul hn1 this
    omega
  · have hc : cA = cI := by
      have h1 : va_RA s cA .int := (hK1.2 2 (cA, .int) rfl).2
      have h2 : va_RA s cI .int := (hK.2 0 (cI, .int) rfl).2
      exact Option.some.inj (Eq.trans (Eq.symm h1) h2)
    subst hc
    exact made (x := (0, n)) hk hR1 hn4 hn1 (fun z => by dsimp only at z; omega) hn2 hn3 (fun ad2 => by rw [ce_0]; simp [upA]) hP1 hD1 hS1
theorem s_newc (C0 : Cx p R s m args meth c y d D cI cC A mc ms) (hd : decode (mB y) pc = .ok ((.newarray .char, 2))) (hn : n_newa 1 pc ls st h bc bs t) (hk : WA p l e R s m args below meth c y D cI cC A mc ms ad0 n0 Qf (t)) : WA p l e R s m args below meth c y D cI cC A mc ms ad0 n0 Qf (pc, ls, st, h, bc, bs) := by
  obtain ⟨n, st', rfl, hn1, hn2, hn3, hn4, rfl⟩ := hn
  obtain ⟨hx, hb, hml, hown, hts, hK, hRm, hin, hA, hNK⟩ := C0
  intro ad H locs cells slots rs hR
  have hR0 := hR
  obtain ⟨hL, o1, o2, o3, hP, hD, hS, e1, e2, e3, e4⟩ := hR
  dsimp only at hL o1 o2 o3 hP hD hS e1 e2 e3 e4
  have on : inR (n : Int) := o2 _ List.mem_cons_self
  have hR1 : Rl s y D cI cC A mc ms ad0 n0 (pc, ls, st', h, bc, bs) ad H locs cells slots rs := ⟨hL, o1, fun w hw => o2 w (List.mem_cons_of_mem _ hw), o3, hP, hD, hS, e1, e2, e3, e4⟩
  refine va_newa (atype := .char) hx hb (hts _ w_arr.2) (ty := .char) rfl hK hP hD hS hA (n := Int32.ofInt n) (N' := n) (a0 := (n, .inl (fun _ => 0))) (fun cA => vp_cell_i cA n (fun _ => 0)) (fun z => ?_) ?_ ?_ (by rw [hRm.2.2.1]; omega) (by rw [hRm.2.2.2]; omega) hd (fun q cA H1 hK1 hP1 hD1 hS1 => ?_)
  · have := (oI_lt on inR_0).mp z
    omega
  · rw [oI_n on]
    omega
  · have : componentBytes .char ≤ 4 := by decide
    have := Nat.mul_le_mul hn1 this
    omega
  · have hc : cA = cC := by
      have h1 : va_RA s cA .char := (hK1.2 2 (cA, .char) rfl).2
      have h2 : va_RA s cC .char := (hK.2 1 (cC, .char) rfl).2
      exact Option.some.inj (Eq.trans (Eq.symm h1) h2)
    subst hc
    exact made (x := (1, n)) hk hR1 hn4 hn1 (fun z => by dsimp only at z; omega) hn2 hn3 (fun ad2 => by rw [ce_1]; simp [upA]) hP1 hD1 hS1
theorem s_new (C0 : Cx p R s m args meth c y d D cI cC A mc ms) {a ci N : Nat} (hf : ((mO y, a), ci) ∈ CK) (hci : ci < 10) (hN : N = nF ci) (hd : decode (mB y) pc = .ok ((.new a, 3))) (hn : n_new ci N pc ls st h bc bs t) (hk : WA p l e R s m args below meth c y D cI cC A mc ms ad0 n0 Qf (t)) : WA p l e R s m args below meth c y D cI cC A mc ms ad0 n0 Qf (pc, ls, st, h, bc, bs) := by
  obtain ⟨hn2, hn3, hn4, rfl⟩ := hn
  obtain ⟨hx, hb, hml, hown, hts, hK, hRm, hin, hA, hNK⟩ := C0
  intro ad H locs cells slots rs hR
  have hR0 := hR
  obtain ⟨hL, o1, o2, o3, hP, hD, hS, e1, e2, e3, e4⟩ := hR
  dsimp only at hL o1 o2 o3 hP hD hS e1 e2 e3 e4
  subst hN
  obtain ⟨g1, g2, g3, g4, g5, g6⟩ := okc ci hci
  have hnf : ∀ o, o < 10 → nF o ≤ 100000 := by decide
  refine va_new (ci := ci) (fs := (List.range (nF ci)).map (fv ad (h.1 ++ [(ci + 2, nF ci)], upR h.2.1 h.1.length (fun _ => none), upA h.2.2 h.1.length (fun _ => 0)) h.1.length ci)) (C := cN ci) (T := cT ci) (N := nF ci) hx hb hts g2 (cY ci) g4 hown (hts _ (CK_ok _ hf)) (hts _ g5.1) (hts _ g5.2) hK hP hD hS hA g1 (fun j hj => ?_) (by rw [hRm.2.2.1]; omega) (by rw [hRm.2.2.2]; omega) hd (fun q H1 hP1 hD1 hS1 => ?_)
  · unfold vp_V
    rw [List.getD_eq_getElem?_getD, fs_get hj]
    obtain ⟨k0, k1, k2, k3, k4, k5⟩ := g6 j hj
    show _ = fv _ _ _ _ _
    unfold fv
    by_cases hr : 2 ≤ fK ci j
    · rw [if_pos hr]
      have := k4 (by omega)
      have e5 : im ad (.inr (upR h.2.1 h.1.length (fun _ => none) h.1.length j)) = .null := by simp [upR, im]
      rw [e5]
      revert this
      cases cY ci j <;> intro z <;> first | rfl | exact absurd z (by decide)
    · rw [if_neg hr]
      have e5 : upA h.2.2 h.1.length (fun _ => 0) h.1.length (j : Int) = 0 := by simp [upA]
      dsimp only
      rw [e5]
      rcases (show fK ci j = 0 ∨ fK ci j = 1 by omega) with z | z
      · rw [(k0 z).1]; rfl
      · rw [(k1 z).1]; rfl
  · refine made (x := (ci + 2, nF ci)) hk hR0 hn4 (hnf ci hci) (fun _ => ⟨hci, rfl⟩) hn2 hn3 (fun ad2 => ?_) hP1 hD1 hS1
    rw [ce_o]
    congr 2
    apply List.map_congr_left
    intro j _
    unfold fv
    simp [upR, im]
theorem s_objI (C0 : Cx p R s m args meth c y d D cI cC A mc ms) {a : Nat} (hf : (mO y, a) ∈ OL) (hd1 : 1 ≤ d) (hd : decode (mB y) pc = .ok ((.invokespecial a, 3))) (hn : n_objI pc ls st h bc bs t) (hk : WA p l e R s m args below meth c y D cI cC A mc ms ad0 n0 Qf (t)) : WA p l e R s m args below meth c y D cI cC A mc ms ad0 n0 Qf (pc, ls, st, h, bc, bs) := by
  obtain ⟨o, st', rfl, hs8, rfl⟩ := hn
  obtain ⟨hx, hb, hml, hown, hts, hK, hRm, hin, hA, hNK⟩ := C0
  intro ad H locs cells slots rs hR
  have hR0 := hR
  obtain ⟨hL, o1, o2, o3, hP, hD, hS, e1, e2, e3, e4⟩ := hR
  dsimp only at hL o1 o2 o3 hP hD hS e1 e2 e3 e4
  have hgo := hk ad H locs cells slots rs ⟨hL, o1, fun w hw => o2 w (List.mem_cons_of_mem _ hw), o3, hP, hD, hS, e1, e2, e3, e4⟩
  refine W.objInit hx hb hown (hts _ (OL_ok _ hf)) (hts _ w_objI.1) (hts _ w_objI.2) rfl (by rw [hml]; exact hL.1) rfl hd (by rw [hRm.1]; exact hd1) ?_ hgo
  show 2 * 0 + ((st'.map (im ad)).map fun v => v.category).sum + 12 ≤ R.locals
  rw [im_sum]
  have := hRm.2.1
  omega
theorem s_max (C0 : Cx p R s m args meth c y d D cI cC A mc ms) {a : Nat} (hf : ((mO y, a), 61) ∈ XL) (hd1 : 1 ≤ d) (hd : decode (mB y) pc = .ok ((.invokestatic a, 3))) (hn : n_mm max pc ls st h bc bs t) (hk : WA p l e R s m args below meth c y D cI cC A mc ms ad0 n0 Qf (t)) : WA p l e R s m args below meth c y D cI cC A mc ms ad0 n0 Qf (pc, ls, st, h, bc, bs) := by
  obtain ⟨x, z, st', rfl, hs8, rfl⟩ := hn
  obtain ⟨hx, hb, hml, hown, hts, hK, hRm, hin, hA, hNK⟩ := C0
  intro ad H locs cells slots rs hR
  have hR0 := hR
  obtain ⟨hL, o1, o2, o3, hP, hD, hS, e1, e2, e3, e4⟩ := hR
  dsimp only at hL o1 o2 o3 hP hD hS e1 e2 e3 e4
  have oz : inR z := o2 _ List.mem_cons_self
  have ox : inR x := o2 _ (List.mem_cons_of_mem _ List.mem_cons_self)
  have o2' : ∀ w ∈ st', okV h w := fun w hw => o2 w (List.mem_cons_of_mem _ (List.mem_cons_of_mem _ hw))
  have hgo := hk ad H locs cells slots rs ⟨hL, o1, al_cons (show inR (max x z) from ⟨by omega, by omega⟩) o2', o3, hP, hD, hS, e1, e2, e3, e4⟩
  refine va_mmax hx hb (by rw [hml]; exact hL.1.symm) hown (hts _ (XL_ok _ hf)) (hts _ w_max.1) (hts _ w_max.2.1) (hts _ w_max.2.2) (by rw [hRm.1]; exact hd1) ?_ (by rw [hRm.2.2.1]; omega) (by rw [hRm.2.2.2]; omega) hd ?_
  · rw [im_sum]
    have := hRm.2.1
    omega
  · have hi := oI_lt ox oz
    have hv : (if Int32.ofInt x < Int32.ofInt z then Int32.ofInt z else Int32.ofInt x) = Int32.ofInt (max x z) := by
      by_cases q : x < z
      · rw [if_pos (hi.mpr q)]
        congr 1
        omega
      · rw [if_neg (fun r => q (hi.mp r))]
        congr 1
        omega
    rw [hv]
    exact hgo
theorem s_min (C0 : Cx p R s m args meth c y d D cI cC A mc ms) {a : Nat} (hf : ((mO y, a), 62) ∈ XL) (hd1 : 1 ≤ d) (hd : decode (mB y) pc = .ok ((.invokestatic a, 3))) (hn : n_mm min pc ls st h bc bs t) (hk : WA p l e R s m args below meth c y D cI cC A mc ms ad0 n0 Qf (t)) : WA p l e R s m args below meth c y D cI cC A mc ms ad0 n0 Qf (pc, ls, st, h, bc, bs) := by
  obtain ⟨x, z, st', rfl, hs8, rfl⟩ := hn
  obtain ⟨hx, hb, hml, hown, hts, hK, hRm, hin, hA, hNK⟩ := C0
  intro ad H locs cells slots rs hR
  have hR0 := hR
  obtain ⟨hL, o1, o2, o3, hP, hD, hS, e1, e2, e3, e4⟩ := hR
  dsimp only at hL o1 o2 o3 hP hD hS e1 e2 e3 e4
  have oz : inR z := o2 _ List.mem_cons_self
  have ox : inR x := o2 _ (List.mem_cons_of_mem _ List.mem_cons_self)
  have o2' : ∀ w ∈ st', okV h w := fun w hw => o2 w (List.mem_cons_of_mem _ (List.mem_cons_of_mem _ hw))
  have hgo := hk ad H locs cells slots rs ⟨hL, o1, al_cons (show inR (min x z) from ⟨by omega, by omega⟩) o2', o3, hP, hD, hS, e1, e2, e3, e4⟩
  refine va_mmin hx hb (by rw [hml]; exact hL.1.symm) hown (hts _ (XL_ok _ hf)) (hts _ w_min.1) (hts _ w_min.2.1) (hts _ w_min.2.2) (by rw [hRm.1]; exact hd1) ?_ (by rw [hRm.2.2.1]; omega) (by rw [hRm.2.2.2]; omega) hd ?_
  · rw [im_sum]
    have := hRm.2.1
    omega
  · have hi := oI_lt oz ox
    have hv : (if Int32.ofInt z < Int32.ofInt x then Int32.ofInt z else Int32.ofInt x) = Int32.ofInt (min x z) := by
      by_cases q : z < x
      · rw [if_pos (hi.mpr q)]
        congr 1
        omega
      · rw [if_neg (fun r => q (hi.mp r))]
        congr 1
        omega
    rw [hv]
    exact hgo
theorem s_copy (C0 : Cx p R s m args meth c y d D cI cC A mc ms) {a : Nat} (hf : (mO y, a) ∈ AL) (hd1 : 1 ≤ d) (hd : decode (mB y) pc = .ok ((.invokestatic a, 3))) (hn : n_copy pc ls st h bc bs t) (hk : WA p l e R s m args below meth c y D cI cC A mc ms ad0 n0 Qf (t)) : WA p l e R s m args below meth c y D cI cC A mc ms ad0 n0 Qf (pc, ls, st, h, bc, bs) := by
  obtain ⟨n, dp, sp, a0, b0, na, nb, st', rfl, hs1, hs2, c1, c2, c3, c4, c5, hs8, rfl⟩ := hn
  obtain ⟨hx, hb, hml, hown, hts, hK, hRm, hin, hA, hNK⟩ := C0
  intro ad H locs cells slots rs hR
  have hR0 := hR
  obtain ⟨hL, o1, o2, o3, hP, hD, hS, e1, e2, e3, e4⟩ := hR
  dsimp only at hL o1 o2 o3 hP hD hS e1 e2 e3 e4
  have on : inR n := o2 _ List.mem_cons_self
  have odp : inR dp := o2 _ (List.mem_cons_of_mem _ List.mem_cons_self)
  have osp : inR sp := o2 _ (List.mem_cons_of_mem _ (List.mem_cons_of_mem _ (List.mem_cons_of_mem _ List.mem_cons_self)))
  have o2' : ∀ w ∈ st', okV h w := fun w hw => o2 w (List.mem_cons_of_mem _ (List.mem_cons_of_mem _ (List.mem_cons_of_mem _ (List.mem_cons_of_mem _ (List.mem_cons_of_mem _ hw)))))
  have hw1 := wo_get (cI := cI) (cC := cC) (ad := ad) hs1
  have hw2 := wo_get (cI := cI) (cC := cC) (ad := ad) hs2
  rw [ce_0] at hw1 hw2
  have nn : ∀ {z : Int}, inR z → 0 ≤ z → ¬ Int32.ofInt z < 0 := fun oz hz q => by
    have := (oI_lt oz inR_0).mp q
    omega
  refine va_copyi hx hb (by rw [hml]; exact hL.1.symm) hown (hts _ (AL_ok _ hf)) (hts _ w_copy.1) (hts _ w_copy.2.1) (hts _ w_copy.2.2) hK hP hD hS a0 b0 0 0 hw1 hw2 rfl rfl rfl (nn osp c2) (nn odp c3) (nn on c1) (by rw [oI_n osp, oI_n on]; omega) (by rw [oI_n odp, oI_n on]; omega) (fun _ _ => rfl) (by rw [hRm.1]; exact hd1) ?_ hd (fun H1 locs1 hP1 hD1 hS1 => ?_)
  · rw [im_sum]
    have e9 : nativeFrameWords "java/lang/System" "arraycopy" 5 = 7 := by decide +kernel
    rw [e9]
    have := hRm.2.1
    omega
  · have hf9 : va_cpy (fun j : Nat => Int32.ofInt (h.2.2 a0 j)) (fun j : Nat => Int32.ofInt (h.2.2 b0 j)) (Int32.ofInt sp).toNatClampNeg (Int32.ofInt dp).toNatClampNeg (Int32.ofInt n).toNatClampNeg = fun j : Nat => Int32.ofInt (cpF (h.2.2 a0) (h.2.2 b0) sp dp n j) := by
      funext j
      unfold va_cpy cpF
      rw [oI_n osp, oI_n odp, oI_n on]
      by_cases q : dp.toNat ≤ j ∧ j < dp.toNat + n.toNat
      · rw [if_pos q, if_pos (by omega)]
        have e9 : ((sp.toNat + (j - dp.toNat) : Nat) : Int) = sp + ((j : Int) - dp) := by omega
        show Int32.ofInt (h.2.2 a0 ((sp.toNat + (j - dp.toNat) : Nat) : Int)) = _
        rw [e9]
      · rw [if_neg q, if_neg (by omega)]
    rw [hf9] at hP1 hD1
    have he : (wo cI cC ad h).set b0 (ad b0, .inl (cI, nb, .inl (fun j : Nat => Int32.ofInt (cpF (h.2.2 a0) (h.2.2 b0) sp dp n j)))) = wo cI cC ad (h.1, h.2.1, upA h.2.2 b0 (cpF (h.2.2 a0) (h.2.2 b0) sp dp n)) := by
      rw [show (Sum.inl (cI, nb, Sum.inl (fun j : Nat => Int32.ofInt (cpF (h.2.2 a0) (h.2.2 b0) sp dp n j))) : va_E) = ce cI cC ad (h.1, h.2.1, upA h.2.2 b0 (cpF (h.2.2 a0) (h.2.2 b0) sp dp n)) b0 (0, nb) by rw [ce_0]; simp [upA]]
      exact wo_set rfl hs2 (fun b q hbq => ce_upA hbq)
    rw [he] at hP1 hD1
    refine hk ad H1 locs1 cells slots rs ⟨hL, o1, o2', okH_upA o3 (fun i => ?_), hP1, hD1, hS1, e1, e2, e3, e4⟩
    unfold cpF
    by_cases q : dp ≤ i ∧ i < dp + n
    · rw [if_pos q]; exact o3.1 _ _
    · rw [if_neg q]; exact o3.1 _ _
theorem s_swt (C0 : Cx p R s m args meth c y d D cI cC A mc ms) {a : Nat} {tg : List Nat} (hd : decode (mB y) pc = .ok ((.tableswitch ((a : Int) - pc) 0 ((tg.length : Int) - 1) (tg.map (fun t : Nat => (t : Int) - pc)).toArray, 1 + (3 - pc % 4) + 12 + 4 * tg.length))) (hn : n_swt a tg ls st h bc bs t) (hk : WA p l e R s m args below meth c y D cI cC A mc ms ad0 n0 Qf (t)) : WA p l e R s m args below meth c y D cI cC A mc ms ad0 n0 Qf (pc, ls, st, h, bc, bs) := by
  obtain ⟨x, st', rfl, hq⟩ := hn
  obtain ⟨hx, hb, hml, hown, hts, hK, hRm, hin, hA, hNK⟩ := C0
  intro ad H locs cells slots rs hR
  have hR0 := hR
  obtain ⟨hL, o1, o2, o3, hP, hD, hS, e1, e2, e3, e4⟩ := hR
  dsimp only at hL o1 o2 o3 hP hD hS e1 e2 e3 e4
  have ox : inR x := o2 _ List.mem_cons_self
  have o2' : ∀ w ∈ st', okV h w := fun w hw => o2 w (List.mem_cons_of_mem _ hw)
  rcases hq with ⟨hq, rfl⟩ | ⟨k, b, rfl, hb9, rfl⟩
  · have hgo := hk ad H locs cells slots rs ⟨hL, o1, o2', o3, hP, hD, hS, e1, e2, e3, e4⟩
    exact lv_tableOut hx hb hd (by rw [oI_t ox]; omega) (tgt := a) (by omega) hgo
  · have hgo := hk ad H locs cells slots rs ⟨hL, o1, o2', o3, hP, hD, hS, e1, e2, e3, e4⟩
    have hl := (List.getElem?_eq_some_iff.mp hb9).1
    refine lv_tableIn hx hb hd (by rw [oI_t ox]; omega) (by rw [oI_t ox]; omega) (off := (b : Int) - pc) ?_ (tgt := b) (by omega) hgo
    rw [oI_t ox, show ((k : Int) - 0).toNat = k by omega]
    simp [hb9]
/-- the script -/
def Xx (X : Nat × (Int → Int)) (s : State) (A : Nat → Prop) (b : Nat) : Prop := b < s.heap.size ∧ ¬ A b ∧ va_X b X.1 (fun j => Int32.ofInt (X.2 j)) s s.heap ∧ X.1 ≤ 100000 ∧ ∀ i, inR (X.2 i)
theorem s_sld (C0 : Cx p R s m args meth c y d D cI cC A mc ms) {X : Nat × (Int → Int)} (hX : Xx X s A (ad0 SCR)) (hd : decode (mB y) pc = .ok ((.iaload, 1))) (hn : n_sld X pc ls st h bc bs t) (hk : WA p l e R s m args below meth c y D cI cC A mc ms ad0 n0 Qf (t)) : WA p l e R s m args below meth c y D cI cC A mc ms ad0 n0 Qf (pc, ls, st, h, bc, bs) := by
  obtain ⟨i, st', rfl, hi, rfl⟩ := hn
  obtain ⟨hx, hb, hml, hown, hts, hK, hRm, hin, hA, hNK⟩ := C0
  intro ad H locs cells slots rs hR
  have hR0 := hR
  obtain ⟨hL, o1, o2, o3, hP, hD, hS, e1, e2, e3, e4⟩ := hR
  dsimp only at hL o1 o2 o3 hP hD hS e1 e2 e3 e4
  have oi : inR i := o2 _ List.mem_cons_self
  have o2' : ∀ w ∈ st', okV h w := fun w hw => o2 w (List.mem_cons_of_mem _ (List.mem_cons_of_mem _ hw))
  have hgo := hk ad H locs cells slots rs ⟨hL, o1, al_cons (show inR _ from hX.2.2.2.2 i) o2', o3, hP, hD, hS, e1, e2, e3, e4⟩
  have hs : ad SCR = ad0 SCR := e4 SCR (Or.inr (by decide))
  show W p l e R s m args below meth c H locs cells slots Qf (F0 m pc rs (.int (Int32.ofInt i) :: .ref (ad SCR) :: st'.map (im ad)))
  rw [hs]
  refine va_sld hx hb hX.2.2.1 hX.1 hX.2.1 hS (in_vp oi hi.1 hi.2) hd ?_
  rw [cl_toN oi hi.1]
  exact hgo
theorem s_slen (C0 : Cx p R s m args meth c y d D cI cC A mc ms) {X : Nat × (Int → Int)} (hX : Xx X s A (ad0 SCR)) (hd : decode (mB y) pc = .ok ((.arraylength, 1))) (hn : n_slen X pc ls st h bc bs t) (hk : WA p l e R s m args below meth c y D cI cC A mc ms ad0 n0 Qf (t)) : WA p l e R s m args below meth c y D cI cC A mc ms ad0 n0 Qf (pc, ls, st, h, bc, bs) := by
  obtain ⟨st', rfl, rfl⟩ := hn
  obtain ⟨hx, hb, hml, hown, hts, hK, hRm, hin, hA, hNK⟩ := C0
  intro ad H locs cells slots rs hR
  have hR0 := hR
  obtain ⟨hL, o1, o2, o3, hP, hD, hS, e1, e2, e3, e4⟩ := hR
  dsimp only at hL o1 o2 o3 hP hD hS e1 e2 e3 e4
  have o2' : ∀ w ∈ st', okV h w := fun w hw => o2 w (List.mem_cons_of_mem _ hw)
  have hgo := hk ad H locs cells slots rs ⟨hL, o1, al_cons (show inR _ from ⟨by omega, by have := hX.2.2.2.1; omega⟩) o2', o3, hP, hD, hS, e1, e2, e3, e4⟩
  have hs : ad SCR = ad0 SCR := e4 SCR (Or.inr (by decide))
  show W p l e R s m args below meth c H locs cells slots Qf (F0 m pc rs (.ref (ad SCR) :: st'.map (im ad)))
  rw [hs]
  refine va_slen hx hb hX.2.2.1 hX.1 hX.2.1 hS hd ?_
  rw [← Int32.ofInt_eq_ofNat]
  exact hgo
end SND
