/-! ===== a step of any kind; a run ===== -/
section SND
variable {p : Program} {l : Launch} {e : Env} {R : Room} {s : State} {m : MethodId} {args : Array Value} {below : List Frame} {meth : Method} {c : Code} {y d : Nat} {D : va_G} {cI cC : ClassId} {A : Nat → Prop} {mc ms : Nat} {ad0 : Nat → Nat} {n0 : Nat} {Qf : State → Prop}
variable {pc : Nat} {ls st : List VV} {h : Hp} {bc bs : Nat} {t : St}
theorem s_nx (C0 : Cx p R s m args meth c y d D cI cC A mc ms) {X : Nat × (Int → Int)} {o : Op} (hcd : cd y pc = some o) (hd1 : 1 ≤ d) (hd5 : y = 68 → 5 ≤ d) (hX : y = 188 → Xx X s A (ad0 SCR)) (hSx : y = 68 ∨ y = 188 → Sx s A (ad0 STR)) (hn : nx X o pc ls st h bc bs t) (hk : WA p l e R s m args below meth c y D cI cC A mc ms ad0 n0 Qf (t)) : WA p l e R s m args below meth c y D cI cC A mc ms ad0 n0 Qf (pc, ls, st, h, bc, bs) := by
  obtain ⟨hdec, hlk⟩ := cd_ok hcd
  obtain ⟨tag, a, b, cc, z, tg⟩ := o
  by_cases q0 : tag = 0
  · subst q0
    exact s_iload C0 hdec hn hk
  by_cases q1 : tag = 1
  · subst q1
    exact s_aload C0 hdec hn hk
  by_cases q2 : tag = 2
  · subst q2
    exact s_istore C0 hdec hn hk
  by_cases q3 : tag = 3
  · subst q3
    exact s_astore C0 hdec hn hk
  by_cases q8 : tag = 8
  · subst q8
    exact s_iadd C0 hdec hn hk
  by_cases q9 : tag = 9
  · subst q9
    exact s_isub C0 hdec hn hk
  by_cases q10 : tag = 10
  · subst q10
    exact s_imul C0 hdec hn hk
  by_cases q11 : tag = 11
  · subst q11
    exact s_idiv C0 hdec hn hk
  by_cases q12 : tag = 12
  · subst q12
    exact s_irem C0 hdec hn hk
  by_cases q13 : tag = 13
  · subst q13
    exact s_iinc C0 hdec hn hk
  by_cases q14 : tag = 14
  · subst q14
    exact s_iand C0 hdec hn hk
  by_cases q15 : tag = 15
  · subst q15
    exact s_i2c C0 hdec hn hk
  by_cases q16 : tag = 16
  · subst q16
    exact s_dup C0 hdec hn hk
  by_cases q17 : tag = 17
  · subst q17
    exact s_dup2 C0 hdec hn hk
  by_cases q18 : tag = 18
  · subst q18
    exact s_pop C0 hdec hn hk
  by_cases q19 : tag = 19
  · subst q19
    exact s_goto C0 hdec hn hk
  by_cases q20 : tag = 20
  · subst q20
    exact s_if_eq C0 hdec hn hk
  by_cases q21 : tag = 21
  · subst q21
    exact s_if_ne C0 hdec hn hk
  by_cases q22 : tag = 22
  · subst q22
    exact s_if_lt C0 hdec hn hk
  by_cases q23 : tag = 23
  · subst q23
    exact s_if_ge C0 hdec hn hk
  by_cases q24 : tag = 24
  · subst q24
    exact s_if_gt C0 hdec hn hk
  by_cases q25 : tag = 25
  · subst q25
    exact s_if_le C0 hdec hn hk
  by_cases q26 : tag = 26
  · subst q26
    exact s_icmp_eq C0 hdec hn hk
  by_cases q27 : tag = 27
  · subst q27
    exact s_icmp_ne C0 hdec hn hk
  by_cases q28 : tag = 28
  · subst q28
    exact s_icmp_lt C0 hdec hn hk
  by_cases q29 : tag = 29
  · subst q29
    exact s_icmp_ge C0 hdec hn hk
  by_cases q30 : tag = 30
  · subst q30
    exact s_icmp_gt C0 hdec hn hk
  by_cases q31 : tag = 31
  · subst q31
    exact s_icmp_le C0 hdec hn hk
  by_cases q38 : tag = 38
  · subst q38
    exact s_iald C0 hdec hn hk
  by_cases q39 : tag = 39
  · subst q39
    exact s_iast C0 hdec hn hk
  by_cases q40 : tag = 40
  · subst q40
    exact s_cald C0 hdec hn hk
  by_cases q41 : tag = 41
  · subst q41
    exact s_cast C0 hdec hn hk
  by_cases q42 : tag = 42
  · subst q42
    exact s_alen C0 hdec hn hk
  by_cases q43 : tag = 43
  · subst q43
    exact s_newi C0 hdec hn hk
  by_cases q44 : tag = 44
  · subst q44
    exact s_newc C0 hdec hn hk
  by_cases q51 : tag = 51
  · subst q51
    exact s_swt C0 hdec hn hk
  by_cases q4 : tag = 4
  · subst q4
    exact s_iconst C0 (of_decide_eq_true hlk) hdec hn hk
  by_cases q5 : tag = 5
  · subst q5
    exact s_bipush C0 (of_decide_eq_true hlk) hdec hn hk
  by_cases q6 : tag = 6
  · subst q6
    exact s_sipush C0 (of_decide_eq_true hlk) hdec hn hk
  by_cases q7 : tag = 7
  · subst q7
    exact s_ldc C0 (of_decide_eq_true hlk) hdec hn hk
  by_cases q32 : tag = 32
  · subst q32
    have hlk : (decide (((mO y, a), (b, cc)) ∈ FL) && decide (b < 10) && decide (cc < nF b) && decide (fK b cc ≤ 1)) = true := hlk
    simp only [Bool.and_eq_true, decide_eq_true_eq] at hlk
    exact s_getI C0 hlk.1.1.1 hlk.1.1.2 hlk.1.2 hlk.2 hdec hn hk
  by_cases q33 : tag = 33
  · subst q33
    have hlk : (decide (((mO y, a), (b, cc)) ∈ FL) && decide (b < 10) && decide (cc < nF b) && decide (2 ≤ fK b cc)) = true := hlk
    simp only [Bool.and_eq_true, decide_eq_true_eq] at hlk
    exact s_getR C0 hlk.1.1.1 hlk.1.1.2 hlk.1.2 hlk.2 hdec hn hk
  by_cases q34 : tag = 34
  · subst q34
    have hlk : (decide (((mO y, a), (b, cc)) ∈ FL) && decide (b < 10) && decide (cc < nF b) && decide (fK b cc = 0)) = true := hlk
    simp only [Bool.and_eq_true, decide_eq_true_eq] at hlk
    exact s_putI C0 hlk.1.1.1 hlk.1.1.2 hlk.1.2 hlk.2 hdec hn hk
  by_cases q35 : tag = 35
  · subst q35
    have hlk : (decide (((mO y, a), (b, cc)) ∈ FL) && decide (b < 10) && decide (cc < nF b) && decide (fK b cc = 1)) = true := hlk
    simp only [Bool.and_eq_true, decide_eq_true_eq] at hlk
    exact s_putZ C0 hlk.1.1.1 hlk.1.1.2 hlk.1.2 hlk.2 hdec hn hk
  by_cases q36 : tag = 36
  · subst q36
    have hlk : (decide (((mO y, a), (b, cc)) ∈ FL) && decide (b < 10) && decide (cc < nF b) && decide (fK b cc = 2)) = true := hlk
    simp only [Bool.and_eq_true, decide_eq_true_eq] at hlk
    exact s_putR C0 hlk.1.1.1 hlk.1.1.2 hlk.1.2 hlk.2 hdec hn hk
  by_cases q37 : tag = 37
  · subst q37
    have hlk : (decide (((mO y, a), (b, cc)) ∈ FL) && decide (b < 10) && decide (cc < nF b) && decide (fK b cc = 3) && decide (mO y = b) && decide (mK y = 2) && decide (y < 188)) = true := hlk
    simp only [Bool.and_eq_true, decide_eq_true_eq] at hlk
    exact s_putRF C0 hlk.1.1.1.1.1.1 hlk.1.1.1.1.1.2 hlk.1.1.1.1.2 hlk.1.1.1.2 hlk.1.1.2 hlk.1.2 hlk.2 hdec hn hk
  by_cases q45 : tag = 45
  · subst q45
    have hlk : (decide (((mO y, a), b) ∈ CK) && decide (b < 10) && decide (cc = nF b)) = true := hlk
    simp only [Bool.and_eq_true, decide_eq_true_eq] at hlk
    exact s_new C0 hlk.1.1 hlk.1.2 hlk.2 hdec hn hk
  by_cases q49 : tag = 49
  · subst q49
    exact s_objI C0 (of_decide_eq_true hlk) hd1 hdec hn hk
  by_cases q50 : tag = 50
  · subst q50
    exact s_copy C0 (of_decide_eq_true hlk) hd1 hdec hn hk
  by_cases q61 : tag = 61
  · subst q61
    exact s_max C0 (of_decide_eq_true hlk) hd1 hdec hn hk
  by_cases q62 : tag = 62
  · subst q62
    exact s_min C0 (of_decide_eq_true hlk) hd1 hdec hn hk
  by_cases q57 : tag = 57
  · subst q57
    exact s_sld C0 (hX (of_decide_eq_true hlk)) hdec hn hk
  by_cases q58 : tag = 58
  · subst q58
    exact s_slen C0 (hX (of_decide_eq_true hlk)) hdec hn hk
  by_cases q54 : tag = 54
  · subst q54
    have hlk : (decide (y = 68) && decide (a = 78)) = true := hlk
    simp only [Bool.and_eq_true, decide_eq_true_eq] at hlk
    obtain ⟨hy, rfl⟩ := hlk
    exact s_ldcS C0 hy (hd5 hy) (hSx (Or.inl hy)) hdec hn hk
  by_cases q55 : tag = 55
  · subst q55
    have hlk : (decide (y = 68) && decide (a = 80)) = true := hlk
    simp only [Bool.and_eq_true, decide_eq_true_eq] at hlk
    obtain ⟨hy, rfl⟩ := hlk
    exact s_sLen C0 hy (hd5 hy) (hSx (Or.inl hy)) hdec hn hk
  by_cases q56 : tag = 56
  · subst q56
    have hlk : (decide (y = 68) && decide (a = 86)) = true := hlk
    simp only [Bool.and_eq_true, decide_eq_true_eq] at hlk
    obtain ⟨hy, rfl⟩ := hlk
    exact s_sCh C0 hy (hd5 hy) (hSx (Or.inl hy)) hdec hn hk
  exfalso
  have hn : nx X (tag, a, b, cc, z, tg) pc ls st h bc bs t := hn
  unfold nx at hn
  dsimp only at hn
  simp only [if_neg q0, if_neg q1, if_neg q2, if_neg q3, if_neg q4, if_neg q5, if_neg q6, if_neg q7, if_neg q8, if_neg q9, if_neg q10, if_neg q11, if_neg q12, if_neg q13, if_neg q14, if_neg q15, if_neg q16, if_neg q17, if_neg q18, if_neg q19, if_neg q20, if_neg q21, if_neg q22, if_neg q23, if_neg q24, if_neg q25, if_neg q26, if_neg q27, if_neg q28, if_neg q29, if_neg q30, if_neg q31, if_neg q32, if_neg q33, if_neg q34, if_neg q35, if_neg q36, if_neg q37, if_neg q38, if_neg q39, if_neg q40, if_neg q41, if_neg q42, if_neg q43, if_neg q44, if_neg q45, if_neg q49, if_neg q50, if_neg q51, if_neg q54, if_neg q55, if_neg q56, if_neg q57, if_neg q58, if_neg q61, if_neg q62, if_false] at hn
/-- what is to be shown at a method's end -/
def RH (p : Program) (l : Launch) (e : Env) (R : Room) (s : State) (m : MethodId) (args : Array Value) (below : List Frame) (meth : Method) (c : Code) (y : Nat) (D : va_G) (cI cC : ClassId) (A : Nat → Prop) (mc ms : Nat) (ad0 : Nat → Nat) (n0 : Nat) (Qf : State → Prop) (r : VV) (h' : Hp) : Prop :=
  ∀ (pc : Nat) (ls st : List VV) (bc bs : Nat) (ad : Nat → Nat) (H : Heap) (locs : List Loc) (cells slots : Nat) (rs : Array Slot), Rl s y D cI cC A mc ms ad0 n0 (pc, ls, st, h', bc, bs) ad H locs cells slots rs →
    ((∃ z, r = .inl z ∧ st = [.inl z] ∧ mR y ≠ 0 ∧ (mR y = 2 → z = 0 ∨ z = 1) ∧ decode (mB y) pc = .ok (.ireturn, 1)) ∨ (r = .inr none ∧ st = [] ∧ mR y = 0 ∧ decode (mB y) pc = .ok (.return_, 1))) →
    W p l e R s m args below meth c H locs cells slots Qf (F0 m pc rs (st.map (im ad)))
end SND
theorem lv_args_mem (ad : Nat → Nat) : ∀ (as : List VV) (k i : Nat) (v : VV), as[i]? = some v → (k + i, im ad v) ∈ lv_args k (as.map (im ad))
  | [], _, _, _, h => by simp at h
  | a :: as, k, i, v, h => by
    rw [List.map_cons, lv_args]
    rw [if_neg (by rw [im_cat]; decide)]
    cases i with
    | zero =>
      rw [List.getElem?_cons_zero] at h
      cases h
      exact List.mem_cons_self
    | succ i =>
      rw [List.getElem?_cons_succ] at h
      have := lv_args_mem ad as (k + 1) i v h
      rw [show k + (i + 1) = k + 1 + i by omega]
      exact List.mem_cons_of_mem _ this
theorem lg_len (ad : Nat → Nat) : ∀ (as : List VV), (lg_sl (as.map (im ad))).length = as.length
  | [] => rfl
  | a :: as => by
    have := lg_len ad as
    unfold lg_sl at this ⊢
    rw [List.map_cons, List.flatMap_cons, List.length_append, this, if_neg (by rw [im_cat]; decide)]
    simp
    omega
theorem ent_Lc {ad : Nat → Nat} {b : Nat} {as : List VV} {rs : Array Slot} (hle : as.length ≤ mL b) (hl : lv_has rs (mL b) (lv_args 0 (as.map (im ad)))) : Lc ad (ent b as) rs (mL b) := by
  refine ⟨hl.1, by unfold ent; simp; omega, hl.2.1, fun i v hi hv => ?_⟩
  unfold ent at hi
  rcases Nat.lt_or_ge i as.length with q | q
  · rw [List.getElem?_append_left q] at hi
    have := hl.2.2 (0 + i, im ad v) (lv_args_mem ad as 0 i v hi)
    rw [Nat.zero_add] at this
    exact this
  · rw [List.getElem?_append_right q] at hi
    have := List.mem_of_getElem? hi
    exact absurd (List.mem_replicate.mp this).2 hv
theorem ent_ok {h : Hp} {b : Nat} {as : List VV} (ha : ∀ v ∈ as, okV h v) : ∀ v ∈ ent b as, okV h v := by
  intro v hv
  unfold ent at hv
  rcases List.mem_append.mp hv with q | q
  · exact ha v q
  · rw [(List.mem_replicate.mp q).2]
    exact trivial
theorem mr1 {y : Nat} (hy : y < 190) (h0 : mR y ≠ 0) (h2 : mR y ≠ 2) : mR y = 1 := by
  have := (nums y hy).2.2.2.1
  omega
/-- a method whose body is walked has its contract -/
theorem met_of {l : Launch} {y d : Nat} {D : va_G} {cI cC : ClassId} {ad : Nat → Nat} {h : Hp} {as : List VV} {mc ms sz : Nat} {r : VV} {h' : Hp} (hy : y < 190) (h8 : y ≠ 188) (o3 : okH h) (oas : ∀ v ∈ as, okV h v) (hal : as.length = mA y)
    (hr : (mR y = 0 → r = .inr none) ∧ (mR y ≠ 0 → ∃ z, r = .inl z ∧ (mR y = 2 → z = 0 ∨ z = 1)))
    (hW : ∀ {p : Program} {e : Env} {R : Room} {s : State} {m : MethodId} {args : Array Value} {below : List Frame} {meth : Method} {c : Code} {A : Nat → Prop} {Qf : State → Prop}, Cx p R s m args meth c y d D cI cC A mc ms → (y = 68 → Sx s A (ad STR)) → RH p l e R s m args below meth c y D cI cC A mc ms ad h.1.length Qf r h' → WA p l e R s m args below meth c y D cI cC A mc ms ad h.1.length Qf (0, ent y as, [], h, mc, ms)) :
    MP l y d D cI cC ad h as mc ms sz r h' := by
  have hpl := (plains (mO y) (nums y hy).1).1
  have key : ∀ (Qc : Array Value → State → Outcome → State → Prop), (∀ {p : Program} {e : Env} {s : State} {m : MethodId} {below : List Frame} {meth : Method} {c : Code}, s.heap.size = sz → meth.locks = false → meth.sig.returnType = mT y → p.tables.exec = Jvm.exec → c.code = mB y → RH p l e (rmD d mc ms) s m (as.map (im ad)).toArray below meth c y D cI cC (va_A (wo cI cC ad h) s.heap.size) mc ms ad h.1.length (MQ below Qc (as.map (im ad)).toArray s mc ms (va_A (wo cI cC ad h) s.heap.size)) r h') → Met l (mN y) (mW y) (rmD d mc ms) (PM y D cI cC ad h as sz) Qc mc ms (va_A (wo cI cC ad h) sz) := by
    intro Qc hQ
    refine Met.ofW (cc := mB y) (maxL := mL y) (ret := mT y) hpl rfl ?_
    intro p e s m args below meth c s₁ B hml hv
    obtain ⟨rfl, hsz, hP, hK, hD0, hN, hSx⟩ := hv
    subst hsz
    have hts := atoms_spec (ws := mW y) B.pre
    have hwl : ∀ w ∈ wl, w.before (as.map (im ad)).toArray s = true := fun w hw => hts w (List.mem_cons_of_mem _ hw)
    have hown : s.vm.findClass (mN y).cls = some m.cls := findClass_of_methodNamed B.named
    have hC : Cx p (rmD d mc ms) s m (as.map (im ad)).toArray meth c y d D cI cC (va_A (wo cI cC ad h) s.heap.size) mc ms := ⟨B.exec, B.bytes, hml, hown, hwl, hK, ⟨rfl, Nat.le_refl _, rfl, rfl⟩, fun _ => (name_of_methodNamed B.named B.method).1, fun q hq => Or.inr hq, hN⟩
    have hle : as.length ≤ mL y := by rw [hal]; exact (nums y hy).2.2.1
    have hl := lv_entry (as.map (im ad)) (n := mL y) (by rw [lg_len]; exact hle)
    rw [lg_entry_eq]
    generalize (lg_sl (as.map (im ad)) ++ List.replicate (mL y - (lg_sl (as.map (im ad))).length) Slot.unset).toArray = rs at hl ⊢
    exact hW (e := e) (below := below) hC hSx (hQ rfl B.notSynchronized B.returns B.exec B.bytes) ad s.heap [] 0 0 rs ⟨ent_Lc hle hl, ent_ok oas, fun v hv => by simp at hv, o3, hP, hD0.self, va_S.rf, by simp, by simp, Nat.le_refl _, fun _ _ => rfl⟩
  refine ⟨fun hz => ⟨hr.1 hz, key _ ?_⟩, fun hz => ?_⟩
  · intro p e s m below meth c hsz hlocks hrt hx hb pc ls st bc bs ad2 H locs cells slots rs hR hend
    rw [hr.1 hz] at hend
    rcases hend with ⟨z, q, -⟩ | ⟨-, rfl, -, hdec⟩
    · cases q
    · obtain ⟨hL, o1, o2, o3', hP, hD, hS, e1, e2, e3, e4⟩ := hR
      dsimp only at hL o1 o2 o3' hP hD hS e1 e2 e3 e4
      refine W.widen (k := mc) (n := ms) (by omega) (by omega) ?_
      refine W.vret hx hb (by rw [hrt]; unfold mT; rw [if_pos hz]) (fun t ht hW => ?_) hS.2.2 hdec hlocks
      unfold QV
      refine ⟨⟨ad2, rfl, ⟨o3', e3, e4⟩, by rw [ht]; exact hP, ?_⟩, ?_⟩
      · rw [← hsz]; exact hD
      · rw [← hsz]; exact hS.F ht
  · obtain ⟨z, rfl, hz2⟩ := hr.2 hz
    refine ⟨z, rfl, key _ ?_⟩
    intro p e s m below meth c hsz hlocks hrt hx hb pc ls st bc bs ad2 H locs cells slots rs hR hend
    rcases hend with ⟨z', q, rfl, -, hz3, hdec⟩ | ⟨q, -⟩
    · have q : z = z' := by injection q
      subst q
      obtain ⟨hL, o1, o2, o3', hP, hD, hS, e1, e2, e3, e4⟩ := hR
      dsimp only at hL o1 o2 o3' hP hD hS e1 e2 e3 e4
      refine W.widen (k := mc) (n := ms) (by omega) (by omega) ?_
      have hq : ∀ t : State, t.heap = H → s.WarmedH t.vm → QI D cI cC ad h sz z h' (as.map (im ad)).toArray s (.returned (some (.int (Int32.ofInt z)))) t := fun t ht hW => by
        unfold QI
        refine ⟨⟨Int32.ofInt z, ad2, rfl, ⟨rfl, o2 _ List.mem_cons_self, o3', e3, e4⟩, by rw [ht]; exact hP, ?_⟩, ?_⟩
        · rw [← hsz]; exact hD
        · rw [← hsz]; exact hS.F ht
      by_cases h2 : mR y = 2
      · refine W.zret (ty := .boolean) hx hb (by rw [hrt]; unfold mT; rw [if_neg hz, if_neg (by omega)]) ?_ hq hS.2.2 hdec hlocks
        rcases hz3 h2 with rfl | rfl <;> rfl
      · have h1 : mR y = 1 := mr1 hy hz h2
        exact W.iret hx hb (by rw [hrt]; unfold mT; rw [if_neg hz, if_pos h1]) hq hS.2.2 hdec hlocks
    · cases q
theorem callee_68 {y pc : Nat} {o : Op} {st as st' : List VV} {h : Hp} (hcd : cd y pc = some o) (hco : callOk o st as st' h) (e : o.2.2.1 = 68) : y = 188 := by
  obtain ⟨-, hlk⟩ := cd_ok hcd
  obtain ⟨tag, idx, b, cc, zz, tg⟩ := o
  obtain ⟨htag, -⟩ := hco
  dsimp only at htag e
  rcases htag with q | q | q | q | q <;> subst q
  · have hlk : (decide (((mO y, idx), b) ∈ ML) && decide (b < 190) && decide (b ≠ 188) && decide (mK b = 0) && decide (b ≠ 68)) = true := hlk
    simp only [Bool.and_eq_true, decide_eq_true_eq] at hlk
    exact absurd e hlk.2
  · have hlk : (decide (((mO y, idx), b) ∈ ML) && decide (b < 190) && decide (b ≠ 188) && decide (mK b = 1) && decide (b ≠ 68)) = true := hlk
    simp only [Bool.and_eq_true, decide_eq_true_eq] at hlk
    exact absurd e hlk.2
  · have hlk : (decide (((mO y, idx), b) ∈ ML) && decide (b < 190) && decide (b ≠ 188) && decide (mK b = 2) && (decide (b ≠ 68) || decide (y = 188))) = true := hlk
    simp only [Bool.and_eq_true, Bool.or_eq_true, decide_eq_true_eq] at hlk
    exact hlk.2.elim (fun r => absurd e r) id
  · have hlk : (decide (((mO y, idx), b) ∈ NL) && decide (b < 190) && decide (b ≠ 188) && decide (mK b = 2) && decide (b ≠ 68)) = true := hlk
    simp only [Bool.and_eq_true, decide_eq_true_eq] at hlk
    exact absurd e hlk.2
  · have hlk : (decide (((mO y, idx), b) ∈ NL) && decide (b < 190) && decide (b ≠ 188) && decide (mK b = 1) && decide (b ≠ 68)) = true := hlk
    simp only [Bool.and_eq_true, decide_eq_true_eq] at hlk
    exact absurd e hlk.2
theorem callee_ok {y pc : Nat} {o : Op} {st as st' : List VV} {h : Hp} (hcd : cd y pc = some o) (hco : callOk o st as st' h) : o.2.2.1 < 190 ∧ o.2.2.1 ≠ 188 := by
  obtain ⟨-, hlk⟩ := cd_ok hcd
  obtain ⟨tag, idx, b, cc, zz, tg⟩ := o
  obtain ⟨htag, -⟩ := hco
  dsimp only at htag ⊢
  rcases htag with q | q | q | q | q <;> subst q
  · have hlk : (decide (((mO y, idx), b) ∈ ML) && decide (b < 190) && decide (b ≠ 188) && decide (mK b = 0) && decide (b ≠ 68)) = true := hlk
    simp only [Bool.and_eq_true, decide_eq_true_eq] at hlk
    exact ⟨hlk.1.1.1.2, hlk.1.1.2⟩
  · have hlk : (decide (((mO y, idx), b) ∈ ML) && decide (b < 190) && decide (b ≠ 188) && decide (mK b = 1) && decide (b ≠ 68)) = true := hlk
    simp only [Bool.and_eq_true, decide_eq_true_eq] at hlk
    exact ⟨hlk.1.1.1.2, hlk.1.1.2⟩
  · have hlk : (decide (((mO y, idx), b) ∈ ML) && decide (b < 190) && decide (b ≠ 188) && decide (mK b = 2) && (decide (b ≠ 68) || decide (y = 188))) = true := hlk
    simp only [Bool.and_eq_true, Bool.or_eq_true, decide_eq_true_eq] at hlk
    exact ⟨hlk.1.1.1.2, hlk.1.1.2⟩
  · have hlk : (decide (((mO y, idx), b) ∈ NL) && decide (b < 190) && decide (b ≠ 188) && decide (mK b = 2) && decide (b ≠ 68)) = true := hlk
    simp only [Bool.and_eq_true, decide_eq_true_eq] at hlk
    exact ⟨hlk.1.1.1.2, hlk.1.1.2⟩
  · have hlk : (decide (((mO y, idx), b) ∈ NL) && decide (b < 190) && decide (b ≠ 188) && decide (mK b = 1) && decide (b ≠ 68)) = true := hlk
    simp only [Bool.and_eq_true, decide_eq_true_eq] at hlk
    exact ⟨hlk.1.1.1.2, hlk.1.1.2⟩
/-- what a run answers, by its method's kind -/
theorem run_kind {X : Nat × (Int → Int)} : ∀ (n : Nat) {d y pc : Nat} {ls st : List VV} {h : Hp} {bc bs : Nat} {r : VV} {h' : Hp}, run X n d y pc ls st h bc bs r h' → (mR y = 0 → r = .inr none) ∧ (mR y ≠ 0 → ∃ z, r = .inl z ∧ (mR y = 2 → z = 0 ∨ z = 1)) := by
  intro n
  induction n with
  | zero => intro d y pc ls st h bc bs r h' q; exact q.elim
  | succ n ih =>
    intro d y pc ls st h bc bs r h' q
    obtain ⟨o, ho, q⟩ := q
    rcases q with ⟨q0, z, -, rfl, -, q5⟩ | ⟨q0, -, rfl, -⟩ | ⟨t, q1, q2, q3⟩ | ⟨d', as, st', mc, ms, r1, h1, q1, q2, q3, q4, q5, q6⟩
    · obtain ⟨-, hlk⟩ := cd_ok ho
      obtain ⟨tag, a, b, cc, zz, tg⟩ := o
      dsimp only at q0 q5
      subst q0
      have hlk : (decide (mR y = a) && decide (1 ≤ a)) = true := hlk
      simp only [Bool.and_eq_true, decide_eq_true_eq] at hlk
      exact ⟨fun e => by omega, fun _ => ⟨z, rfl, fun e => q5 (by omega)⟩⟩
    · obtain ⟨-, hlk⟩ := cd_ok ho
      obtain ⟨tag, a, b, cc, zz, tg⟩ := o
      dsimp only at q0
      subst q0
      have hlk : decide (mR y = 0) = true := hlk
      have hlk := of_decide_eq_true hlk
      exact ⟨fun _ => rfl, fun e => absurd hlk e⟩
    · exact ih q3
    · exact ih q6
/-- SOUNDNESS: a run of the pure machine is walked by the real one -/
theorem snd (X : Nat × (Int → Int)) (l : Launch) : ∀ (n : Nat) {d y pc : Nat} {ls st : List VV} {h : Hp} {bc bs : Nat} {r : VV} {h' : Hp}, run X n d y pc ls st h bc bs r h' → ∀ {p : Program} {e : Env} {R : Room} {s : State} {m : MethodId} {args : Array Value} {below : List Frame} {meth : Method} {c : Code} {D : va_G} {cI cC : ClassId} {A : Nat → Prop} {mc ms : Nat} {ad0 : Nat → Nat} {n0 : Nat} {Qf : State → Prop}, Cx p R s m args meth c y d D cI cC A mc ms → (y = 188 → Xx X s A (ad0 SCR)) → (y = 68 ∨ y = 188 → Sx s A (ad0 STR)) → ((y = 68 → 5 ≤ d) ∧ (y = 188 → 6 ≤ d)) → RH p l e R s m args below meth c y D cI cC A mc ms ad0 n0 Qf r h' → WA p l e R s m args below meth c y D cI cC A mc ms ad0 n0 Qf (pc, ls, st, h, bc, bs) := by
  intro n
  induction n with
  | zero => intro d y pc ls st h bc bs r h' q; exact q.elim
  | succ n ih =>
    intro d y pc ls st h bc bs r h' q p e R s m args below meth c D cI cC A mc ms ad0 n0 Qf C0 hX hSx hD5 hH
    obtain ⟨o, ho, q⟩ := q
    rcases q with ⟨q0, z, rfl, rfl, rfl, q5⟩ | ⟨q0, rfl, rfl, rfl⟩ | ⟨t, q1, q2, q3⟩ | ⟨d', as, st', mc1, ms1, r1, h1, q1, q2, q3, q4, q5, q6⟩
    · obtain ⟨hdec, hlk⟩ := cd_ok ho
      obtain ⟨tag, a, b, cc, zz, tg⟩ := o
      dsimp only at q0 q5
      subst q0
      have hlk : (decide (mR y = a) && decide (1 ≤ a)) = true := hlk
      simp only [Bool.and_eq_true, decide_eq_true_eq] at hlk
      intro ad H locs cells slots rs hR
      exact hH pc ls [.inl z] bc bs ad H locs cells slots rs hR (Or.inl ⟨z, rfl, rfl, by omega, fun e => q5 (by omega), hdec⟩)
    · obtain ⟨hdec, hlk⟩ := cd_ok ho
      obtain ⟨tag, a, b, cc, zz, tg⟩ := o
      dsimp only at q0
      subst q0
      have hlk : decide (mR y = 0) = true := hlk
      have hlk := of_decide_eq_true hlk
      intro ad H locs cells slots rs hR
      exact hH pc ls [] bc bs ad H locs cells slots rs hR (Or.inr ⟨rfl, rfl, hlk, hdec⟩)
    · exact s_nx C0 ho q1 hD5.1 hX hSx q2 (ih q3 C0 hX hSx hD5 hH)
    · obtain ⟨b1, b2⟩ := callee_ok ho q2
      refine s_call C0 ho q2 q1 q3 q4 hSx (fun ad sz o3 oas => ?_) (ih q6 C0 hX hSx hD5 hH)
      exact met_of b1 b2 o3 oas q2.2.2.1 (run_kind n q5) (fun C1 hS1 hH1 => ih q5 C1 (fun e => absurd e b2) (fun e => hS1 (e.resolve_right b2)) ⟨fun e => by have := hD5.2 (callee_68 ho q2 e); omega, fun e => absurd e b2⟩ hH1)
