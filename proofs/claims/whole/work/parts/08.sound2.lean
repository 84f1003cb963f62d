/-! ===== ONE STEP OF THE PURE MACHINE IS STEPS OF THE REAL ONE ===== -/
def NK (U : State) : Prop := ∀ e ∈ NL, va_Nw (.methodLinkNest (cN e.1.1) e.1.2 (mN e.2) "TierPods") U
def Cx (p : Program) (R : Room) (s : State) (m : MethodId) (args : Array Value) (meth : Method) (c : Code) (y d : Nat) (D : va_G) (cI cC : ClassId) (A : Nat → Prop) (mc ms : Nat) : Prop :=
  p.tables.exec = Jvm.exec ∧ c.code = mB y ∧ c.maxLocals = mL y ∧ s.vm.findClass (cN (mO y)) = some m.cls ∧ (∀ w ∈ wl, w.before args s = true) ∧ va_K D classes [(cI, .int), (cC, .char)] s ∧ (R.frames = d ∧ 40 * d ≤ R.locals ∧ R.cells = mc ∧ R.slots = ms) ∧ (y < 188 → meth.name = (mN y).name) ∧ (∀ q, s.heap.size ≤ q → A q) ∧ NK s
def Rl (s : State) (y : Nat) (D : va_G) (cI cC : ClassId) (A : Nat → Prop) (mc ms : Nat) (ad0 : Nat → Nat) (n0 : Nat) (t : St) (ad : Nat → Nat) (H : Heap) (locs : List Loc) (cells slots : Nat) (rs : Array Slot) : Prop :=
  Lc ad t.2.1 rs (mL y) ∧ (∀ v ∈ t.2.1, okV t.2.2.2.1 v) ∧ (∀ v ∈ t.2.2.1, okV t.2.2.2.1 v) ∧ okH t.2.2.2.1 ∧ va_P D classes (wo cI cC ad t.2.2.2.1) H ∧ va_D A (wo cI cC ad t.2.2.2.1) ∧ va_S A s.heap H locs ∧ cells + t.2.2.2.2.1 = mc ∧ slots + t.2.2.2.2.2 = ms ∧ n0 ≤ t.2.2.2.1.1.length ∧ (∀ k, k < n0 ∨ STR ≤ k → ad k = ad0 k)
def WA (p : Program) (l : Launch) (e : Env) (R : Room) (s : State) (m : MethodId) (args : Array Value) (below : List Frame) (meth : Method) (c : Code) (y : Nat) (D : va_G) (cI cC : ClassId) (A : Nat → Prop) (mc ms : Nat) (ad0 : Nat → Nat) (n0 : Nat) (Qf : State → Prop) (t : St) : Prop :=
  ∀ (ad : Nat → Nat) (H : Heap) (locs : List Loc) (cells slots : Nat) (rs : Array Slot), Rl s y D cI cC A mc ms ad0 n0 t ad H locs cells slots rs → W p l e R s m args below meth c H locs cells slots Qf (F0 m t.1 rs (t.2.2.1.map (im ad)))
section SND
variable {p : Program} {l : Launch} {e : Env} {R : Room} {s : State} {m : MethodId} {args : Array Value} {below : List Frame} {meth : Method} {c : Code} {y d : Nat} {D : va_G} {cI cC : ClassId} {A : Nat → Prop} {mc ms : Nat} {ad0 : Nat → Nat} {n0 : Nat} {Qf : State → Prop}
variable {pc : Nat} {ls st : List VV} {h : Hp} {bc bs : Nat} {t : St}
theorem s_iload (C0 : Cx p R s m args meth c y d D cI cC A mc ms) {a : Nat} (hd : decode (mB y) pc = .ok (if a < 4 then (.iload_n (Fin.ofNat 4 a), 1) else (.iload a, 2))) (hn : n_iload a pc ls st h bc bs t) (hk : WA p l e R s m args below meth c y D cI cC A mc ms ad0 n0 Qf (t)) : WA p l e R s m args below meth c y D cI cC A mc ms ad0 n0 Qf (pc, ls, st, h, bc, bs) := by
  obtain ⟨v, hv, rfl⟩ := hn
  obtain ⟨hx, hb, hml, hown, hts, hK, hRm, hin, hA, hNK⟩ := C0
  intro ad H locs cells slots rs hR
  obtain ⟨hL, o1, o2, o3, hP, hD, hS, e1, e2, e3, e4⟩ := hR
  dsimp only at hL o1 o2 o3 hP hD hS e1 e2 e3 e4
  have hg := hL.2.2.2 a _ hv (by simp)
  have hgo := hk ad H locs cells slots rs ⟨hL, o1, al_cons (o1 _ (List.mem_of_getElem? hv)) o2, o3, hP, hD, hS, e1, e2, e3, e4⟩
  by_cases ha : a < 4
  · simp only [if_pos ha] at hd hgo
    exact lv_iload_n hx hb hd (i := a) (by show a % 4 = a; omega) hg hgo
  · simp only [if_neg ha] at hd hgo
    exact lv_iload hx hb hd hg hgo
theorem s_aload (C0 : Cx p R s m args meth c y d D cI cC A mc ms) {a : Nat} (hd : decode (mB y) pc = .ok (if a < 4 then (.aload_n (Fin.ofNat 4 a), 1) else (.aload a, 2))) (hn : n_aload a pc ls st h bc bs t) (hk : WA p l e R s m args below meth c y D cI cC A mc ms ad0 n0 Qf (t)) : WA p l e R s m args below meth c y D cI cC A mc ms ad0 n0 Qf (pc, ls, st, h, bc, bs) := by
  obtain ⟨v, hv, rfl⟩ := hn
  obtain ⟨hx, hb, hml, hown, hts, hK, hRm, hin, hA, hNK⟩ := C0
  intro ad H locs cells slots rs hR
  obtain ⟨hL, o1, o2, o3, hP, hD, hS, e1, e2, e3, e4⟩ := hR
  dsimp only at hL o1 o2 o3 hP hD hS e1 e2 e3 e4
  have hg := hL.2.2.2 a _ hv (by simp)
  have hgo := hk ad H locs cells slots rs ⟨hL, o1, al_cons (o1 _ (List.mem_of_getElem? hv)) o2, o3, hP, hD, hS, e1, e2, e3, e4⟩
  by_cases ha : a < 4
  · simp only [if_pos ha] at hd hgo
    exact lv_aload_n hx hb hd (i := a) (by show a % 4 = a; omega) hg hgo
  · simp only [if_neg ha] at hd hgo
    exact lv_aload hx hb hd hg hgo
theorem s_istore (C0 : Cx p R s m args meth c y d D cI cC A mc ms) {a : Nat} (hd : decode (mB y) pc = .ok (if a < 4 then (.istore_n (Fin.ofNat 4 a), 1) else (.istore a, 2))) (hn : n_istore a pc ls st h bc bs t) (hk : WA p l e R s m args below meth c y D cI cC A mc ms ad0 n0 Qf (t)) : WA p l e R s m args below meth c y D cI cC A mc ms ad0 n0 Qf (pc, ls, st, h, bc, bs) := by
  obtain ⟨v, st', rfl, hl, rfl⟩ := hn
  obtain ⟨hx, hb, hml, hown, hts, hK, hRm, hin, hA, hNK⟩ := C0
  intro ad H locs cells slots rs hR
  obtain ⟨hL, o1, o2, o3, hP, hD, hS, e1, e2, e3, e4⟩ := hR
  dsimp only at hL o1 o2 o3 hP hD hS e1 e2 e3 e4
  have ov := o2 _ List.mem_cons_self
  have o2' : ∀ w ∈ st', okV h w := fun w hw => o2 w (List.mem_cons_of_mem _ hw)
  have hn : a < mL y := by rw [← hL.2.1]; exact hl
  have hgo : ∀ rs', lv_has rs' (mL y) ((a, im ad (.inl v)) :: (prs ad ls).filter (fun q => !(q.1 == a) && !(q.1 + 1 == a && q.2.category == 2))) → W p l e R s m args below meth c H locs cells slots Qf (F0 m (pc + if a < 4 then 1 else 2) rs' (st'.map (im ad))) := fun rs' h' =>
    hk ad H locs cells slots rs' ⟨Lc.put hL.2.1 rfl h', al_set ov o1, o2', o3, hP, hD, hS, e1, e2, e3, e4⟩
  by_cases ha : a < 4
  · simp only [if_pos ha] at hd hgo
    exact lv_istore_n hx hb hd (i := a) (by show a % 4 = a; omega) hL.has hn rfl hgo
  · simp only [if_neg ha] at hd hgo
    exact lv_istore hx hb hd hL.has hn rfl hgo
theorem s_astore (C0 : Cx p R s m args meth c y d D cI cC A mc ms) {a : Nat} (hd : decode (mB y) pc = .ok (if a < 4 then (.astore_n (Fin.ofNat 4 a), 1) else (.astore a, 2))) (hn : n_astore a pc ls st h bc bs t) (hk : WA p l e R s m args below meth c y D cI cC A mc ms ad0 n0 Qf (t)) : WA p l e R s m args below meth c y D cI cC A mc ms ad0 n0 Qf (pc, ls, st, h, bc, bs) := by
  obtain ⟨v, st', rfl, hl, rfl⟩ := hn
  obtain ⟨hx, hb, hml, hown, hts, hK, hRm, hin, hA, hNK⟩ := C0
  intro ad H locs cells slots rs hR
  obtain ⟨hL, o1, o2, o3, hP, hD, hS, e1, e2, e3, e4⟩ := hR
  dsimp only at hL o1 o2 o3 hP hD hS e1 e2 e3 e4
  have ov := o2 _ List.mem_cons_self
  have o2' : ∀ w ∈ st', okV h w := fun w hw => o2 w (List.mem_cons_of_mem _ hw)
  have hn : a < mL y := by rw [← hL.2.1]; exact hl
  have hgo : ∀ rs', lv_has rs' (mL y) ((a, im ad (.inr (some v))) :: (prs ad ls).filter (fun q => !(q.1 == a) && !(q.1 + 1 == a && q.2.category == 2))) → W p l e R s m args below meth c H locs cells slots Qf (F0 m (pc + if a < 4 then 1 else 2) rs' (st'.map (im ad))) := fun rs' h' =>
    hk ad H locs cells slots rs' ⟨Lc.put hL.2.1 rfl h', al_set ov o1, o2', o3, hP, hD, hS, e1, e2, e3, e4⟩
  by_cases ha : a < 4
  · simp only [if_pos ha] at hd hgo
    exact lv_astore_n hx hb hd (i := a) (by show a % 4 = a; omega) hL.has hn rfl hgo
  · simp only [if_neg ha] at hd hgo
    exact lv_astore hx hb hd hL.has hn rfl hgo
theorem s_iconst (C0 : Cx p R s m args meth c y d D cI cC A mc ms) {z : Int} (hz : -1 ≤ z ∧ z ≤ 5) (hd : decode (mB y) pc = .ok ((.iconst z, 1))) (hn : n_const 1 z pc ls st h bc bs t) (hk : WA p l e R s m args below meth c y D cI cC A mc ms ad0 n0 Qf (t)) : WA p l e R s m args below meth c y D cI cC A mc ms ad0 n0 Qf (pc, ls, st, h, bc, bs) := by
  have hn : t = _ := hn
  subst hn
  obtain ⟨hx, hb, hml, hown, hts, hK, hRm, hin, hA, hNK⟩ := C0
  intro ad H locs cells slots rs hR
  obtain ⟨hL, o1, o2, o3, hP, hD, hS, e1, e2, e3, e4⟩ := hR
  dsimp only at hL o1 o2 o3 hP hD hS e1 e2 e3 e4
  have hgo := hk ad H locs cells slots rs ⟨hL, o1, al_cons (show inR z from ⟨by omega, by omega⟩) o2, o3, hP, hD, hS, e1, e2, e3, e4⟩
  exact lv_iconst hx hb hd rfl hgo
theorem s_bipush (C0 : Cx p R s m args meth c y d D cI cC A mc ms) {z : Int} (hz : -128 ≤ z ∧ z < 128) (hd : decode (mB y) pc = .ok ((.bipush z, 2))) (hn : n_const 2 z pc ls st h bc bs t) (hk : WA p l e R s m args below meth c y D cI cC A mc ms ad0 n0 Qf (t)) : WA p l e R s m args below meth c y D cI cC A mc ms ad0 n0 Qf (pc, ls, st, h, bc, bs) := by
  have hn : t = _ := hn
  subst hn
  obtain ⟨hx, hb, hml, hown, hts, hK, hRm, hin, hA, hNK⟩ := C0
  intro ad H locs cells slots rs hR
  obtain ⟨hL, o1, o2, o3, hP, hD, hS, e1, e2, e3, e4⟩ := hR
  dsimp only at hL o1 o2 o3 hP hD hS e1 e2 e3 e4
  have hgo := hk ad H locs cells slots rs ⟨hL, o1, al_cons (show inR z from ⟨by omega, by omega⟩) o2, o3, hP, hD, hS, e1, e2, e3, e4⟩
  exact lv_bipush hx hb hd (oI_b hz.1 hz.2) hgo
theorem s_sipush (C0 : Cx p R s m args meth c y d D cI cC A mc ms) {z : Int} (hz : -32768 ≤ z ∧ z < 32768) (hd : decode (mB y) pc = .ok ((.sipush z, 3))) (hn : n_const 3 z pc ls st h bc bs t) (hk : WA p l e R s m args below meth c y D cI cC A mc ms ad0 n0 Qf (t)) : WA p l e R s m args below meth c y D cI cC A mc ms ad0 n0 Qf (pc, ls, st, h, bc, bs) := by
  have hn : t = _ := hn
  subst hn
  obtain ⟨hx, hb, hml, hown, hts, hK, hRm, hin, hA, hNK⟩ := C0
  intro ad H locs cells slots rs hR
  obtain ⟨hL, o1, o2, o3, hP, hD, hS, e1, e2, e3, e4⟩ := hR
  dsimp only at hL o1 o2 o3 hP hD hS e1 e2 e3 e4
  have hgo := hk ad H locs cells slots rs ⟨hL, o1, al_cons (show inR z from ⟨by omega, by omega⟩) o2, o3, hP, hD, hS, e1, e2, e3, e4⟩
  exact lv_sipush hx hb hd (oI_s hz.1 hz.2) hgo
theorem KL_r : ∀ e ∈ KL, inR e.2 := by decide +kernel
theorem s_ldc (C0 : Cx p R s m args meth c y d D cI cC A mc ms) {a : Nat} {z : Int} (hz : ((mO y, a), z) ∈ KL) (hd : decode (mB y) pc = .ok ((.ldc a, 2))) (hn : n_const 2 z pc ls st h bc bs t) (hk : WA p l e R s m args below meth c y D cI cC A mc ms ad0 n0 Qf (t)) : WA p l e R s m args below meth c y D cI cC A mc ms ad0 n0 Qf (pc, ls, st, h, bc, bs) := by
  have hn : t = _ := hn
  subst hn
  obtain ⟨hx, hb, hml, hown, hts, hK, hRm, hin, hA, hNK⟩ := C0
  intro ad H locs cells slots rs hR
  obtain ⟨hL, o1, o2, o3, hP, hD, hS, e1, e2, e3, e4⟩ := hR
  dsimp only at hL o1 o2 o3 hP hD hS e1 e2 e3 e4
  have hgo := hk ad H locs cells slots rs ⟨hL, o1, al_cons (show inR z from KL_r _ hz) o2, o3, hP, hD, hS, e1, e2, e3, e4⟩
  exact W.ldc hx hb hown (hts _ (KL_ok _ hz)) rfl hd hgo
theorem s_iadd (C0 : Cx p R s m args meth c y d D cI cC A mc ms) (hd : decode (mB y) pc = .ok ((.iadd, 1))) (hn : n_bin (fun x y => x + y) (fun x y => inR (x + y)) pc ls st h bc bs t) (hk : WA p l e R s m args below meth c y D cI cC A mc ms ad0 n0 Qf (t)) : WA p l e R s m args below meth c y D cI cC A mc ms ad0 n0 Qf (pc, ls, st, h, bc, bs) := by
  obtain ⟨x, z, st', rfl, hq, rfl⟩ := hn
  obtain ⟨hx, hb, hml, hown, hts, hK, hRm, hin, hA, hNK⟩ := C0
  intro ad H locs cells slots rs hR
  obtain ⟨hL, o1, o2, o3, hP, hD, hS, e1, e2, e3, e4⟩ := hR
  dsimp only at hL o1 o2 o3 hP hD hS e1 e2 e3 e4
  have oz : inR z := o2 _ List.mem_cons_self
  have ox : inR x := o2 _ (List.mem_cons_of_mem _ List.mem_cons_self)
  have o2' : ∀ w ∈ st', okV h w := fun w hw => o2 w (List.mem_cons_of_mem _ (List.mem_cons_of_mem _ hw))

  have hgo := hk ad H locs cells slots rs ⟨hL, o1, al_cons (show inR (_) from hq) o2', o3, hP, hD, hS, e1, e2, e3, e4⟩
  refine lv_iadd hx hb hd ?_
  rw [← Int32.ofInt_add]
  exact hgo
theorem s_isub (C0 : Cx p R s m args meth c y d D cI cC A mc ms) (hd : decode (mB y) pc = .ok ((.isub, 1))) (hn : n_bin (fun x y => x - y) (fun x y => inR (x - y)) pc ls st h bc bs t) (hk : WA p l e R s m args below meth c y D cI cC A mc ms ad0 n0 Qf (t)) : WA p l e R s m args below meth c y D cI cC A mc ms ad0 n0 Qf (pc, ls, st, h, bc, bs) := by
  obtain ⟨x, z, st', rfl, hq, rfl⟩ := hn
  obtain ⟨hx, hb, hml, hown, hts, hK, hRm, hin, hA, hNK⟩ := C0
  intro ad H locs cells slots rs hR
  obtain ⟨hL, o1, o2, o3, hP, hD, hS, e1, e2, e3, e4⟩ := hR
  dsimp only at hL o1 o2 o3 hP hD hS e1 e2 e3 e4
  have oz : inR z := o2 _ List.mem_cons_self
  have ox : inR x := o2 _ (List.mem_cons_of_mem _ List.mem_cons_self)
  have o2' : ∀ w ∈ st', okV h w := fun w hw => o2 w (List.mem_cons_of_mem _ (List.mem_cons_of_mem _ hw))

  have hgo := hk ad H locs cells slots rs ⟨hL, o1, al_cons (show inR (_) from hq) o2', o3, hP, hD, hS, e1, e2, e3, e4⟩
  refine lv_isub hx hb hd ?_
  rw [← Int32.ofInt_sub]
  exact hgo
theorem s_imul (C0 : Cx p R s m args meth c y d D cI cC A mc ms) (hd : decode (mB y) pc = .ok ((.imul, 1))) (hn : n_bin (fun x y => x * y) (fun x y => inR (x * y)) pc ls st h bc bs t) (hk : WA p l e R s m args below meth c y D cI cC A mc ms ad0 n0 Qf (t)) : WA p l e R s m args below meth c y D cI cC A mc ms ad0 n0 Qf (pc, ls, st, h, bc, bs) := by
  obtain ⟨x, z, st', rfl, hq, rfl⟩ := hn
  obtain ⟨hx, hb, hml, hown, hts, hK, hRm, hin, hA, hNK⟩ := C0
  intro ad H locs cells slots rs hR
  obtain ⟨hL, o1, o2, o3, hP, hD, hS, e1, e2, e3, e4⟩ := hR
  dsimp only at hL o1 o2 o3 hP hD hS e1 e2 e3 e4
  have oz : inR z := o2 _ List.mem_cons_self
  have ox : inR x := o2 _ (List.mem_cons_of_mem _ List.mem_cons_self)
  have o2' : ∀ w ∈ st', okV h w := fun w hw => o2 w (List.mem_cons_of_mem _ (List.mem_cons_of_mem _ hw))

  have hgo := hk ad H locs cells slots rs ⟨hL, o1, al_cons (show inR (_) from hq) o2', o3, hP, hD, hS, e1, e2, e3, e4⟩
  refine lv_imul hx hb hd ?_
  rw [← Int32.ofInt_mul]
  exact hgo
theorem s_idiv (C0 : Cx p R s m args meth c y d D cI cC A mc ms) (hd : decode (mB y) pc = .ok ((.idiv, 1))) (hn : n_bin (fun x y => x / y) (fun x y => 0 ≤ x ∧ 0 < y) pc ls st h bc bs t) (hk : WA p l e R s m args below meth c y D cI cC A mc ms ad0 n0 Qf (t)) : WA p l e R s m args below meth c y D cI cC A mc ms ad0 n0 Qf (pc, ls, st, h, bc, bs) := by
  obtain ⟨x, z, st', rfl, hq, rfl⟩ := hn
  obtain ⟨hx, hb, hml, hown, hts, hK, hRm, hin, hA, hNK⟩ := C0
  intro ad H locs cells slots rs hR
  obtain ⟨hL, o1, o2, o3, hP, hD, hS, e1, e2, e3, e4⟩ := hR
  dsimp only at hL o1 o2 o3 hP hD hS e1 e2 e3 e4
  have oz : inR z := o2 _ List.mem_cons_self
  have ox : inR x := o2 _ (List.mem_cons_of_mem _ List.mem_cons_self)
  have o2' : ∀ w ∈ st', okV h w := fun w hw => o2 w (List.mem_cons_of_mem _ (List.mem_cons_of_mem _ hw))

  have hz : ¬ Int32.ofInt z = 0 := fun e => by
    have := (oI_eq (y := 0) oz inR_0).mp e
    omega
  have hgo := hk ad H locs cells slots rs ⟨hL, o1, al_cons (show inR (x / z) from ⟨by have := Int.ediv_nonneg hq.1 (Int.le_of_lt hq.2); omega, by have := Int.ediv_le_self z hq.1; have := ox.2; omega⟩) o2', o3, hP, hD, hS, e1, e2, e3, e4⟩
  refine lv_idiv hx hb hd hz ?_
  rw [oI_div ox oz hq.1 hq.2]
  exact hgo
theorem s_irem (C0 : Cx p R s m args meth c y d D cI cC A mc ms) (hd : decode (mB y) pc = .ok ((.irem, 1))) (hn : n_bin (fun x y => x % y) (fun x y => 0 ≤ x ∧ 0 < y) pc ls st h bc bs t) (hk : WA p l e R s m args below meth c y D cI cC A mc ms ad0 n0 Qf (t)) : WA p l e R s m args below meth c y D cI cC A mc ms ad0 n0 Qf (pc, ls, st, h, bc, bs) := by
  obtain ⟨x, z, st', rfl, hq, rfl⟩ := hn
  obtain ⟨hx, hb, hml, hown, hts, hK, hRm, hin, hA, hNK⟩ := C0
  intro ad H locs cells slots rs hR
  obtain ⟨hL, o1, o2, o3, hP, hD, hS, e1, e2, e3, e4⟩ := hR
  dsimp only at hL o1 o2 o3 hP hD hS e1 e2 e3 e4
  have oz : inR z := o2 _ List.mem_cons_self
  have ox : inR x := o2 _ (List.mem_cons_of_mem _ List.mem_cons_self)
  have o2' : ∀ w ∈ st', okV h w := fun w hw => o2 w (List.mem_cons_of_mem _ (List.mem_cons_of_mem _ hw))

  have hz : ¬ Int32.ofInt z = 0 := fun e => by
    have := (oI_eq (y := 0) oz inR_0).mp e
    omega
  have hgo := hk ad H locs cells slots rs ⟨hL, o1, al_cons (show inR (x % z) from ⟨by have := Int.emod_nonneg x (show z ≠ 0 by omega); omega, by have := Int.emod_lt_of_pos x hq.2; have := oz.2; omega⟩) o2', o3, hP, hD, hS, e1, e2, e3, e4⟩
  refine lv_irem hx hb hd hz ?_
  rw [oI_rem ox oz hq.1 hq.2]
  exact hgo
theorem s_iand (C0 : Cx p R s m args meth c y d D cI cC A mc ms) (hd : decode (mB y) pc = .ok ((.iand, 1))) (hn : n_bin (fun x _ => x % 32) (fun _ y => y = 31) pc ls st h bc bs t) (hk : WA p l e R s m args below meth c y D cI cC A mc ms ad0 n0 Qf (t)) : WA p l e R s m args below meth c y D cI cC A mc ms ad0 n0 Qf (pc, ls, st, h, bc, bs) := by
  obtain ⟨x, z, st', rfl, hq, rfl⟩ := hn
  obtain ⟨hx, hb, hml, hown, hts, hK, hRm, hin, hA, hNK⟩ := C0
  intro ad H locs cells slots rs hR
  obtain ⟨hL, o1, o2, o3, hP, hD, hS, e1, e2, e3, e4⟩ := hR
  dsimp only at hL o1 o2 o3 hP hD hS e1 e2 e3 e4
  have oz : inR z := o2 _ List.mem_cons_self
  have ox : inR x := o2 _ (List.mem_cons_of_mem _ List.mem_cons_self)
  have o2' : ∀ w ∈ st', okV h w := fun w hw => o2 w (List.mem_cons_of_mem _ (List.mem_cons_of_mem _ hw))

  have hgo := hk ad H locs cells slots rs ⟨hL, o1, al_cons (show inR (x % 32) from ⟨by omega, by omega⟩) o2', o3, hP, hD, hS, e1, e2, e3, e4⟩
  subst hq
  refine lv_iand hx hb hd ?_
  rw [oI_and]
  exact hgo
theorem s_iinc (C0 : Cx p R s m args meth c y d D cI cC A mc ms) {a : Nat} {z : Int} (hd : decode (mB y) pc = .ok ((.iinc a z, 3))) (hn : n_iinc a z pc ls st h bc bs t) (hk : WA p l e R s m args below meth c y D cI cC A mc ms ad0 n0 Qf (t)) : WA p l e R s m args below meth c y D cI cC A mc ms ad0 n0 Qf (pc, ls, st, h, bc, bs) := by
  obtain ⟨v, hv, hq, rfl⟩ := hn
  obtain ⟨hx, hb, hml, hown, hts, hK, hRm, hin, hA, hNK⟩ := C0
  intro ad H locs cells slots rs hR
  obtain ⟨hL, o1, o2, o3, hP, hD, hS, e1, e2, e3, e4⟩ := hR
  dsimp only at hL o1 o2 o3 hP hD hS e1 e2 e3 e4
  have hl := (List.getElem?_eq_some_iff.mp hv).1
  have hn : a < mL y := by rw [← hL.2.1]; exact hl
  obtain ⟨k, hk0⟩ := List.getElem?_of_mem (prs_mem (ad := ad) (ls := ls) (q := (a, im ad (.inl v))) |>.mpr ⟨.inl v, hv, by simp, rfl⟩)
  refine lv_iinc hx hb hd hL.has hk0 (v := Int32.ofInt (v + z)) (by rw [Int32.ofInt_add]) hn rfl (fun rs' h' => ?_)
  exact hk ad H locs cells slots rs' ⟨Lc.put hL.2.1 rfl h', al_set (show inR _ from hq) o1, o2, o3, hP, hD, hS, e1, e2, e3, e4⟩
theorem s_i2c (C0 : Cx p R s m args meth c y d D cI cC A mc ms) (hd : decode (mB y) pc = .ok ((.i2c, 1))) (hn : n_i2c pc ls st h bc bs t) (hk : WA p l e R s m args below meth c y D cI cC A mc ms ad0 n0 Qf (t)) : WA p l e R s m args below meth c y D cI cC A mc ms ad0 n0 Qf (pc, ls, st, h, bc, bs) := by
  obtain ⟨x, st', rfl, hq, rfl⟩ := hn
  obtain ⟨hx, hb, hml, hown, hts, hK, hRm, hin, hA, hNK⟩ := C0
  intro ad H locs cells slots rs hR
  obtain ⟨hL, o1, o2, o3, hP, hD, hS, e1, e2, e3, e4⟩ := hR
  dsimp only at hL o1 o2 o3 hP hD hS e1 e2 e3 e4
  have hgo := hk ad H locs cells slots rs ⟨hL, o1, o2, o3, hP, hD, hS, e1, e2, e3, e4⟩
  exact lv_i2c hx hb hd (oI_c hq.1 hq.2) hgo
theorem s_dup (C0 : Cx p R s m args meth c y d D cI cC A mc ms) (hd : decode (mB y) pc = .ok ((.dup, 1))) (hn : n_dup pc ls st h bc bs t) (hk : WA p l e R s m args below meth c y D cI cC A mc ms ad0 n0 Qf (t)) : WA p l e R s m args below meth c y D cI cC A mc ms ad0 n0 Qf (pc, ls, st, h, bc, bs) := by
  obtain ⟨v, st', rfl, rfl⟩ := hn
  obtain ⟨hx, hb, hml, hown, hts, hK, hRm, hin, hA, hNK⟩ := C0
  intro ad H locs cells slots rs hR
  obtain ⟨hL, o1, o2, o3, hP, hD, hS, e1, e2, e3, e4⟩ := hR
  dsimp only at hL o1 o2 o3 hP hD hS e1 e2 e3 e4
  have hgo := hk ad H locs cells slots rs ⟨hL, o1, al_cons (o2 _ List.mem_cons_self) o2, o3, hP, hD, hS, e1, e2, e3, e4⟩
  exact lv_dup hx hb hd (im_cat ad v) hgo
theorem s_dup2 (C0 : Cx p R s m args meth c y d D cI cC A mc ms) (hd : decode (mB y) pc = .ok ((.dup2, 1))) (hn : n_dup2 pc ls st h bc bs t) (hk : WA p l e R s m args below meth c y D cI cC A mc ms ad0 n0 Qf (t)) : WA p l e R s m args below meth c y D cI cC A mc ms ad0 n0 Qf (pc, ls, st, h, bc, bs) := by
  obtain ⟨v, w, st', rfl, rfl⟩ := hn
  obtain ⟨hx, hb, hml, hown, hts, hK, hRm, hin, hA, hNK⟩ := C0
  intro ad H locs cells slots rs hR
  obtain ⟨hL, o1, o2, o3, hP, hD, hS, e1, e2, e3, e4⟩ := hR
  dsimp only at hL o1 o2 o3 hP hD hS e1 e2 e3 e4
  have hgo := hk ad H locs cells slots rs ⟨hL, o1, al_cons (o2 _ List.mem_cons_self) (al_cons (o2 _ (List.mem_cons_of_mem _ List.mem_cons_self)) o2), o3, hP, hD, hS, e1, e2, e3, e4⟩
  exact lv_dup2_11 hx hb hd (im_cat ad v) (im_cat ad w) hgo
theorem s_pop (C0 : Cx p R s m args meth c y d D cI cC A mc ms) (hd : decode (mB y) pc = .ok ((.pop, 1))) (hn : n_pop pc ls st h bc bs t) (hk : WA p l e R s m args below meth c y D cI cC A mc ms ad0 n0 Qf (t)) : WA p l e R s m args below meth c y D cI cC A mc ms ad0 n0 Qf (pc, ls, st, h, bc, bs) := by
  obtain ⟨v, st', rfl, rfl⟩ := hn
  obtain ⟨hx, hb, hml, hown, hts, hK, hRm, hin, hA, hNK⟩ := C0
  intro ad H locs cells slots rs hR
  obtain ⟨hL, o1, o2, o3, hP, hD, hS, e1, e2, e3, e4⟩ := hR
  dsimp only at hL o1 o2 o3 hP hD hS e1 e2 e3 e4
  have hgo := hk ad H locs cells slots rs ⟨hL, o1, fun w hw => o2 w (List.mem_cons_of_mem _ hw), o3, hP, hD, hS, e1, e2, e3, e4⟩
  exact lv_pop hx hb hd (im_cat ad v) hgo
theorem s_goto (C0 : Cx p R s m args meth c y d D cI cC A mc ms) {a : Nat} (hd : decode (mB y) pc = .ok ((.goto ((a : Int) - pc), 3))) (hn : n_goto a ls st h bc bs t) (hk : WA p l e R s m args below meth c y D cI cC A mc ms ad0 n0 Qf (t)) : WA p l e R s m args below meth c y D cI cC A mc ms ad0 n0 Qf (pc, ls, st, h, bc, bs) := by
  have hn : t = _ := hn
  subst hn
  obtain ⟨hx, hb, hml, hown, hts, hK, hRm, hin, hA, hNK⟩ := C0
  intro ad H locs cells slots rs hR
  obtain ⟨hL, o1, o2, o3, hP, hD, hS, e1, e2, e3, e4⟩ := hR
  dsimp only at hL o1 o2 o3 hP hD hS e1 e2 e3 e4
  have hgo := hk ad H locs cells slots rs ⟨hL, o1, o2, o3, hP, hD, hS, e1, e2, e3, e4⟩
  exact lv_goto hx hb hd (by omega) hgo
theorem s_if_eq (C0 : Cx p R s m args meth c y d D cI cC A mc ms) {a : Nat} (hd : decode (mB y) pc = .ok ((.ifCond .eq ((a : Int) - pc), 3))) (hn : n_if (fun x => x = 0) a pc ls st h bc bs t) (hk : WA p l e R s m args below meth c y D cI cC A mc ms ad0 n0 Qf (t)) : WA p l e R s m args below meth c y D cI cC A mc ms ad0 n0 Qf (pc, ls, st, h, bc, bs) := by
  obtain ⟨x, st', rfl, hq⟩ := hn
  obtain ⟨hx, hb, hml, hown, hts, hK, hRm, hin, hA, hNK⟩ := C0
  intro ad H locs cells slots rs hR
  obtain ⟨hL, o1, o2, o3, hP, hD, hS, e1, e2, e3, e4⟩ := hR
  dsimp only at hL o1 o2 o3 hP hD hS e1 e2 e3 e4
  have ox : inR x := o2 _ List.mem_cons_self
  have o2' : ∀ w ∈ st', okV h w := fun w hw => o2 w (List.mem_cons_of_mem _ hw)
  have hi := (oI_eq ox inR_0)
  rcases hq with ⟨hq, rfl⟩ | ⟨hq, rfl⟩
  · have hgo := hk ad H locs cells slots rs ⟨hL, o1, o2', o3, hP, hD, hS, e1, e2, e3, e4⟩
    exact lv_if_eq hx hb hd (tgt := a) (by omega) (fun _ => hgo) (fun z => absurd (hi.mpr hq) z)
  · have hgo := hk ad H locs cells slots rs ⟨hL, o1, o2', o3, hP, hD, hS, e1, e2, e3, e4⟩
    exact lv_if_eq hx hb hd (tgt := a) (by omega) (fun z => absurd (hi.mp z) hq) (fun _ => hgo)
theorem s_if_ne (C0 : Cx p R s m args meth c y d D cI cC A mc ms) {a : Nat} (hd : decode (mB y) pc = .ok ((.ifCond .ne ((a : Int) - pc), 3))) (hn : n_if (fun x => x ≠ 0) a pc ls st h bc bs t) (hk : WA p l e R s m args below meth c y D cI cC A mc ms ad0 n0 Qf (t)) : WA p l e R s m args below meth c y D cI cC A mc ms ad0 n0 Qf (pc, ls, st, h, bc, bs) := by
  obtain ⟨x, st', rfl, hq⟩ := hn
  obtain ⟨hx, hb, hml, hown, hts, hK, hRm, hin, hA, hNK⟩ := C0
  intro ad H locs cells slots rs hR
  obtain ⟨hL, o1, o2, o3, hP, hD, hS, e1, e2, e3, e4⟩ := hR
  dsimp only at hL o1 o2 o3 hP hD hS e1 e2 e3 e4
  have ox : inR x := o2 _ List.mem_cons_self
  have o2' : ∀ w ∈ st', okV h w := fun w hw => o2 w (List.mem_cons_of_mem _ hw)
  have hi := (not_congr (oI_eq ox inR_0))
  rcases hq with ⟨hq, rfl⟩ | ⟨hq, rfl⟩
  · have hgo := hk ad H locs cells slots rs ⟨hL, o1, o2', o3, hP, hD, hS, e1, e2, e3, e4⟩
    exact lv_if_ne hx hb hd (tgt := a) (by omega) (fun _ => hgo) (fun z => absurd z (hi.mpr hq))
  · have hgo := hk ad H locs cells slots rs ⟨hL, o1, o2', o3, hP, hD, hS, e1, e2, e3, e4⟩
    exact lv_if_ne hx hb hd (tgt := a) (by omega) (fun z => absurd (hi.mp z) hq) (fun _ => hgo)
theorem s_if_lt (C0 : Cx p R s m args meth c y d D cI cC A mc ms) {a : Nat} (hd : decode (mB y) pc = .ok ((.ifCond .lt ((a : Int) - pc), 3))) (hn : n_if (fun x => x < 0) a pc ls st h bc bs t) (hk : WA p l e R s m args below meth c y D cI cC A mc ms ad0 n0 Qf (t)) : WA p l e R s m args below meth c y D cI cC A mc ms ad0 n0 Qf (pc, ls, st, h, bc, bs) := by
  obtain ⟨x, st', rfl, hq⟩ := hn
  obtain ⟨hx, hb, hml, hown, hts, hK, hRm, hin, hA, hNK⟩ := C0
  intro ad H locs cells slots rs hR
  obtain ⟨hL, o1, o2, o3, hP, hD, hS, e1, e2, e3, e4⟩ := hR
  dsimp only at hL o1 o2 o3 hP hD hS e1 e2 e3 e4
  have ox : inR x := o2 _ List.mem_cons_self
  have o2' : ∀ w ∈ st', okV h w := fun w hw => o2 w (List.mem_cons_of_mem _ hw)
  have hi := (oI_lt ox inR_0)
  rcases hq with ⟨hq, rfl⟩ | ⟨hq, rfl⟩
  · have hgo := hk ad H locs cells slots rs ⟨hL, o1, o2', o3, hP, hD, hS, e1, e2, e3, e4⟩
    exact lv_if_lt hx hb hd (tgt := a) (by omega) (fun _ => hgo) (fun z => absurd (hi.mpr hq) z)
  · have hgo := hk ad H locs cells slots rs ⟨hL, o1, o2', o3, hP, hD, hS, e1, e2, e3, e4⟩
    exact lv_if_lt hx hb hd (tgt := a) (by omega) (fun z => absurd (hi.mp z) hq) (fun _ => hgo)
theorem s_if_ge (C0 : Cx p R s m args meth c y d D cI cC A mc ms) {a : Nat} (hd : decode (mB y) pc = .ok ((.ifCond .ge ((a : Int) - pc), 3))) (hn : n_if (fun x => 0 ≤ x) a pc ls st h bc bs t) (hk : WA p l e R s m args below meth c y D cI cC A mc ms ad0 n0 Qf (t)) : WA p l e R s m args below meth c y D cI cC A mc ms ad0 n0 Qf (pc, ls, st, h, bc, bs) := by
  obtain ⟨x, st', rfl, hq⟩ := hn
  obtain ⟨hx, hb, hml, hown, hts, hK, hRm, hin, hA, hNK⟩ := C0
  intro ad H locs cells slots rs hR
  obtain ⟨hL, o1, o2, o3, hP, hD, hS, e1, e2, e3, e4⟩ := hR
  dsimp only at hL o1 o2 o3 hP hD hS e1 e2 e3 e4
  have ox : inR x := o2 _ List.mem_cons_self
  have o2' : ∀ w ∈ st', okV h w := fun w hw => o2 w (List.mem_cons_of_mem _ hw)
  have hi := (oI_le inR_0 ox)
  rcases hq with ⟨hq, rfl⟩ | ⟨hq, rfl⟩
  · have hgo := hk ad H locs cells slots rs ⟨hL, o1, o2', o3, hP, hD, hS, e1, e2, e3, e4⟩
    exact lv_if_ge hx hb hd (tgt := a) (by omega) (fun _ => hgo) (fun z => absurd (hi.mpr hq) z)
  · have hgo := hk ad H locs cells slots rs ⟨hL, o1, o2', o3, hP, hD, hS, e1, e2, e3, e4⟩
    exact lv_if_ge hx hb hd (tgt := a) (by omega) (fun z => absurd (hi.mp z) hq) (fun _ => hgo)
theorem s_if_gt (C0 : Cx p R s m args meth c y d D cI cC A mc ms) {a : Nat} (hd : decode (mB y) pc = .ok ((.ifCond .gt ((a : Int) - pc), 3))) (hn : n_if (fun x => 0 < x) a pc ls st h bc bs t) (hk : WA p l e R s m args below meth c y D cI cC A mc ms ad0 n0 Qf (t)) : WA p l e R s m args below meth c y D cI cC A mc ms ad0 n0 Qf (pc, ls, st, h, bc, bs) := by
  obtain ⟨x, st', rfl, hq⟩ := hn
  obtain ⟨hx, hb, hml, hown, hts, hK, hRm, hin, hA, hNK⟩ := C0
  intro ad H locs cells slots rs hR
  obtain ⟨hL, o1, o2, o3, hP, hD, hS, e1, e2, e3, e4⟩ := hR
  dsimp only at hL o1 o2 o3 hP hD hS e1 e2 e3 e4
  have ox : inR x := o2 _ List.mem_cons_self
  have o2' : ∀ w ∈ st', okV h w := fun w hw => o2 w (List.mem_cons_of_mem _ hw)
  have hi := (oI_lt inR_0 ox)
  rcases hq with ⟨hq, rfl⟩ | ⟨hq, rfl⟩
  · have hgo := hk ad H locs cells slots rs ⟨hL, o1, o2', o3, hP, hD, hS, e1, e2, e3, e4⟩
    exact lv_if_gt hx hb hd (tgt := a) (by omega) (fun _ => hgo) (fun z => absurd (hi.mpr hq) z)
  · have hgo := hk ad H locs cells slots rs ⟨hL, o1, o2', o3, hP, hD, hS, e1, e2, e3, e4⟩
    exact lv_if_gt hx hb hd (tgt := a) (by omega) (fun z => absurd (hi.mp z) hq) (fun _ => hgo)
theorem s_if_le (C0 : Cx p R s m args meth c y d D cI cC A mc ms) {a : Nat} (hd : decode (mB y) pc = .ok ((.ifCond .le ((a : Int) - pc), 3))) (hn : n_if (fun x => x ≤ 0) a pc ls st h bc bs t) (hk : WA p l e R s m args below meth c y D cI cC A mc ms ad0 n0 Qf (t)) : WA p l e R s m args below meth c y D cI cC A mc ms ad0 n0 Qf (pc, ls, st, h, bc, bs) := by
  obtain ⟨x, st', rfl, hq⟩ := hn
  obtain ⟨hx, hb, hml, hown, hts, hK, hRm, hin, hA, hNK⟩ := C0
  intro ad H locs cells slots rs hR
  obtain ⟨hL, o1, o2, o3, hP, hD, hS, e1, e2, e3, e4⟩ := hR
  dsimp only at hL o1 o2 o3 hP hD hS e1 e2 e3 e4
  have ox : inR x := o2 _ List.mem_cons_self
  have o2' : ∀ w ∈ st', okV h w := fun w hw => o2 w (List.mem_cons_of_mem _ hw)
  have hi := (oI_le ox inR_0)
  rcases hq with ⟨hq, rfl⟩ | ⟨hq, rfl⟩
  · have hgo := hk ad H locs cells slots rs ⟨hL, o1, o2', o3, hP, hD, hS, e1, e2, e3, e4⟩
    exact lv_if_le hx hb hd (tgt := a) (by omega) (fun _ => hgo) (fun z => absurd (hi.mpr hq) z)
  · have hgo := hk ad H locs cells slots rs ⟨hL, o1, o2', o3, hP, hD, hS, e1, e2, e3, e4⟩
    exact lv_if_le hx hb hd (tgt := a) (by omega) (fun z => absurd (hi.mp z) hq) (fun _ => hgo)
theorem s_icmp_eq (C0 : Cx p R s m args meth c y d D cI cC A mc ms) {a : Nat} (hd : decode (mB y) pc = .ok ((.if_icmp .eq ((a : Int) - pc), 3))) (hn : n_icmp (fun x y => x = y) a pc ls st h bc bs t) (hk : WA p l e R s m args below meth c y D cI cC A mc ms ad0 n0 Qf (t)) : WA p l e R s m args below meth c y D cI cC A mc ms ad0 n0 Qf (pc, ls, st, h, bc, bs) := by
  obtain ⟨x, z, st', rfl, hq⟩ := hn
  obtain ⟨hx, hb, hml, hown, hts, hK, hRm, hin, hA, hNK⟩ := C0
  intro ad H locs cells slots rs hR
  obtain ⟨hL, o1, o2, o3, hP, hD, hS, e1, e2, e3, e4⟩ := hR
  dsimp only at hL o1 o2 o3 hP hD hS e1 e2 e3 e4
  have oz : inR z := o2 _ List.mem_cons_self
  have ox : inR x := o2 _ (List.mem_cons_of_mem _ List.mem_cons_self)
  have o2' : ∀ w ∈ st', okV h w := fun w hw => o2 w (List.mem_cons_of_mem _ (List.mem_cons_of_mem _ hw))
  have hi := (oI_eq ox oz)
  rcases hq with ⟨hq, rfl⟩ | ⟨hq, rfl⟩
  · have hgo := hk ad H locs cells slots rs ⟨hL, o1, o2', o3, hP, hD, hS, e1, e2, e3, e4⟩
    exact lv_icmp_eq hx hb hd (tgt := a) (by omega) (fun _ => hgo) (fun z => absurd (hi.mpr hq) z)
  · have hgo := hk ad H locs cells slots rs ⟨hL, o1, o2', o3, hP, hD, hS, e1, e2, e3, e4⟩
    exact lv_icmp_eq hx hb hd (tgt := a) (by omega) (fun z => absurd (hi.mp z) hq) (fun _ => hgo)
theorem s_icmp_ne (C0 : Cx p R s m args meth c y d D cI cC A mc ms) {a : Nat} (hd : decode (mB y) pc = .ok ((.if_icmp .ne ((a : Int) - pc), 3))) (hn : n_icmp (fun x y => x ≠ y) a pc ls st h bc bs t) (hk : WA p l e R s m args below meth c y D cI cC A mc ms ad0 n0 Qf (t)) : WA p l e R s m args below meth c y D cI cC A mc ms ad0 n0 Qf (pc, ls, st, h, bc, bs) := by
  obtain ⟨x, z, st', rfl, hq⟩ := hn
  obtain ⟨hx, hb, hml, hown, hts, hK, hRm, hin, hA, hNK⟩ := C0
  intro ad H locs cells slots rs hR
  obtain ⟨hL, o1, o2, o3, hP, hD, hS, e1, e2, e3, e4⟩ := hR
  dsimp only at hL o1 o2 o3 hP hD hS e1 e2 e3 e4
  have oz : inR z := o2 _ List.mem_cons_self
  have ox : inR x := o2 _ (List.mem_cons_of_mem _ List.mem_cons_self)
  have o2' : ∀ w ∈ st', okV h w := fun w hw => o2 w (List.mem_cons_of_mem _ (List.mem_cons_of_mem _ hw))
  have hi := (not_congr (oI_eq ox oz))
  rcases hq with ⟨hq, rfl⟩ | ⟨hq, rfl⟩
  · have hgo := hk ad H locs cells slots rs ⟨hL, o1, o2', o3, hP, hD, hS, e1, e2, e3, e4⟩
    exact lv_icmp_ne hx hb hd (tgt := a) (by omega) (fun _ => hgo) (fun z => absurd z (hi.mpr hq))
  · have hgo := hk ad H locs cells slots rs ⟨hL, o1, o2', o3, hP, hD, hS, e1, e2, e3, e4⟩
    exact lv_icmp_ne hx hb hd (tgt := a) (by omega) (fun z => absurd (hi.mp z) hq) (fun _ => hgo)
theorem s_icmp_lt (C0 : Cx p R s m args meth c y d D cI cC A mc ms) {a : Nat} (hd : decode (mB y) pc = .ok ((.if_icmp .lt ((a : Int) - pc), 3))) (hn : n_icmp (fun x y => x < y) a pc ls st h bc bs t) (hk : WA p l e R s m args below meth c y D cI cC A mc ms ad0 n0 Qf (t)) : WA p l e R s m args below meth c y D cI cC A mc ms ad0 n0 Qf (pc, ls, st, h, bc, bs) := by
  obtain ⟨x, z, st', rfl, hq⟩ := hn
  obtain ⟨hx, hb, hml, hown, hts, hK, hRm, hin, hA, hNK⟩ := C0
  intro ad H locs cells slots rs hR
  obtain ⟨hL, o1, o2, o3, hP, hD, hS, e1, e2, e3, e4⟩ := hR
  dsimp only at hL o1 o2 o3 hP hD hS e1 e2 e3 e4
  have oz : inR z := o2 _ List.mem_cons_self
  have ox : inR x := o2 _ (List.mem_cons_of_mem _ List.mem_cons_self)
  have o2' : ∀ w ∈ st', okV h w := fun w hw => o2 w (List.mem_cons_of_mem _ (List.mem_cons_of_mem _ hw))
  have hi := (oI_lt ox oz)
  rcases hq with ⟨hq, rfl⟩ | ⟨hq, rfl⟩
  · have hgo := hk ad H locs cells slots rs ⟨hL, o1, o2', o3, hP, hD, hS, e1, e2, e3, e4⟩
    exact lv_icmp_lt hx hb hd (tgt := a) (by omega) (fun _ => hgo) (fun z => absurd (hi.mpr hq) z)
  · have hgo := hk ad H locs cells slots rs ⟨hL, o1, o2', o3, hP, hD, hS, e1, e2, e3, e4⟩
    exact lv_icmp_lt hx hb hd (tgt := a) (by omega) (fun z => absurd (hi.mp z) hq) (fun _ => hgo)
theorem s_icmp_ge (C0 : Cx p R s m args meth c y d D cI cC A mc ms) {a : Nat} (hd : decode (mB y) pc = .ok ((.if_icmp .ge ((a : Int) - pc), 3))) (hn : n_icmp (fun x y => y ≤ x) a pc ls st h bc bs t) (hk : WA p l e R s m args below meth c y D cI cC A mc ms ad0 n0 Qf (t)) : WA p l e R s m args below meth c y D cI cC A mc ms ad0 n0 Qf (pc, ls, st, h, bc, bs) := by
  obtain ⟨x, z, st', rfl, hq⟩ := hn
  obtain ⟨hx, hb, hml, hown, hts, hK, hRm, hin, hA, hNK⟩ := C0
  intro ad H locs cells slots rs hR
  obtain ⟨hL, o1, o2, o3, hP, hD, hS, e1, e2, e3, e4⟩ := hR
  dsimp only at hL o1 o2 o3 hP hD hS e1 e2 e3 e4
  have oz : inR z := o2 _ List.mem_cons_self
  have ox : inR x := o2 _ (List.mem_cons_of_mem _ List.mem_cons_self)
  have o2' : ∀ w ∈ st', okV h w := fun w hw => o2 w (List.mem_cons_of_mem _ (List.mem_cons_of_mem _ hw))
  have hi := (oI_le oz ox)
  rcases hq with ⟨hq, rfl⟩ | ⟨hq, rfl⟩
  · have hgo := hk ad H locs cells slots rs ⟨hL, o1, o2', o3, hP, hD, hS, e1, e2, e3, e4⟩
    exact lv_icmp_ge hx hb hd (tgt := a) (by omega) (fun _ => hgo) (fun z => absurd (hi.mpr hq) z)
  · have hgo := hk ad H locs cells slots rs ⟨hL, o1, o2', o3, hP, hD, hS, e1, e2, e3, e4⟩
    exact lv_icmp_ge hx hb hd (tgt := a) (by omega) (fun z => absurd (hi.mp z) hq) (fun _ => hgo)
theorem s_icmp_gt (C0 : Cx p R s m args meth c y d D cI cC A mc ms) {a : Nat} (hd : decode (mB y) pc = .ok ((.if_icmp .gt ((a : Int) - pc), 3))) (hn : n_icmp (fun x y => y < x) a pc ls st h bc bs t) (hk : WA p l e R s m args below meth c y D cI cC A mc ms ad0 n0 Qf (t)) : WA p l e R s m args below meth c y D cI cC A mc ms ad0 n0 Qf (pc, ls, st, h, bc, bs) := by
  obtain ⟨x, z, st', rfl, hq⟩ := hn
  obtain ⟨hx, hb, hml, hown, hts, hK, hRm, hin, hA, hNK⟩ := C0
  intro ad H locs cells slots rs hR
  obtain ⟨hL, o1, o2, o3, hP, hD, hS, e1, e2, e3, e4⟩ := hR
  dsimp only at hL o1 o2 o3 hP hD hS e1 e2 e3 e4
  have oz : inR z := o2 _ List.mem_cons_self
  have ox : inR x := o2 _ (List.mem_cons_of_mem _ List.mem_cons_self)
  have o2' : ∀ w ∈ st', okV h w := fun w hw => o2 w (List.mem_cons_of_mem _ (List.mem_cons_of_mem _ hw))
  have hi := (oI_lt oz ox)
  rcases hq with ⟨hq, rfl⟩ | ⟨hq, rfl⟩
  · have hgo := hk ad H locs cells slots rs ⟨hL, o1, o2', o3, hP, hD, hS, e1, e2, e3, e4⟩
    exact lv_icmp_gt hx hb hd (tgt := a) (by omega) (fun _ => hgo) (fun z => absurd (hi.mpr hq) z)
  · have hgo := hk ad H locs cells slots rs ⟨hL, o1, o2', o3, hP, hD, hS, e1, e2, e3, e4⟩
    exact lv_icmp_gt hx hb hd (tgt := a) (by omega) (fun z => absurd (hi.mp z) hq) (fun _ => hgo)
theorem s_icmp_le (C0 : Cx p R s m args meth c y d D cI cC A mc ms) {a : Nat} (hd : decode (mB y) pc = .ok ((.if_icmp .le ((a : Int) - pc), 3))) (hn : n_icmp (fun x y => x ≤ y) a pc ls st h bc bs t) (hk : WA p l e R s m args below meth c y D cI cC A mc ms ad0 n0 Qf (t)) : WA p l e R s m args below meth c y D cI cC A mc ms ad0 n0 Qf (pc, ls, st, h, bc, bs) := by
  obtain ⟨x, z, st', rfl, hq⟩ := hn
  obtain ⟨hx, hb, hml, hown, hts, hK, hRm, hin, hA, hNK⟩ := C0
  intro ad H locs cells slots rs hR
  obtain ⟨hL, o1, o2, o3, hP, hD, hS, e1, e2, e3, e4⟩ := hR
  dsimp only at hL o1 o2 o3 hP hD hS e1 e2 e3 e4
  have oz : inR z := o2 _ List.mem_cons_self
  have ox : inR x := o2 _ (List.mem_cons_of_mem _ List.mem_cons_self)
  have o2' : ∀ w ∈ st', okV h w := fun w hw => o2 w (List.mem_cons_of_mem _ (List.mem_cons_of_mem _ hw))
  have hi := (oI_le ox oz)
  rcases hq with ⟨hq, rfl⟩ | ⟨hq, rfl⟩
  · have hgo := hk ad H locs cells slots rs ⟨hL, o1, o2', o3, hP, hD, hS, e1, e2, e3, e4⟩
    exact lv_icmp_le hx hb hd (tgt := a) (by omega) (fun _ => hgo) (fun z => absurd (hi.mpr hq) z)
  · have hgo := hk ad H locs cells slots rs ⟨hL, o1, o2', o3, hP, hD, hS, e1, e2, e3, e4⟩
    exact lv_icmp_le hx hb hd (tgt := a) (by omega) (fun z => absurd (hi.mp z) hq) (fun _ => hgo)
theorem fs_get {n k ci a : Nat} {ad : Nat → Nat} (hk : k < n) : ((List.range n).map (fv ad h a ci))[k]? = some (fv ad h a ci k) := by
  rw [List.getElem?_map, List.getElem?_range hk]
  rfl
theorem s_getI (C0 : Cx p R s m args meth c y d D cI cC A mc ms) {a ci k : Nat} (hf : ((mO y, a), (ci, k)) ∈ FL) (hci : ci < 10) (hk0 : k < nF ci) (hfk : fK ci k ≤ 1) (hd : decode (mB y) pc = .ok ((.getfield a, 3))) (hn : n_getI ci k pc ls st h bc bs t) (hk : WA p l e R s m args below meth c y D cI cC A mc ms ad0 n0 Qf (t)) : WA p l e R s m args below meth c y D cI cC A mc ms ad0 n0 Qf (pc, ls, st, h, bc, bs) := by
  obtain ⟨o, n, st', rfl, hsh, rfl⟩ := hn
  obtain ⟨hx, hb, hml, hown, hts, hK, hRm, hin, hA, hNK⟩ := C0
  intro ad H locs cells slots rs hR
  obtain ⟨hL, o1, o2, o3, hP, hD, hS, e1, e2, e3, e4⟩ := hR
  dsimp only at hL o1 o2 o3 hP hD hS e1 e2 e3 e4
  obtain ⟨g1, g2, g3, g4, g5, g6⟩ := okc ci hci
  have hnf : n = nF ci := (o3.2.2.1 o _ hsh (by show 2 ≤ ci + 2; omega)).2
  subst hnf
  have hw := wo_get (cI := cI) (cC := cC) (ad := ad) hsh
  rw [ce_o] at hw
  have hgo := hk ad H locs cells slots rs ⟨hL, o1, al_cons (show inR _ from o3.1 o k) (fun w hw => o2 w (List.mem_cons_of_mem _ hw)), o3, hP, hD, hS, e1, e2, e3, e4⟩
  refine va_get (D := D) (ci := ci) (C := cN ci) (T := cT ci) (N := nF ci) hx hb hts g2 hown hK hP o hw g1 k hk0 (hts _ (FL_ok _ hf)) (fun _ h9 => h9) (v := .int (Int32.ofInt (h.2.2 o k))) ?_ hd hgo
  rw [fs_get hk0]
  unfold fv
  rw [if_neg (by omega)]
theorem s_getR (C0 : Cx p R s m args meth c y d D cI cC A mc ms) {a ci k : Nat} (hf : ((mO y, a), (ci, k)) ∈ FL) (hci : ci < 10) (hk0 : k < nF ci) (hfk : 2 ≤ fK ci k) (hd : decode (mB y) pc = .ok ((.getfield a, 3))) (hn : n_getR ci k pc ls st h bc bs t) (hk : WA p l e R s m args below meth c y D cI cC A mc ms ad0 n0 Qf (t)) : WA p l e R s m args below meth c y D cI cC A mc ms ad0 n0 Qf (pc, ls, st, h, bc, bs) := by
  obtain ⟨o, n, st', rfl, hsh, rfl⟩ := hn
  obtain ⟨hx, hb, hml, hown, hts, hK, hRm, hin, hA, hNK⟩ := C0
  intro ad H locs cells slots rs hR
  obtain ⟨hL, o1, o2, o3, hP, hD, hS, e1, e2, e3, e4⟩ := hR
  dsimp only at hL o1 o2 o3 hP hD hS e1 e2 e3 e4
  obtain ⟨g1, g2, g3, g4, g5, g6⟩ := okc ci hci
  have hnf : n = nF ci := (o3.2.2.1 o _ hsh (by show 2 ≤ ci + 2; omega)).2
  subst hnf
  have hw := wo_get (cI := cI) (cC := cC) (ad := ad) hsh
  rw [ce_o] at hw
  have hov : okV h (.inr (h.2.1 o k)) := by
    cases hr : h.2.1 o k with
    | none => exact trivial
    | some z => exact Or.inl (o3.2.1 o k z hr)
  have hgo := hk ad H locs cells slots rs ⟨hL, o1, al_cons hov (fun w hw => o2 w (List.mem_cons_of_mem _ hw)), o3, hP, hD, hS, e1, e2, e3, e4⟩
  refine va_get (D := D) (ci := ci) (C := cN ci) (T := cT ci) (N := nF ci) hx hb hts g2 hown hK hP o hw g1 k hk0 (hts _ (FL_ok _ hf)) (fun _ h9 => h9) (v := im ad (.inr (h.2.1 o k))) ?_ hd hgo
  rw [fs_get hk0]
  unfold fv
  rw [if_pos hfk]
theorem fs_setI {n k ci a : Nat} {ad : Nat → Nat} {v : Int} (hfk : fK ci k ≤ 1) : ((List.range n).map (fv ad h a ci)).set k (.int (Int32.ofInt v)) = (List.range n).map (fv ad (h.1, h.2.1, upA h.2.2 a (upF (h.2.2 a) k v)) a ci) := by
  apply List.ext_getElem?
  intro i
  by_cases hi : i = k
  · subst hi
    by_cases hn : i < n
    · rw [List.getElem?_set_self (by simp; exact hn), List.getElem?_map, List.getElem?_range hn]
      simp [fv, show ¬ 2 ≤ fK ci i by omega, upA, upF]
    · rw [List.getElem?_eq_none (by simp; omega), List.getElem?_eq_none (by simp; omega)]
  · rw [List.getElem?_set_ne (Ne.symm hi), List.getElem?_map, List.getElem?_map]
    by_cases hn : i < n
    · rw [List.getElem?_range hn]
      have : ¬ (i : Int) = (k : Int) := by omega
      simp [fv, upA, upF, this]
    · rw [List.getElem?_eq_none (by simp; omega)]
      rfl
theorem ce_upA {a q b} {ad : Nat → Nat} {f : Int → Int} {cI cC : ClassId} (hb : b ≠ a) : ce cI cC ad (h.1, h.2.1, upA h.2.2 a f) b q = ce cI cC ad h b q := by
  have e : upA h.2.2 a f b = h.2.2 b := by simp [upA, hb]
  unfold ce fv
  simp only [e]
theorem okH_upA {a : Nat} {f : Int → Int} (o : okH h) (hf : ∀ i, inR (f i)) : okH (h.1, h.2.1, upA h.2.2 a f) := by
  refine ⟨fun b i => ?_, o.2.1, o.2.2.1, o.2.2.2⟩
  show inR (upA h.2.2 a f b i)
  unfold upA
  by_cases e : b = a
  · rw [if_pos e]; exact hf i
  · rw [if_neg e]; exact o.1 b i
theorem inR_upF {f : Int → Int} {k v : Int} (hf : ∀ i, inR (f i)) (hv : inR v) : ∀ i, inR (upF f k v i) := by
  intro i
  unfold upF
  by_cases e : i = k
  · rw [if_pos e]; exact hv
  · rw [if_neg e]; exact hf i
theorem s_putI (C0 : Cx p R s m args meth c y d D cI cC A mc ms) {a ci k : Nat} (hf : ((mO y, a), (ci, k)) ∈ FL) (hci : ci < 10) (hk0 : k < nF ci) (hfk : fK ci k = 0) (hd : decode (mB y) pc = .ok ((.putfield a, 3))) (hn : n_putI (fun _ => True) ci k pc ls st h bc bs t) (hk : WA p l e R s m args below meth c y D cI cC A mc ms ad0 n0 Qf (t)) : WA p l e R s m args below meth c y D cI cC A mc ms ad0 n0 Qf (pc, ls, st, h, bc, bs) := by
  obtain ⟨o, n, v, st', rfl, hsh, hv, rfl⟩ := hn
  obtain ⟨hx, hb, hml, hown, hts, hK, hRm, hin, hA, hNK⟩ := C0
  intro ad H locs cells slots rs hR
  obtain ⟨hL, o1, o2, o3, hP, hD, hS, e1, e2, e3, e4⟩ := hR
  dsimp only at hL o1 o2 o3 hP hD hS e1 e2 e3 e4
  obtain ⟨g1, g2, g3, g4, g5, g6⟩ := okc ci hci
  have hnf : n = nF ci := (o3.2.2.1 o _ hsh (by show 2 ≤ ci + 2; omega)).2
  subst hnf
  have hw := wo_get (cI := cI) (cC := cC) (ad := ad) hsh
  rw [ce_o] at hw
  have ov : inR v := o2 _ List.mem_cons_self
  have o2' : ∀ w ∈ st', okV h w := fun w hw => o2 w (List.mem_cons_of_mem _ (List.mem_cons_of_mem _ hw))
  obtain ⟨gt, gf⟩ := (g6 k hk0).1 hfk
  refine va_put (D := D) (ci := ci) (v := .int (Int32.ofInt v)) (ty := cY ci k) (C := cN ci) (T := cT ci) (N := nF ci) hx hb hts g2 (cY ci) g4 g3 hown hK hP hD hS o hw g1 k hk0 (hts _ (FL_ok _ hf)) (fun _ h9 => h9) gf (g4 k hk0) ?_ ?_ (by simp; exact hk0) hd (fun H1 locs1 hP1 hD1 hS1 => ?_)
  · rw [gt]; rfl
  · rw [gt]; rfl
  · have he : (wo cI cC ad h).set o (ad o, .inr (ci, ((List.range (nF ci)).map (fv ad h o ci)).set k (.int (Int32.ofInt v)))) = wo cI cC ad (h.1, h.2.1, upA h.2.2 o (upF (h.2.2 o) k v)) := by
      rw [fs_setI (by omega), ← ce_o (cI := cI) (cC := cC)]
      exact wo_set rfl hsh (fun b q hbq => ce_upA hbq)
    rw [he] at hP1 hD1
    exact hk ad H1 locs1 cells slots rs ⟨hL, o1, o2', okH_upA o3 (inR_upF (o3.1 o) ov), hP1, hD1, hS1, e1, e2, e3, e4⟩
theorem s_putZ (C0 : Cx p R s m args meth c y d D cI cC A mc ms) {a ci k : Nat} (hf : ((mO y, a), (ci, k)) ∈ FL) (hci : ci < 10) (hk0 : k < nF ci) (hfk : fK ci k = 1) (hd : decode (mB y) pc = .ok ((.putfield a, 3))) (hn : n_putI (fun v => v = 0 ∨ v = 1) ci k pc ls st h bc bs t) (hk : WA p l e R s m args below meth c y D cI cC A mc ms ad0 n0 Qf (t)) : WA p l e R s m args below meth c y D cI cC A mc ms ad0 n0 Qf (pc, ls, st, h, bc, bs) := by
  obtain ⟨o, n, v, st', rfl, hsh, hv, rfl⟩ := hn
  obtain ⟨hx, hb, hml, hown, hts, hK, hRm, hin, hA, hNK⟩ := C0
  intro ad H locs cells slots rs hR
  obtain ⟨hL, o1, o2, o3, hP, hD, hS, e1, e2, e3, e4⟩ := hR
  dsimp only at hL o1 o2 o3 hP hD hS e1 e2 e3 e4
  obtain ⟨g1, g2, g3, g4, g5, g6⟩ := okc ci hci
  have hnf : n = nF ci := (o3.2.2.1 o _ hsh (by show 2 ≤ ci + 2; omega)).2
  subst hnf
  have hw := wo_get (cI := cI) (cC := cC) (ad := ad) hsh
  rw [ce_o] at hw
  have ov : inR v := o2 _ List.mem_cons_self
  have o2' : ∀ w ∈ st', okV h w := fun w hw => o2 w (List.mem_cons_of_mem _ (List.mem_cons_of_mem _ hw))
  obtain ⟨gt, gf⟩ := (g6 k hk0).2.1 hfk
  refine va_put (D := D) (ci := ci) (v := .int (Int32.ofInt v)) (ty := cY ci k) (C := cN ci) (T := cT ci) (N := nF ci) hx hb hts g2 (cY ci) g4 g3 hown hK hP hD hS o hw g1 k hk0 (hts _ (FL_ok _ hf)) (fun _ h9 => h9) gf (g4 k hk0) ?_ ?_ (by simp; exact hk0) hd (fun H1 locs1 hP1 hD1 hS1 => ?_)
  · rw [gt]; rcases hv with rfl | rfl <;> rfl
  · rw [gt]; rcases hv with rfl | rfl <;> rfl
  · have he : (wo cI cC ad h).set o (ad o, .inr (ci, ((List.range (nF ci)).map (fv ad h o ci)).set k (.int (Int32.ofInt v)))) = wo cI cC ad (h.1, h.2.1, upA h.2.2 o (upF (h.2.2 o) k v)) := by
      rw [fs_setI (by omega), ← ce_o (cI := cI) (cC := cC)]
      exact wo_set rfl hsh (fun b q hbq => ce_upA hbq)
    rw [he] at hP1 hD1
    exact hk ad H1 locs1 cells slots rs ⟨hL, o1, o2', okH_upA o3 (inR_upF (o3.1 o) ov), hP1, hD1, hS1, e1, e2, e3, e4⟩
theorem fs_setR {n k ci a w : Nat} {ad : Nat → Nat} (hfk : 2 ≤ fK ci k) : ((List.range n).map (fv ad h a ci)).set k (.ref (ad w)) = (List.range n).map (fv ad (h.1, upR h.2.1 a (upK (h.2.1 a) k (some w)), h.2.2) a ci) := by
  apply List.ext_getElem?
  intro i
  by_cases hi : i = k
  · subst hi
    by_cases hn : i < n
    · rw [List.getElem?_set_self (by simp; exact hn), List.getElem?_map, List.getElem?_range hn]
      simp [fv, hfk, upR, upK, im]
    · rw [List.getElem?_eq_none (by simp; omega), List.getElem?_eq_none (by simp; omega)]
  · rw [List.getElem?_set_ne (Ne.symm hi), List.getElem?_map, List.getElem?_map]
    by_cases hn : i < n
    · rw [List.getElem?_range hn]
      simp [fv, upR, upK, hi]
    · rw [List.getElem?_eq_none (by simp; omega)]
      rfl
theorem ce_upR {a q b} {ad : Nat → Nat} {f : Nat → Option Nat} {cI cC : ClassId} (hb : b ≠ a) : ce cI cC ad (h.1, upR h.2.1 a f, h.2.2) b q = ce cI cC ad h b q := by
  have e : upR h.2.1 a f b = h.2.1 b := by simp [upR, hb]
  unfold ce fv
  simp only [e]
theorem okH_upR {a k w : Nat} (o : okH h) (hw : w < h.1.length) : okH (h.1, upR h.2.1 a (upK (h.2.1 a) k (some w)), h.2.2) := by
  refine ⟨o.1, fun b f z hz => ?_, o.2.2.1, o.2.2.2⟩
  show z < h.1.length
  have hz : upR h.2.1 a (upK (h.2.1 a) k (some w)) b f = some z := hz
  unfold upR upK at hz
  by_cases e : b = a
  · rw [if_pos e] at hz
    by_cases e2 : f = k
    · rw [if_pos e2] at hz
      cases hz
      exact hw
    · rw [if_neg e2] at hz
      exact o.2.1 a f z hz
  · rw [if_neg e] at hz
    exact o.2.1 b f z hz
theorem ref_nf {t : FieldType} (ht : t.isReference = true) (a : Nat) : narrow t (.ref a) = .ref a ∧ fits t (.ref a) = true := by
  cases t <;> first | exact ⟨rfl, rfl⟩ | exact absurd ht (by decide)
theorem s_putR (C0 : Cx p R s m args meth c y d D cI cC A mc ms) {a ci k : Nat} (hf : ((mO y, a), (ci, k)) ∈ FL) (hci : ci < 10) (hk0 : k < nF ci) (hfk : fK ci k = 2) (hd : decode (mB y) pc = .ok ((.putfield a, 3))) (hn : n_putR ci k pc ls st h bc bs t) (hk : WA p l e R s m args below meth c y D cI cC A mc ms ad0 n0 Qf (t)) : WA p l e R s m args below meth c y D cI cC A mc ms ad0 n0 Qf (pc, ls, st, h, bc, bs) := by
  obtain ⟨o, n, v, st', rfl, hsh, hv, rfl⟩ := hn
  obtain ⟨hx, hb, hml, hown, hts, hK, hRm, hin, hA, hNK⟩ := C0
  intro ad H locs cells slots rs hR
  obtain ⟨hL, o1, o2, o3, hP, hD, hS, e1, e2, e3, e4⟩ := hR
  dsimp only at hL o1 o2 o3 hP hD hS e1 e2 e3 e4
  obtain ⟨g1, g2, g3, g4, g5, g6⟩ := okc ci hci
  have hnf : n = nF ci := (o3.2.2.1 o _ hsh (by show 2 ≤ ci + 2; omega)).2
  subst hnf
  have hw := wo_get (cI := cI) (cC := cC) (ad := ad) hsh
  rw [ce_o] at hw
  have o2' : ∀ w ∈ st', okV h w := fun w hw => o2 w (List.mem_cons_of_mem _ (List.mem_cons_of_mem _ hw))
  have gf := (g6 k hk0).2.2.1 hfk
  have gr := (g6 k hk0).2.2.2.2.1 (by omega)
  refine va_put (D := D) (ci := ci) (v := .ref (ad v)) (ty := cY ci k) (C := cN ci) (T := cT ci) (N := nF ci) hx hb hts g2 (cY ci) g4 g3 hown hK hP hD hS o hw g1 k hk0 (hts _ (FL_ok _ hf)) (fun _ h9 => h9) gf (g4 k hk0) (ref_nf gr _).1 (ref_nf gr _).2 (by simp; exact hk0) hd (fun H1 locs1 hP1 hD1 hS1 => ?_)
  have he : (wo cI cC ad h).set o (ad o, .inr (ci, ((List.range (nF ci)).map (fv ad h o ci)).set k (.ref (ad v)))) = wo cI cC ad (h.1, upR h.2.1 o (upK (h.2.1 o) k (some v)), h.2.2) := by
    rw [fs_setR (by omega), ← ce_o (cI := cI) (cC := cC)]
    exact wo_set rfl hsh (fun b q hbq => ce_upR hbq)
  rw [he] at hP1 hD1
  exact hk ad H1 locs1 cells slots rs ⟨hL, o1, o2', okH_upR o3 hv, hP1, hD1, hS1, e1, e2, e3, e4⟩
theorem s_putRF (C0 : Cx p R s m args meth c y d D cI cC A mc ms) {a ci k : Nat} (hf : ((mO y, a), (ci, k)) ∈ FL) (hci : ci < 10) (hk0 : k < nF ci) (hfk : fK ci k = 3) (hmo : mO y = ci) (hmk : mK y = 2) (hy : y < 188) (hd : decode (mB y) pc = .ok ((.putfield a, 3))) (hn : n_putR ci k pc ls st h bc bs t) (hk : WA p l e R s m args below meth c y D cI cC A mc ms ad0 n0 Qf (t)) : WA p l e R s m args below meth c y D cI cC A mc ms ad0 n0 Qf (pc, ls, st, h, bc, bs) := by
  obtain ⟨o, n, v, st', rfl, hsh, hv, rfl⟩ := hn
  obtain ⟨hx, hb, hml, hown, hts, hK, hRm, hin, hA, hNK⟩ := C0
  intro ad H locs cells slots rs hR
  obtain ⟨hL, o1, o2, o3, hP, hD, hS, e1, e2, e3, e4⟩ := hR
  dsimp only at hL o1 o2 o3 hP hD hS e1 e2 e3 e4
  obtain ⟨g1, g2, g3, g4, g5, g6⟩ := okc ci hci
  have hnf : n = nF ci := (o3.2.2.1 o _ hsh (by show 2 ≤ ci + 2; omega)).2
  subst hnf
  have hw := wo_get (cI := cI) (cC := cC) (ad := ad) hsh
  rw [ce_o] at hw
  have o2' : ∀ w ∈ st', okV h w := fun w hw => o2 w (List.mem_cons_of_mem _ (List.mem_cons_of_mem _ hw))
  obtain ⟨gf, gd⟩ := (g6 k hk0).2.2.2.1 hfk
  have gr := (g6 k hk0).2.2.2.2.1 (by omega)
  refine va_putF (D := D) (ci := ci) (v := .ref (ad v)) (ty := cY ci k) (C := cN ci) (T := cT ci) (N := nF ci) hx hb hts g2 (cY ci) g4 g3 hown hK hP hD hS o hw g1 k hk0 (hts _ (FL_ok _ hf)) (fun _ h9 => h9) gf (by rw [hin hy]; exact (okm y (by omega) (by omega)).2.2.2.2 hmk) (by rw [hmo]; exact gd) (g4 k hk0) (ref_nf gr _).1 (ref_nf gr _).2 (by simp; exact hk0) hd (fun H1 locs1 hP1 hD1 hS1 => ?_)
  have he : (wo cI cC ad h).set o (ad o, .inr (ci, ((List.range (nF ci)).map (fv ad h o ci)).set k (.ref (ad v)))) = wo cI cC ad (h.1, upR h.2.1 o (upK (h.2.1 o) k (some v)), h.2.2) := by
    rw [fs_setR (by omega), ← ce_o (cI := cI) (cC := cC)]
    exact wo_set rfl hsh (fun b q hbq => ce_upR hbq)
  rw [he] at hP1 hD1
  exact hk ad H1 locs1 cells slots rs ⟨hL, o1, o2', okH_upR o3 hv, hP1, hD1, hS1, e1, e2, e3, e4⟩
theorem in_vp {i : Int} {n : Nat} (hi : inR i) (h0 : 0 ≤ i) (h1 : i < n) : vp_in (Int32.ofInt i) n := by
  rw [vp_in_iff, oI_t hi]
  exact ⟨h0, h1⟩
theorem cl_toN {i : Int} (hi : inR i) (h0 : 0 ≤ i) : ((Int32.ofInt i).toNatClampNeg : Int) = i := by
  rw [oI_n hi]
  omega
theorem upd_ofInt {f : Int → Int} {i v : Int} (hi : inR i) (h0 : 0 ≤ i) : upd (fun j : Nat => Int32.ofInt (f j)) (Int32.ofInt i).toNatClampNeg (Int32.ofInt v) = fun j : Nat => Int32.ofInt (upF f i v j) := by
  funext j
  unfold upd upF
  have e := cl_toN hi h0
  by_cases q : j = (Int32.ofInt i).toNatClampNeg
  · rw [if_pos q, if_pos (by omega)]
  · rw [if_neg q, if_neg (by omega)]
theorem s_iald (C0 : Cx p R s m args meth c y d D cI cC A mc ms) (hd : decode (mB y) pc = .ok ((.iaload, 1))) (hn : n_ald 0 pc ls st h bc bs t) (hk : WA p l e R s m args below meth c y D cI cC A mc ms ad0 n0 Qf (t)) : WA p l e R s m args below meth c y D cI cC A mc ms ad0 n0 Qf (pc, ls, st, h, bc, bs) := by
  obtain ⟨i, o, n, st', rfl, hsh, hi, rfl⟩ := hn
  obtain ⟨hx, hb, hml, hown, hts, hK, hRm, hin, hA, hNK⟩ := C0
  intro ad H locs cells slots rs hR
  obtain ⟨hL, o1, o2, o3, hP, hD, hS, e1, e2, e3, e4⟩ := hR
  dsimp only at hL o1 o2 o3 hP hD hS e1 e2 e3 e4
  have oi : inR i := o2 _ List.mem_cons_self
  have o2' : ∀ w ∈ st', okV h w := fun w hw => o2 w (List.mem_cons_of_mem _ (List.mem_cons_of_mem _ hw))
  have hw := wo_get (cI := cI) (cC := cC) (ad := ad) hsh
  rw [ce_0] at hw
  have hgo := hk ad H locs cells slots rs ⟨hL, o1, al_cons (show inR _ from o3.1 o i) o2', o3, hP, hD, hS, e1, e2, e3, e4⟩
  refine va_iald hx hb hK hP o 0 hw rfl (in_vp oi hi.1 hi.2) hd ?_
  rw [cl_toN oi hi.1]
  exact hgo
theorem s_cald (C0 : Cx p R s m args meth c y d D cI cC A mc ms) (hd : decode (mB y) pc = .ok ((.caload, 1))) (hn : n_ald 1 pc ls st h bc bs t) (hk : WA p l e R s m args below meth c y D cI cC A mc ms ad0 n0 Qf (t)) : WA p l e R s m args below meth c y D cI cC A mc ms ad0 n0 Qf (pc, ls, st, h, bc, bs) := by
  obtain ⟨i, o, n, st', rfl, hsh, hi, rfl⟩ := hn
  obtain ⟨hx, hb, hml, hown, hts, hK, hRm, hin, hA, hNK⟩ := C0
  intro ad H locs cells slots rs hR
  obtain ⟨hL, o1, o2, o3, hP, hD, hS, e1, e2, e3, e4⟩ := hR
  dsimp only at hL o1 o2 o3 hP hD hS e1 e2 e3 e4
  have oi : inR i := o2 _ List.mem_cons_self
  have o2' : ∀ w ∈ st', okV h w := fun w hw => o2 w (List.mem_cons_of_mem _ (List.mem_cons_of_mem _ hw))
  have hw := wo_get (cI := cI) (cC := cC) (ad := ad) hsh
  rw [ce_1] at hw
  have hgo := hk ad H locs cells slots rs ⟨hL, o1, al_cons (show inR _ from o3.1 o i) o2', o3, hP, hD, hS, e1, e2, e3, e4⟩
  refine va_cald hx hb hK hP o 1 hw rfl (in_vp oi hi.1 hi.2) hd ?_
  rw [cl_toN oi hi.1]
  exact hgo
theorem s_iast (C0 : Cx p R s m args meth c y d D cI cC A mc ms) (hd : decode (mB y) pc = .ok ((.iastore, 1))) (hn : n_ast 0 (fun _ => True) pc ls st h bc bs t) (hk : WA p l e R s m args below meth c y D cI cC A mc ms ad0 n0 Qf (t)) : WA p l e R s m args below meth c y D cI cC A mc ms ad0 n0 Qf (pc, ls, st, h, bc, bs) := by
  obtain ⟨i, v, o, n, st', rfl, hsh, hi, hv, rfl⟩ := hn
  obtain ⟨hx, hb, hml, hown, hts, hK, hRm, hin, hA, hNK⟩ := C0
  intro ad H locs cells slots rs hR
  obtain ⟨hL, o1, o2, o3, hP, hD, hS, e1, e2, e3, e4⟩ := hR
  dsimp only at hL o1 o2 o3 hP hD hS e1 e2 e3 e4
  have ov : inR v := o2 _ List.mem_cons_self
  have oi : inR i := o2 _ (List.mem_cons_of_mem _ List.mem_cons_self)
  have o2' : ∀ w ∈ st', okV h w := fun w hw => o2 w (List.mem_cons_of_mem _ (List.mem_cons_of_mem _ (List.mem_cons_of_mem _ hw)))
  have hw := wo_get (cI := cI) (cC := cC) (ad := ad) hsh
  rw [ce_0] at hw
  refine va_iast hx hb hK hP hD hS o 0 hw rfl (in_vp oi hi.1 hi.2) hd (fun H1 locs1 hP1 hD1 hS1 => ?_)
  rw [upd_ofInt oi hi.1] at hP1 hD1
  have he : (wo cI cC ad h).set o (ad o, .inl (cI, n, .inl (fun j : Nat => Int32.ofInt (upF (h.2.2 o) i v j)))) = wo cI cC ad (h.1, h.2.1, upA h.2.2 o (upF (h.2.2 o) i v)) := by
    rw [show (Sum.inl (cI, n, Sum.inl (fun j : Nat => Int32.ofInt (upF (h.2.2 o) i v j))) : va_E) = ce cI cC ad (h.1, h.2.1, upA h.2.2 o (upF (h.2.2 o) i v)) o (0, n) by rw [ce_0]; simp [upA]]
    exact wo_set rfl hsh (fun b q hbq => ce_upA hbq)
  rw [he] at hP1 hD1
  exact hk ad H1 locs1 cells slots rs ⟨hL, o1, o2', okH_upA o3 (inR_upF (o3.1 o) ov), hP1, hD1, hS1, e1, e2, e3, e4⟩
theorem s_cast (C0 : Cx p R s m args meth c y d D cI cC A mc ms) (hd : decode (mB y) pc = .ok ((.castore, 1))) (hn : n_ast 1 (fun v => 0 ≤ v ∧ v < 65536) pc ls st h bc bs t) (hk : WA p l e R s m args below meth c y D cI cC A mc ms ad0 n0 Qf (t)) : WA p l e R s m args below meth c y D cI cC A mc ms ad0 n0 Qf (pc, ls, st, h, bc, bs) := by
  obtain ⟨i, v, o, n, st', rfl, hsh, hi, hv, rfl⟩ := hn
  obtain ⟨hx, hb, hml, hown, hts, hK, hRm, hin, hA, hNK⟩ := C0
  intro ad H locs cells slots rs hR
  obtain ⟨hL, o1, o2, o3, hP, hD, hS, e1, e2, e3, e4⟩ := hR
  dsimp only at hL o1 o2 o3 hP hD hS e1 e2 e3 e4
  have ov : inR v := o2 _ List.mem_cons_self
  have oi : inR i := o2 _ (List.mem_cons_of_mem _ List.mem_cons_self)
  have o2' : ∀ w ∈ st', okV h w := fun w hw => o2 w (List.mem_cons_of_mem _ (List.mem_cons_of_mem _ (List.mem_cons_of_mem _ hw)))
  have hw := wo_get (cI := cI) (cC := cC) (ad := ad) hsh
  rw [ce_1] at hw
  refine va_cast hx hb hK hP hD hS o 1 hw rfl (in_vp oi hi.1 hi.2) hd (fun H1 locs1 hP1 hD1 hS1 => ?_)
  have hnar : vp_nar .char (Int32.ofInt v) = Int32.ofInt v := by
    have e := pk_vc (Int32.ofInt v)
    rw [oI_c hv.1 hv.2] at e
    exact e
  rw [hnar] at hP1 hD1
  rw [upd_ofInt oi hi.1] at hP1 hD1
  have he : (wo cI cC ad h).set o (ad o, .inl (cC, n, .inl (fun j : Nat => Int32.ofInt (upF (h.2.2 o) i v j)))) = wo cI cC ad (h.1, h.2.1, upA h.2.2 o (upF (h.2.2 o) i v)) := by
    rw [show (Sum.inl (cC, n, Sum.inl (fun j : Nat => Int32.ofInt (upF (h.2.2 o) i v j))) : va_E) = ce cI cC ad (h.1, h.2.1, upA h.2.2 o (upF (h.2.2 o) i v)) o (1, n) by rw [ce_1]; simp [upA]]
    exact wo_set rfl hsh (fun b q hbq => ce_upA hbq)
  rw [he] at hP1 hD1
  exact hk ad H1 locs1 cells slots rs ⟨hL, o1, o2', okH_upA o3 (inR_upF (o3.1 o) ov), hP1, hD1, hS1, e1, e2, e3, e4⟩
theorem s_alen (C0 : Cx p R s m args meth c y d D cI cC A mc ms) (hd : decode (mB y) pc = .ok ((.arraylength, 1))) (hn : n_alen pc ls st h bc bs t) (hk : WA p l e R s m args below meth c y D cI cC A mc ms ad0 n0 Qf (t)) : WA p l e R s m args below meth c y D cI cC A mc ms ad0 n0 Qf (pc, ls, st, h, bc, bs) := by
  obtain ⟨o, n, st', rfl, hsh, rfl⟩ := hn
  obtain ⟨hx, hb, hml, hown, hts, hK, hRm, hin, hA, hNK⟩ := C0
  intro ad H locs cells slots rs hR
  obtain ⟨hL, o1, o2, o3, hP, hD, hS, e1, e2, e3, e4⟩ := hR
  dsimp only at hL o1 o2 o3 hP hD hS e1 e2 e3 e4
  have hw := wo_get (cI := cI) (cC := cC) (ad := ad) hsh
  rw [ce_0] at hw
  have hgo := hk ad H locs cells slots rs ⟨hL, o1, al_cons (show inR _ from ⟨by omega, by have := o3.2.2.2.2 o _ hsh; dsimp only at this; omega⟩) (fun w hw => o2 w (List.mem_cons_of_mem _ hw)), o3, hP, hD, hS, e1, e2, e3, e4⟩
  refine va_alen hx hb hK hP o 0 hw rfl (v := Int32.ofInt n) ?_ hd hgo
  exact Int32.ofInt_eq_ofNat.symm
end SND
