/-! ===== RUNS: steps, calls, returns; a run is what the real machine does ===== -/
/-- a callee's locals -/
def ent (b : Nat) (as : List VV) : List VV := as ++ List.replicate (mL b - as.length) (.inr none)
def psh (b : Nat) (r : VV) (st : List VV) : List VV := if mR b = 0 then st else r :: st
def callOk (o : Op) (st as st' : List VV) (h : Hp) : Prop := (o.1 = 46 ∨ o.1 = 47 ∨ o.1 = 48 ∨ o.1 = 59 ∨ o.1 = 60) ∧ st = as.reverse ++ st' ∧ as.length = mA o.2.2.1 ∧ st'.length ≤ 8 ∧ (mK o.2.2.1 ≠ 1 → ∃ (b : Nat) (as' : List VV), as = .inr (some b) :: as' ∧ (o.1 = 46 → ∃ n, h.1[b]? = some (mO o.2.2.1 + 2, n)))
/-- with fuel n and d frames, method y from pc comes to its end with r and the heap h' -/
def run (X : Nat × (Int → Int)) : Nat → Nat → Nat → Nat → List VV → List VV → Hp → Nat → Nat → VV → Hp → Prop
  | 0, _, _, _, _, _, _, _, _, _, _ => False
  | n + 1, d, y, pc, ls, st, h, bc, bs, r, h' => ∃ o : Op, cd y pc = some o ∧
    ((o.1 = 52 ∧ ∃ z, st = [.inl z] ∧ r = .inl z ∧ h' = h ∧ (o.2.1 = 2 → z = 0 ∨ z = 1)) ∨
     (o.1 = 53 ∧ st = [] ∧ r = .inr none ∧ h' = h) ∨
     (∃ t : St, 1 ≤ d ∧ nx X o pc ls st h bc bs t ∧ run X n d y t.1 t.2.1 t.2.2.1 t.2.2.2.1 t.2.2.2.2.1 t.2.2.2.2.2 r h') ∨
     (∃ (d' : Nat) (as st' : List VV) (mc ms : Nat) (r1 : VV) (h1 : Hp), d = d' + 1 ∧ callOk o st as st' h ∧ mc ≤ bc ∧ ms ≤ bs ∧ run X n d' o.2.2.1 0 (ent o.2.2.1 as) [] h mc ms r1 h1 ∧ run X n d y (pc + 3) ls (psh o.2.2.1 r1 st') h1 (bc - mc) (bs - ms) r h'))
theorem run_mono (X : Nat × (Int → Int)) : ∀ (n : Nat) {d y pc : Nat} {ls st : List VV} {h : Hp} {bc bs : Nat} {r : VV} {h' : Hp}, run X n d y pc ls st h bc bs r h' → run X (n + 1) d y pc ls st h bc bs r h' := by
  intro n
  induction n with
  | zero => intro d y pc ls st h bc bs r h' q; exact q.elim
  | succ n ih =>
    intro d y pc ls st h bc bs r h' q
    obtain ⟨o, ho, q⟩ := q
    refine ⟨o, ho, ?_⟩
    rcases q with q | q | ⟨t, q1, q2, q3⟩ | ⟨d', as, st', mc, ms, r1, h1, q1, q2, q3, q4, q5, q6⟩
    · exact Or.inl q
    · exact Or.inr (Or.inl q)
    · exact Or.inr (Or.inr (Or.inl ⟨t, q1, q2, ih q3⟩))
    · exact Or.inr (Or.inr (Or.inr ⟨d', as, st', mc, ms, r1, h1, q1, q2, q3, q4, ih q5, ih q6⟩))
theorem run_le (X : Nat × (Int → Int)) {n k : Nat} (hk : n ≤ k) {d y pc : Nat} {ls st : List VV} {h : Hp} {bc bs : Nat} {r : VV} {h' : Hp} (q : run X n d y pc ls st h bc bs r h') : run X k d y pc ls st h bc bs r h' := by
  induction hk with
  | refl => exact q
  | step _ ih => exact run_mono X _ ih
/-- the text constant's bytes, as the heap has them -/
def txtI : List Int32 := txt0.map (fun n : Nat => Int32.ofInt n)
def txtS : String := "k4;f0.0.0>2.1.1,9;f0.1.0>2.1.0,5;f1.0.1>1.1.0,7;f3.1.1>0.0.1,30;x5;"
/-- what is known of the text constant at the address a -/
def Sx (s : State) (A : Nat → Prop) (a : Nat) : Prop := vk_R "TierPods" 78 txtS a s ∧ (∃ v : Nat, vk_S 1 [67] [txtI] (fun _ => a) (fun _ => v) A s s.heap) ∧ va_Z "java/lang/String" "COMPACT_STRINGS" "Z" (.int 1) A s s.heap ∧ va_Zq "jdk/internal/util/Preconditions" "SIOOBE_FORMATTER" "Ljava/util/function/BiFunction;" A s s.heap
def PM (y : Nat) (D : va_G) (cI cC : ClassId) (ad : Nat → Nat) (h : Hp) (as : List VV) (sz : Nat) : Array Value → State → Prop := va_Pc (as.map (im ad)) (fun U => U.heap.size = sz ∧ va_P D classes (wo cI cC ad h) U.heap ∧ va_K D classes [(cI, .int), (cC, .char)] U ∧ va_D (fun _ => True) (wo cI cC ad h) ∧ NK U ∧ (y = 68 → Sx U (va_A (wo cI cC ad h) sz) (ad STR)))
abbrev QB (D : va_G) (cI cC : ClassId) (ad : Nat → Nat) (h : Hp) (sz : Nat) (h' : Hp) (ad2 : Nat → Nat) (t : State) : Prop := va_P D classes (wo cI cC ad2 h') t.heap ∧ va_D (va_A (wo cI cC ad h) sz) (wo cI cC ad2 h')
abbrev QP (ad : Nat → Nat) (h h' : Hp) (ad2 : Nat → Nat) : Prop := okH h' ∧ h.1.length ≤ h'.1.length ∧ ∀ k, k < h.1.length ∨ STR ≤ k → ad2 k = ad k
def QI (D : va_G) (cI cC : ClassId) (ad : Nat → Nat) (h : Hp) (sz : Nat) (z : Int) (h' : Hp) : Array Value → State → Outcome → State → Prop := va_Qi (fun (r : Int32) (ad2 : Nat → Nat) => r = Int32.ofInt z ∧ inR z ∧ QP ad h h' ad2) (QB D cI cC ad h sz h') (va_A (wo cI cC ad h) sz)
def QV (D : va_G) (cI cC : ClassId) (ad : Nat → Nat) (h : Hp) (sz : Nat) (h' : Hp) : Array Value → State → Outcome → State → Prop := va_Qv (fun (ad2 : Nat → Nat) => QP ad h h' ad2) (QB D cI cC ad h sz h') (va_A (wo cI cC ad h) sz)
abbrev rmD (d mc ms : Nat) : Room := { frames := d, cells := mc, slots := ms, locals := 40 * d }
/-- the contract that a run gives -/
def MP (l : Launch) (y d : Nat) (D : va_G) (cI cC : ClassId) (ad : Nat → Nat) (h : Hp) (as : List VV) (mc ms sz : Nat) (r : VV) (h' : Hp) : Prop :=
  (mR y = 0 → r = .inr none ∧ Met l (mN y) (mW y) (rmD d mc ms) (PM y D cI cC ad h as sz) (QV D cI cC ad h sz h') mc ms (va_A (wo cI cC ad h) sz)) ∧
  (mR y ≠ 0 → ∃ z, r = .inl z ∧ Met l (mN y) (mW y) (rmD d mc ms) (PM y D cI cC ad h as sz) (QI D cI cC ad h sz z h') mc ms (va_A (wo cI cC ad h) sz))
theorem Sx.calling {U : State} {A : Nat → Prop} {a : Nat} {g : JFrame} {mk : MethodId} {av : Array Value} (q : Sx U A a) : Sx (U.calling g mk av) A a := by
  obtain ⟨q1, ⟨v, q2⟩, q3, q4⟩ := q
  refine ⟨vk_R.same rfl q1, ⟨v, vk_S.moved (u := U) (Vm.Alike.refl U.vm) q2⟩, va_Z.moved (u := U) (Vm.Alike.refl U.vm) q3, ?_⟩
  rcases q4 with q4 | ⟨t, q4⟩
  · exact Or.inl (va_Z.moved (u := U) (Vm.Alike.refl U.vm) q4)
  · exact Or.inr ⟨t, va_Z.moved (u := U) (Vm.Alike.refl U.vm) q4⟩
theorem Sx.at {s U : State} {A B : Nat → Prop} {a : Nat} {H : Heap} {locs : List Loc} (q : Sx s A a) (hS : va_S A s.heap H locs) (hW : s.WarmedH U.vm) (hU : U.heap = H) (hB : ∀ z, B z → A z) : Sx U B a := by
  obtain ⟨q1, ⟨v, q2⟩, q3, q4⟩ := q
  rw [← hU] at hS
  have hq : ∀ a : Nat, a < s.heap.size → ¬ A a → U.heap[a]? = s.heap[a]? := hS.2.1
  refine ⟨vk_R.warm hW q1, ⟨v, ((q2.moved hW.alike).kept hq).narrow hB⟩, ((q3.moved hW.alike).kept hq).narrow hB, ?_⟩
  rcases q4 with q4 | ⟨t, q4⟩
  · exact Or.inl (((q4.moved hW.alike).kept hq).narrow hB)
  · exact Or.inr ⟨t, ((q4.moved hW.alike).kept hq).narrow hB⟩
theorem PM.blind {y : Nat} {D : va_G} {cI cC : ClassId} {ad : Nat → Nat} {h : Hp} {as : List VV} {sz : Nat} : FrameBlind (PM y D cI cC ad h as sz) := by
  intro a U g mk q
  obtain ⟨q0, q1, qP, qK, qD, qN, qS⟩ := q
  exact ⟨q0, q1, qP, va_K.moved (u := U) (U := U.calling g mk a) (Vm.Alike.refl U.vm) qK, qD, fun x hx => va_Nw.same rfl (u := U) rfl (qN x hx), fun hy => (qS hy).calling⟩
theorem good_mW {b : Nat} (hb : b < 190) (h8 : b ≠ 188) : GoodIn wl (mW b) := by
  intro w hw
  have hm : w ∈ wl := by
    rcases List.mem_cons.mp hw with q | q
    · rw [q]; exact (okm b hb h8).1
    · exact q
  exact ⟨hm, good_of_word (List.mem_filter.mp hm).2⟩
section SND
variable {p : Program} {l : Launch} {e : Env} {R : Room} {s : State} {m : MethodId} {args : Array Value} {below : List Frame} {meth : Method} {c : Code} {y d : Nat} {D : va_G} {cI cC : ClassId} {A : Nat → Prop} {mc ms : Nat} {ad0 : Nat → Nat} {n0 : Nat} {Qf : State → Prop}
variable {pc : Nat} {ls st : List VV} {h : Hp} {bc bs : Nat} {t : St}
set_option maxHeartbeats 8000000 in
/-- a call, of whatever kind, of a method that has a contract -/
theorem cal_run (C0 : Cx p R s m args meth c y d D cI cC A mc ms) {o : Op} (hcd : cd y pc = some o) {as st' : List VV} {d1 mc1 ms1 : Nat} {ad : Nat → Nat} {H : Heap} {locs : List Loc} {cells slots : Nat} {rs : Array Slot} (hco : callOk o st as st' h) (hdd : d = d1 + 1) (hR : Rl s y D cI cC A mc ms ad0 n0 (pc, ls, st, h, bc, bs) ad H locs cells slots rs) (hmc : mc1 ≤ bc) (hms : ms1 ≤ bs) (hSx : y = 68 ∨ y = 188 → Sx s A (ad0 STR))
    {Qc : Array Value → State → Outcome → State → Prop} (hM : Met l (mN o.2.2.1) (mW o.2.2.1) (rmD d1 mc1 ms1) (PM o.2.2.1 D cI cC ad h as H.size) Qc mc1 ms1 (va_A (wo cI cC ad h) H.size)) :
    va_Run p l e R s m args below meth c H locs cells slots mc1 ms1 (F0 m pc rs (st.map (im ad))) (st'.map (im ad)) (Qc (as.map (im ad)).toArray) (va_A (wo cI cC ad h) H.size) := by
  obtain ⟨hx, hb, hml, hown, hts, hK, hRm, hin, hA, hNK⟩ := C0
  obtain ⟨hL, o1, o2, o3, hP, hD, hS, e1, e2, e3, e4⟩ := hR
  dsimp only at hL o1 o2 o3 hP hD hS e1 e2 e3 e4
  obtain ⟨hdec, hlk⟩ := cd_ok hcd
  obtain ⟨tag, idx, b, cc, zz, tg⟩ := o
  obtain ⟨htag, hst, hal, h8, hrec⟩ := hco
  dsimp only at htag hst hal h8 hrec hM
  have hfree : ∀ q, va_A (wo cI cC ad h) H.size q → A q := by
    rintro q (⟨k, e9, hq⟩ | hq)
    · exact hD.2 k _ hq
    · exact hA q (Nat.le_trans hS.1 hq)
  -- what every kind needs
  have hb190 : b < 190 ∧ b ≠ 188 ∧ (b = 68 → y = 188) := by
    rcases htag with q | q | q | q | q <;> subst q
    · have hlk : (decide (((mO y, idx), b) ∈ ML) && decide (b < 190) && decide (b ≠ 188) && decide (mK b = 0) && decide (b ≠ 68)) = true := hlk
      simp only [Bool.and_eq_true, decide_eq_true_eq] at hlk
      exact ⟨hlk.1.1.1.2, hlk.1.1.2, fun z => absurd z hlk.2⟩
    · have hlk : (decide (((mO y, idx), b) ∈ ML) && decide (b < 190) && decide (b ≠ 188) && decide (mK b = 1) && decide (b ≠ 68)) = true := hlk
      simp only [Bool.and_eq_true, decide_eq_true_eq] at hlk
      exact ⟨hlk.1.1.1.2, hlk.1.1.2, fun z => absurd z hlk.2⟩
    · have hlk : (decide (((mO y, idx), b) ∈ ML) && decide (b < 190) && decide (b ≠ 188) && decide (mK b = 2) && (decide (b ≠ 68) || decide (y = 188))) = true := hlk
      simp only [Bool.and_eq_true, Bool.or_eq_true, decide_eq_true_eq] at hlk
      exact ⟨hlk.1.1.1.2, hlk.1.1.2, fun z => hlk.2.elim (fun r => absurd z r) id⟩
    · have hlk : (decide (((mO y, idx), b) ∈ NL) && decide (b < 190) && decide (b ≠ 188) && decide (mK b = 2) && decide (b ≠ 68)) = true := hlk
      simp only [Bool.and_eq_true, decide_eq_true_eq] at hlk
      exact ⟨hlk.1.1.1.2, hlk.1.1.2, fun z => absurd z hlk.2⟩
    · have hlk : (decide (((mO y, idx), b) ∈ NL) && decide (b < 190) && decide (b ≠ 188) && decide (mK b = 1) && decide (b ≠ 68)) = true := hlk
      simp only [Bool.and_eq_true, decide_eq_true_eq] at hlk
      exact ⟨hlk.1.1.1.2, hlk.1.1.2, fun z => absurd z hlk.2⟩
  obtain ⟨hb1, hb2, hb3⟩ := hb190
  obtain ⟨n1, n2, n3, n4, n5, n6, n7⟩ := nums b hb1
  obtain ⟨k1, k2, k3, k4, k5⟩ := okm b hb1 hb2
  have hpar := pars b hb1
  have hpl := plains (mO b) n1
  have hG := good_mW hb1 hb2
  have hroom : (rmD d1 mc1 ms1).frames + 1 ≤ R.frames ∧ 8 + (mL b + 11) + (rmD d1 mc1 ms1).locals ≤ R.locals := by
    refine ⟨by show d1 + 1 ≤ _; rw [hRm.1]; omega, ?_⟩
    show 8 + (mL b + 11) + 40 * d1 ≤ R.locals
    have := hRm.2.1
    omega
  have hini : (Cond.initialized (mN b).cls).before args s = true := hts _ (inis (mO b) n1 (by
    intro q
    have hq : ∀ z, z < 190 → mO z = 10 → z = 188 := by decide +kernel
    exact hb2 (hq b hb1 q)))
  have hpre : ∀ U : State, U.heap = H → s.WarmedH U.vm → PM b D cI cC ad h as H.size (as.map (im ad)).toArray U := fun U hU hW => by
    refine ⟨rfl, by rw [hU], by rw [hU]; exact hP, va_K.moved hW.alike hK, hD.weaken (fun _ _ _ _ => trivial), fun x hx => va_Nw.warmM hW (hNK x hx), fun hy => ?_⟩
    have he : ad STR = ad0 STR := e4 STR (Or.inr (Nat.le_refl _))
    rw [he]
    exact (hSx (Or.inr (hb3 hy))).at hS hW hU hfree
  have hf9 : cells + mc1 ≤ R.cells ∧ slots + ms1 ≤ R.slots := ⟨by rw [hRm.2.2.1]; omega, by rw [hRm.2.2.2]; omega⟩
  have hW8 : 2 * (F0 m pc rs (st.map (im ad))).monitorRoom + ((st'.map (im ad)).map fun v => v.category).sum ≤ 8 := lv_room (by rw [im_sum]; exact h8)
  have hfix : CallFix p m c (mB y) (mL y) s args wl (cN (mO y)) := ⟨hx, hb, hml, hown, hts⟩
  have hW0 : mW b = Cond.code (mN b) (mB b) (mL b) (mT b) :: wl := rfl
  rcases htag with q | q | q | q | q <;> subst q
  · have hlk : (decide (((mO y, idx), b) ∈ ML) && decide (b < 190) && decide (b ≠ 188) && decide (mK b = 0) && decide (b ≠ 68)) = true := hlk
    simp only [Bool.and_eq_true, decide_eq_true_eq] at hlk
    have hk0 := hlk.1.2
    obtain ⟨ob, as', rfl, hob⟩ := hrec (by omega)
    obtain ⟨nn, hsh⟩ := hob rfl
    rw [if_neg (by omega)] at hpar
    have hw := wo_get (cI := cI) (cC := cC) (ad := ad) hsh
    rw [ce_o] at hw
    exact va_runV (n := mA b - 1) (bytes := mB b) (maxL := mL b) (ret := mT b) (C := cN (mO b)) (b := ad ob) (As := as'.map (im ad)) hfix hM ⟨callB_of (mA b - 1) hts hG hW0 rfl rfl hini (hts _ (ML_ok _ hlk.1.1.1.1)) ⟨hpl.2.1, hpl.2.2, hpar⟩ hroom, hts _ (k3 (by omega)), hts _ (k4 hk0)⟩ ⟨PM.blind, va_recv hK hP (okc (mO b) (n6 (by omega)).2).1 hw, hpre⟩ rfl (by rw [List.length_map]; simp at hal; omega) hL.1 (by rw [hst]; simp [im]) hW8 hdec hf9
  · have hlk : (decide (((mO y, idx), b) ∈ ML) && decide (b < 190) && decide (b ≠ 188) && decide (mK b = 1) && decide (b ≠ 68)) = true := hlk
    simp only [Bool.and_eq_true, decide_eq_true_eq] at hlk
    have hk0 := hlk.1.2
    rw [if_pos hk0] at hpar
    exact va_runS (n := mA b) (bytes := mB b) (maxL := mL b) (ret := mT b) (As := as.map (im ad)) hfix hM ⟨callB_of (mA b) hts hG hW0 rfl rfl hini (hts _ (ML_ok _ hlk.1.1.1.1)) ⟨hpl.2.1, hpl.2.2, hpar⟩ hroom, hts _ (k2 hk0)⟩ ⟨PM.blind, hpre⟩ rfl (by rw [List.length_map]; exact hal) hL.1 (by rw [hst]; simp) hW8 hdec hf9
  · have hlk : (decide (((mO y, idx), b) ∈ ML) && decide (b < 190) && decide (b ≠ 188) && decide (mK b = 2) && (decide (b ≠ 68) || decide (y = 188))) = true := hlk
    simp only [Bool.and_eq_true, Bool.or_eq_true, decide_eq_true_eq] at hlk
    have hk0 := hlk.1.2
    obtain ⟨ob, as', rfl, -⟩ := hrec (by omega)
    rw [if_neg (by omega)] at hpar
    have hT : mT b = none := by unfold mT; rw [if_pos (n7 hk0)]
    rw [hT] at hW0
    exact va_runI (n := mA b - 1) (bytes := mB b) (maxL := mL b) (b := ad ob) (As := as'.map (im ad)) hfix hM ⟨callB_of (mA b - 1) hts hG hW0 rfl rfl hini (hts _ (ML_ok _ hlk.1.1.1.1)) ⟨hpl.2.1, hpl.2.2, hpar⟩ hroom, k5 hk0, hts _ (k3 (by omega))⟩ ⟨PM.blind, hpre⟩ rfl (by rw [List.length_map]; simp at hal; omega) hL.1 (by rw [hst]; simp [im]) hW8 hdec hf9
  · have hlk : (decide (((mO y, idx), b) ∈ NL) && decide (b < 190) && decide (b ≠ 188) && decide (mK b = 2) && decide (b ≠ 68)) = true := hlk
    simp only [Bool.and_eq_true, decide_eq_true_eq] at hlk
    have hk0 := hlk.1.2
    obtain ⟨ob, as', rfl, -⟩ := hrec (by omega)
    rw [if_neg (by omega)] at hpar
    have hT : mT b = none := by unfold mT; rw [if_pos (n7 hk0)]
    rw [hT] at hW0
    have hnk : va_Nw (.methodLinkNest (cN (mO y)) idx (mN b) "TierPods") s := hNK ((mO y, idx), b) hlk.1.1.1.1
    exact va_runIN (host := "TierPods") (index := idx) (own := cN (mO y)) (n := mA b - 1) (bytes := mB b) (maxL := mL b) (b := ad ob) (As := as'.map (im ad)) hfix hM ⟨va_cnB (mA b - 1) hts hG hW0 rfl rfl hnk hini ⟨hpl.2.1, hpl.2.2, hpar⟩ hroom, k5 hk0, hts _ (k3 (by omega))⟩ ⟨PM.blind, hpre⟩ rfl (by rw [List.length_map]; simp at hal; omega) hL.1 (by rw [hst]; simp [im]) hW8 hdec hf9
  · have hlk : (decide (((mO y, idx), b) ∈ NL) && decide (b < 190) && decide (b ≠ 188) && decide (mK b = 1) && decide (b ≠ 68)) = true := hlk
    simp only [Bool.and_eq_true, decide_eq_true_eq] at hlk
    have hk0 := hlk.1.2
    rw [if_pos hk0] at hpar
    have hnk : va_Nw (.methodLinkNest (cN (mO y)) idx (mN b) "TierPods") s := hNK ((mO y, idx), b) hlk.1.1.1.1
    exact va_runSN (host := "TierPods") (index := idx) (own := cN (mO y)) (n := mA b) (bytes := mB b) (maxL := mL b) (ret := mT b) (As := as.map (im ad)) hfix hM ⟨va_cnB (mA b) hts hG hW0 rfl rfl hnk hini ⟨hpl.2.1, hpl.2.2, hpar⟩ hroom, hts _ (k2 hk0), trivial⟩ ⟨PM.blind, hpre⟩ rfl (by rw [List.length_map]; exact hal) hL.1 (by rw [hst]; simp) hW8 hdec hf9
theorem im_old {ad ad2 : Nat → Nat} {h : Hp} {v : VV} (ha : ∀ k, k < h.1.length ∨ STR ≤ k → ad2 k = ad k) (ho : okV h v) : im ad2 v = im ad v := by
  match v, ho with
  | .inl z, _ => rfl
  | .inr none, _ => rfl
  | .inr (some k), ho =>
    show Value.ref (ad2 k) = Value.ref (ad k)
    rw [ha k ho]
theorem s_call (C0 : Cx p R s m args meth c y d D cI cC A mc ms) {o : Op} (hcd : cd y pc = some o) {as st' : List VV} {d1 mc1 ms1 : Nat} {r1 : VV} {h1 : Hp} (hco : callOk o st as st' h) (hdd : d = d1 + 1) (hmc : mc1 ≤ bc) (hms : ms1 ≤ bs) (hSx : y = 68 ∨ y = 188 → Sx s A (ad0 STR))
    (hM : ∀ (ad : Nat → Nat) (sz : Nat), okH h → (∀ v ∈ as, okV h v) → MP l o.2.2.1 d1 D cI cC ad h as mc1 ms1 sz r1 h1) (hk : WA p l e R s m args below meth c y D cI cC A mc ms ad0 n0 Qf (pc + 3, ls, psh o.2.2.1 r1 st', h1, bc - mc1, bs - ms1)) : WA p l e R s m args below meth c y D cI cC A mc ms ad0 n0 Qf (pc, ls, st, h, bc, bs) := by
  intro ad H locs cells slots rs hR
  have hR0 := hR
  obtain ⟨hL, o1, o2, o3, hP, hD, hS, e1, e2, e3, e4⟩ := hR
  dsimp only at hL o1 o2 o3 hP hD hS e1 e2 e3 e4
  have hst := hco.2.1
  have oas : ∀ v ∈ as, okV h v := fun v hv => o2 v (by rw [hst]; exact List.mem_append_left _ (List.mem_reverse.mpr hv))
  have ost : ∀ v ∈ st', okV h v := fun v hv => o2 v (by rw [hst]; exact List.mem_append_right _ hv)
  have hA := C0.2.2.2.2.2.2.2.2.1
  have hfree : ∀ q, va_A (wo cI cC ad h) H.size q → A q := by
    rintro q (⟨k, e9, hq⟩ | hq)
    · exact hD.2 k _ hq
    · exact hA q (Nat.le_trans hS.1 hq)
  have hM := hM ad H.size o3 oas
  by_cases hz : mR o.2.2.1 = 0
  · obtain ⟨rfl, hM2⟩ := hM.1 hz
    unfold QV at hM2
    refine va_callv (cal_run C0 hcd hco hdd hR0 hmc hms hSx hM2) hS (fun q _ hq => hfree q hq) hfree (fun ad2 t H1 locs1 ht hvm hpost hB hsz hk1 hS1 => ?_)
    obtain ⟨p1, p2, p3⟩ := hpost
    obtain ⟨hP1, hD1⟩ := hB
    rw [ht] at hP1
    have hgo := hk ad2 H1 locs1 (cells + mc1) (slots + ms1) rs ⟨hL.ext (fun v hv => im_old p3 (o1 v hv)), fun v hv => okV.grow p2 (o1 v hv), fun v hv => by
      have hv : v ∈ psh o.2.2.1 (.inr none) st' := hv
      rw [psh, if_pos hz] at hv
      exact okV.grow p2 (ost v hv), p1, hP1, hD1.weaken (fun _ _ _ q => hfree _ q), hS1, by dsimp only; omega, by dsimp only; omega, Nat.le_trans e3 p2, fun k hk9 => by
        rw [p3 k (by omega)]
        exact e4 k hk9⟩
    dsimp only at hgo
    rw [psh, if_pos hz, map_ext (fun v hv => im_old p3 (ost v hv))] at hgo
    exact hgo
  · obtain ⟨z, rfl, hM2⟩ := hM.2 hz
    unfold QI at hM2
    refine va_calli (cal_run C0 hcd hco hdd hR0 hmc hms hSx hM2) hS (fun q _ hq => hfree q hq) hfree (fun rr ad2 t H1 locs1 ht hvm hpost hB hsz hk1 hS1 => ?_)
    obtain ⟨rfl, pz, p1, p2, p3⟩ := hpost
    obtain ⟨hP1, hD1⟩ := hB
    rw [ht] at hP1
    have hgo := hk ad2 H1 locs1 (cells + mc1) (slots + ms1) rs ⟨hL.ext (fun v hv => im_old p3 (o1 v hv)), fun v hv => okV.grow p2 (o1 v hv), fun v hv => by
      have hv : v ∈ psh o.2.2.1 (.inl z) st' := hv
      rw [psh, if_neg hz] at hv
      rcases List.mem_cons.mp hv with q | q
      · subst q; exact pz
      · exact okV.grow p2 (ost v q), p1, hP1, hD1.weaken (fun _ _ _ q => hfree _ q), hS1, by dsimp only; omega, by dsimp only; omega, Nat.le_trans e3 p2, fun k hk9 => by
        rw [p3 k (by omega)]
        exact e4 k hk9⟩
    dsimp only at hgo
    rw [psh, if_neg hz, List.map_cons, map_ext (fun v hv => im_old p3 (ost v hv))] at hgo
    exact hgo
end SND
