/-! ===== the start: what the Statement gives of the text ===== -/
theorem wh_1 : Cond.exactly (.string "TierPods" 78) "java/lang/String" ∈ flatC (Jvm.Cond.and given_1 narrow_1) := by decide +kernel
theorem wh_2 : Cond.eq (.field (.string "TierPods" 78) "java/lang/String" "coder" "B") (.int 0) ∈ flatC (Jvm.Cond.and given_1 narrow_1) := by decide +kernel
theorem wh_3 : Cond.arrayOf (.field (.string "TierPods" 78) "java/lang/String" "value" "[B") .byte ∈ flatC (Jvm.Cond.and given_1 narrow_1) := by decide +kernel
theorem wh_4 : Cond.eq (.length (.field (.string "TierPods" 78) "java/lang/String" "value" "[B")) (.int 67) ∈ flatC (Jvm.Cond.and given_1 narrow_1) := by decide +kernel
theorem wh_5 : Cond.eq (.static "java/lang/String" "COMPACT_STRINGS" "Z") (.int 1) ∈ flatC (Jvm.Cond.and given_1 narrow_1) := by decide +kernel
theorem wh_6 : Cond.isRef (.static "jdk/internal/util/Preconditions" "SIOOBE_FORMATTER" "Ljava/util/function/BiFunction;") ∈ flatC (Jvm.Cond.and given_1 narrow_1) := by decide +kernel
theorem wh_el : ∀ j : Nat, j < 67 → Cond.eq (.elem (.field (.string "TierPods" 78) "java/lang/String" "value" "[B") (.int (Int32.ofNat j))) (.int (txtI.getD j 0)) ∈ flatC (Jvm.Cond.and given_1 narrow_1) := by decide +kernel
/-! THE CLAIM OUT OF ONE WALK OF THE LAW'S BODY. Your part is whole_start (and what it stands on); all else here is the same for every law, but numbers. -/
def R_law : String := "TierPodsLaw"
def lw_P (b : Addr) (xs : List Int32) (args : Array Value) (s : State) : Prop := args = #[.ref b] ∧ s.IntsAt b xs ∧ xs.length ≤ 2560 ∧ (Jvm.Cond.and given_1 narrow_1).before args s = true
def lw_Q (_ : Array Value) (s : State) (o : Outcome) (t : State) : Prop := o = .returned (some (.int 1)) ∧ Framed s o t [] 600000 7302250
def lw_Z (below : List Frame) (a : Array Value) (s : State) : State → Prop := fun t => ∃ o, t.status = .running ∧ Ended t below o ∧ lw_Q a s o t
/-- the law's own end, with 1 on the stack, nothing written that was there before, its room as the claim has it -/
theorem lw_ret {p : Program} {l : Launch} {e : Env} {s : State} {m : MethodId} {below : List Frame} {meth : Method} {c : Code} {b : Nat} (hx : p.tables.exec = Jvm.exec) (hb : c.code = code) (hr : meth.sig.returnType = ret) (hlocks : meth.locks = false) {pc : Nat} {H : Heap} {ls : Array Slot} (hdg : decode code pc = .ok (.ireturn, 1)) : W p l e room_1 s m #[Value.ref b] below meth c H [] 600000 7302250 (lw_Z below #[Value.ref b] s) (F0 m pc ls [.int 1]) := by
  intro T hT X
  obtain ⟨fs, hret, hrun, hended, hW, hframe⟩ := X.leave (v := some (.int 1)) (hlocks := hlocks) (fun h => by rw [hr] at h; cases h)
  have hmeth' : T.vm.method? m = some meth := X.method'
  refine ⟨T.setFrames fs, ?_, .returned (some (.int 1)), hrun, hended, rfl, ⟨_, rfl⟩, hW, hframe⟩
  jvm_step X.here [X.here.top, hx, hb, hdg, hmeth', hr, ret, narrow_b1]
  (try refine ⟨rfl, ?_⟩); (try refine ⟨rfl, ?_⟩)
  first | (intro acts; rw [hret _ acts rfl rfl rfl]) | rw [hret _ _ rfl rfl rfl]
  exact Steps.refl _
/-- what holds at the law's entry: the machine, the code, the tables' words (any of lw_tbl by 'hts w (by decide +kernel)'), the script of L ints xs at the cell b, what the Statement gives of the start (any of its parts by flat_of_before) -/
def lw_At (p : Program) (s : State) (m : MethodId) (meth : Method) (c : Code) (b L : Nat) (xs : Nat → Int32) : Prop :=
  p.tables.exec = Jvm.exec ∧ c.code = code ∧ meth.sig.returnType = ret ∧ c.maxLocals = 4 ∧ s.vm.findClass R_law = some m.cls ∧ (∀ w ∈ lw_tbl, w.before #[Value.ref b] s = true) ∧ va_X b L xs s s.heap ∧ b < s.heap.size ∧ meth.locks = false ∧ (Jvm.Cond.and given_1 narrow_1).before #[Value.ref b] s = true
/-- YOUR PART: from the entry, for every script of at most 2560 ints, the law comes to its end with true ('hflags': the launch's flags, for a law that throws: no stack traces) -/
theorem whole_start {p : Program} {e : Env} {s : State} {m : MethodId} {below : List Frame} {meth : Method} {c : Code} (l : Launch) (hflags : l.flags = flags0) {b L : Nat} {xs : Nat → Int32} (hL : L ≤ 2560) (C0 : lw_At p s m meth c b L xs) : W p l e room_1 s m #[Value.ref b] below meth c s.heap [] 0 0 (lw_Z below #[Value.ref b] s) (entryFrame m ([Value.ref b] : List Value).toArray 4) := by
  obtain ⟨hx, hb, hr, hml, hown, hts, hX, hbl, hlocks, hgv⟩ := id C0
  have hwl : ∀ w ∈ wl, w.before #[Value.ref b] s = true := fun w hw => hts w (List.mem_filter.mp hw).1
  have hfl := flat_of_before _ hgv
  have hA0 : ∀ q : Nat, s.heap.size ≤ q → (fun q : Nat => s.heap.size ≤ q) q := fun _ h => h
  have hAn : ∀ a : Nat, a < s.heap.size → ¬ (fun q : Nat => s.heap.size ≤ q) a := fun a h => Nat.not_le.mpr h
  obtain ⟨cI, kI, pI, fI1, fI2, fI3⟩ := Cond.arrayClass_spec (hwl _ w_arr.1)
  obtain ⟨cC, kC, pC, fC1, fC2, fC3⟩ := Cond.arrayClass_spec (hwl _ w_arr.2)
  obtain ⟨c0, iS0, hKn0⟩ := u_known (C := cN 0) (T := cT 0) (N := nF 0) (n := nF 0) hwl lay_0 (hwl _ ik_0.1)
  obtain ⟨c1, iS1, hKn1⟩ := u_known (C := cN 1) (T := cT 1) (N := nF 1) (n := nF 1) hwl lay_1 (hwl _ ik_1.1)
  obtain ⟨c2, iS2, hKn2⟩ := u_known (C := cN 2) (T := cT 2) (N := nF 2) (n := nF 2) hwl lay_2 (hwl _ ik_2.1)
  obtain ⟨c3, iS3, hKn3⟩ := u_known (C := cN 3) (T := cT 3) (N := nF 3) (n := nF 3) hwl lay_3 (hwl _ ik_3.1)
  obtain ⟨c4, iS4, hKn4⟩ := u_known (C := cN 4) (T := cT 4) (N := nF 4) (n := nF 4) hwl lay_4 (hwl _ ik_4.1)
  obtain ⟨c5, iS5, hKn5⟩ := u_known (C := cN 5) (T := cT 5) (N := nF 5) (n := nF 5) hwl lay_5 (hwl _ ik_5.1)
  obtain ⟨c6, iS6, hKn6⟩ := u_known (C := cN 6) (T := cT 6) (N := nF 6) (n := nF 6) hwl lay_6 (hwl _ ik_6.1)
  obtain ⟨c7, iS7, hKn7⟩ := u_known (C := cN 7) (T := cT 7) (N := nF 7) (n := nF 7) hwl lay_7 (hwl _ ik_7.1)
  obtain ⟨c8, iS8, hKn8⟩ := u_known (C := cN 8) (T := cT 8) (N := nF 8) (n := nF 8) hwl lay_8 (hwl _ ik_8.1)
  obtain ⟨c9, iS9, hKn9⟩ := u_known (C := cN 9) (T := cT 9) (N := nF 9) (n := nF 9) hwl lay_9 (hwl _ ik_9.1)
  obtain ⟨dC, dI, hKc⟩ : ∃ (dC : Nat → ClassId) (dI : Nat → Nat → Nat), ∀ (k : Nat) (q : vw_C), classes[k]? = some q → u_Kn s q.1 q.2.1 q.2.2 (dC k) (dI k) := by
    refine ⟨fun k => if k = 0 then c0 else if k = 1 then c1 else if k = 2 then c2 else if k = 3 then c3 else if k = 4 then c4 else if k = 5 then c5 else if k = 6 then c6 else if k = 7 then c7 else if k = 8 then c8 else c9, fun k => if k = 0 then iS0 else if k = 1 then iS1 else if k = 2 then iS2 else if k = 3 then iS3 else if k = 4 then iS4 else if k = 5 then iS5 else if k = 6 then iS6 else if k = 7 then iS7 else if k = 8 then iS8 else iS9, ?_⟩
    intro k q hq
    match k, hq with
    | 0, hq => cases hq; exact hKn0
    | 1, hq => cases hq; exact hKn1
    | 2, hq => cases hq; exact hKn2
    | 3, hq => cases hq; exact hKn3
    | 4, hq => cases hq; exact hKn4
    | 5, hq => cases hq; exact hKn5
    | 6, hq => cases hq; exact hKn6
    | 7, hq => cases hq; exact hKn7
    | 8, hq => cases hq; exact hKn8
    | 9, hq => cases hq; exact hKn9
    | k + 10, hq => simp [classes] at hq
  have hK : va_K (dC, dI) classes [(cI, .int), (cC, .char)] s := ⟨hKc, fun k q h => by
    match k, h with
    | 0, h => cases h; exact ⟨fun n z => ⟨fun k h => (by cases h), kI, fI2, pI, fI3⟩, fI1⟩
    | 1, h => cases h; exact ⟨fun n z => ⟨fun k h => (by cases h), kC, fC2, pC, fC3⟩, fC1⟩
    | k + 2, h => simp at h⟩
  obtain ⟨adK, adV, hS1, hS2⟩ := vk_Sof (args := #[Value.ref b]) (s := s) (N := 1) (tm := fun _ => .string "TierPods" 78) (len := [67]) (byt := [txtI]) (A := fun q : Nat => s.heap.size ≤ q) (fun i hi => by rw [show i = 0 by omega]; decide) (fun i _ => (hfl (Cond.exactly (.string "TierPods" 78) "java/lang/String") wh_1)) (fun i _ => (hfl (Cond.eq (.field (.string "TierPods" 78) "java/lang/String" "coder" "B") (.int 0)) wh_2)) (fun i _ => (hfl (Cond.arrayOf (.field (.string "TierPods" 78) "java/lang/String" "value" "[B") .byte) wh_3)) (fun i hi => by rw [show i = 0 by omega]; exact (hfl (Cond.eq (.length (.field (.string "TierPods" 78) "java/lang/String" "value" "[B")) (.int 67)) wh_4)) (fun i hi j hj => by rw [show i = 0 by omega] at hj ⊢; exact hfl _ (wh_el j hj)) (fun i j hi hj hij => absurd (show i = j by omega) hij) hAn
  have hSx : Sx s (fun q : Nat => s.heap.size ≤ q) (adK 0) := by
    refine ⟨vk_R.of (A := #[Value.ref b]) (hts _ (List.mem_append_right _ (List.mem_of_getElem? (i := 289) (by decide +kernel)))) (hS2 0 (by decide)), ⟨adV 0, ⟨fun i hi => ?_, fun i j hi hj _ => by omega⟩⟩, va_Zof (hts _ (List.mem_append_right _ (List.mem_of_getElem? (i := 299) (by decide +kernel)))) (hts _ (List.mem_append_right _ (List.mem_of_getElem? (i := 10) (by decide +kernel)))) (va_eqt (hfl (Cond.eq (.static "java/lang/String" "COMPACT_STRINGS" "Z") (.int 1)) wh_5)) hAn, va_Zqof (hts _ (List.mem_append_right _ (List.mem_of_getElem? (i := 315) (by decide +kernel)))) (hts _ (List.mem_append_right _ (List.mem_of_getElem? (i := 12) (by decide +kernel)))) (hfl (Cond.isRef (.static "jdk/internal/util/Preconditions" "SIOOBE_FORMATTER" "Ljava/util/function/BiFunction;")) wh_6) hAn⟩
    rw [show i = 0 by omega]
    exact hS1.1 0 (by decide)
  have hXX : Xx (L, fun j => (xs j.toNat).toInt) s (fun q : Nat => s.heap.size ≤ q) b := by
    refine ⟨hbl, hAn b hbl, ?_, by show L ≤ 100000; omega, fun i => ⟨?_, ?_⟩⟩
    · obtain ⟨scr, x1, x2, x3, x4, x5⟩ := hX
      refine ⟨scr, x1, x2, x3, x4, fun j hj => ?_⟩
      rw [x5 j hj]
      simp
    · have := (xs i.toNat).minValue_le_toInt
      simpa using this
    · have := (xs i.toNat).toInt_lt
      simpa using this
  have hC : Cx p room_1 s m #[Value.ref b] meth c 188 11 (dC, dI) cI cC (fun q : Nat => s.heap.size ≤ q) 600000 7302250 := ⟨hx, hb, hml, hown, hwl, hK, ⟨rfl, Nat.le_of_ble_eq_true rfl, rfl, rfl⟩, fun h => absurd h (by decide), hA0, fun e he => hts _ (NL_ok e he)⟩
  obtain ⟨n, r, h', hrun, hr1⟩ := m188 (X := (L, fun j => (xs j.toNat).toInt)) (d := 1) (R := fun _ _ => none) (I := fun _ _ => 0) hL (bc := 600000) (bs := 7302250) (by omega)
  have hr1 : r = .inl 1 := hr1
  subst hr1
  have hRH : RH p l e room_1 s m #[Value.ref b] below meth c 188 (dC, dI) cI cC (fun q : Nat => s.heap.size ≤ q) 600000 7302250 (fun k => if k = SCR then b else adK 0) 0 (lw_Z below #[Value.ref b] s) (.inl 1) h' := by
    intro pc ls st bc bs ad H locs cells slots rs hR hend
    obtain ⟨hL9, o1, o2, o3, hP, hD, hS, e1, e2, e3, e4⟩ := hR
    dsimp only at e1 e2
    rcases hend with ⟨z, q, rfl, -, -, hdec⟩ | ⟨q, -⟩
    · have q : 1 = z := by injection q
      subst q
      refine va_forget (fun q hq => hS.2.2 q hq) ?_
      refine W.widen (k := 600000) (n := 7302250) (by omega) (by omega) ?_
      exact lw_ret hx hb hr hlocks hdec
    · cases q
  have hw := snd (L, fun j => (xs j.toNat).toInt) l n hrun (e := e) (below := below) (ad0 := fun k => if k = SCR then b else adK 0) (n0 := 0) hC (fun _ => by rw [if_pos rfl]; exact hXX) (fun _ => by rw [if_neg (by decide)]; exact hSx) ⟨fun h => absurd h (by decide), fun _ => by decide⟩ hRH
  have hl := lv_entry [Value.ref b] (n := 4) (Nat.le_of_ble_eq_true rfl)
  rw [lg_entry_eq]
  generalize (lg_sl [Value.ref b] ++ List.replicate (4 - (lg_sl [Value.ref b]).length) Slot.unset).toArray = rs at hl ⊢
  have hok : okH ([], fun _ _ => none, fun _ _ => 0) := by
    refine ⟨fun _ _ => inR_0, fun a f k h => ?_, fun a q h => ?_, Nat.zero_le _, fun a q h => ?_⟩
    · exact absurd h (by simp)
    · exact absurd h (by simp)
    · exact absurd h (by simp)
  have hwo : wo cI cC (fun k => if k = SCR then b else adK 0) ([], fun _ _ => none, fun _ _ => 0) = [] := rfl
  have hP0 : va_P (dC, dI) classes (wo cI cC (fun k => if k = SCR then b else adK 0) ([], fun _ _ => none, fun _ _ => 0)) s.heap := by
    rw [hwo]; exact fun k q h => absurd h (by simp)
  have hD0 : va_D (fun q : Nat => s.heap.size ≤ q) (wo cI cC (fun k => if k = SCR then b else adK 0) ([], fun _ _ => none, fun _ _ => 0)) := by
    rw [hwo]; exact ⟨fun i j p q h => absurd h (by simp), fun k q h => absurd h (by simp)⟩
  refine hw (fun k => if k = SCR then b else adK 0) s.heap [] 0 0 rs ⟨ent_Lc (b := 188) (as := [.inr (some SCR)]) (by decide) hl, ent_ok (b := 188) (as := [.inr (some SCR)]) (fun v hv => ?_), fun v hv => absurd hv (by simp), hok, hP0, hD0, va_S.rf, rfl, rfl, Nat.le_refl _, fun _ _ => rfl⟩
  rw [List.mem_singleton.mp hv]
  exact Or.inr (by decide)
