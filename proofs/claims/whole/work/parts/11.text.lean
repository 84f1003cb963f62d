/-! ===== the text constant ===== -/
section SND
variable {p : Program} {l : Launch} {e : Env} {R : Room} {s : State} {m : MethodId} {args : Array Value} {below : List Frame} {meth : Method} {c : Code} {y d : Nat} {D : va_G} {cI cC : ClassId} {A : Nat → Prop} {mc ms : Nat} {ad0 : Nat → Nat} {n0 : Nat} {Qf : State → Prop}
variable {pc : Nat} {ls st : List VV} {h : Hp} {bc bs : Nat} {t : St}
theorem s_ldcS (C0 : Cx p R s m args meth c y d D cI cC A mc ms) (hy : y = 68) (hd5 : 5 ≤ d) (hSx : Sx s A (ad0 STR)) (hd : decode (mB y) pc = .ok ((.ldc 78, 2))) (hn : n_ldcS pc ls st h bc bs t) (hk : WA p l e R s m args below meth c y D cI cC A mc ms ad0 n0 Qf (t)) : WA p l e R s m args below meth c y D cI cC A mc ms ad0 n0 Qf (pc, ls, st, h, bc, bs) := by
  subst hy
  have hn : t = (pc + 2, ls, .inr (some STR) :: st, h, bc, bs) := hn
  subst hn
  obtain ⟨hx, hb, hml, hown, hts, hK, hRm, hin, hA, hNK⟩ := C0
  have hown : s.vm.findClass "TierPods" = some m.cls := hown
  intro ad H locs cells slots rs hR
  obtain ⟨hL, o1, o2, o3, hP, hD, hS, e1, e2, e3, e4⟩ := hR
  dsimp only at hL o1 o2 o3 hP hD hS e1 e2 e3 e4
  have hs : ad STR = ad0 STR := e4 STR (Or.inr (Nat.le_refl _))
  have hgo := hk ad H locs cells slots rs ⟨hL, o1, al_cons (show okV h (.inr (some STR)) from Or.inr (Nat.le_refl _)) o2, o3, hP, hD, hS, e1, e2, e3, e4⟩
  have hgo : W p l e R s m args below meth c H locs cells slots Qf (F0 m (pc + 2) rs (.ref (ad STR) :: st.map (im ad))) := hgo
  rw [hs] at hgo
  exact va_ldcS hx hb hown hSx.1 hd hgo
theorem s_sLen (C0 : Cx p R s m args meth c y d D cI cC A mc ms) (hy : y = 68) (hd5 : 5 ≤ d) (hSx : Sx s A (ad0 STR)) (hd : decode (mB y) pc = .ok ((.invokevirtual 80, 3))) (hn : n_sLen pc ls st h bc bs t) (hk : WA p l e R s m args below meth c y D cI cC A mc ms ad0 n0 Qf (t)) : WA p l e R s m args below meth c y D cI cC A mc ms ad0 n0 Qf (pc, ls, st, h, bc, bs) := by
  subst hy
  obtain ⟨st', rfl, h8, rfl⟩ := hn
  obtain ⟨_, ⟨v, hv⟩, hz, hzq⟩ := hSx
  have hJ : JB (ad0 STR) v A s s.heap := ⟨hz, hzq, hv⟩
  obtain ⟨hx, hb, hml, hown, hts, hK, hRm, hin, hA, hNK⟩ := C0
  have hown : s.vm.findClass "TierPods" = some m.cls := hown
  intro ad H locs cells slots rs hR
  obtain ⟨hL, o1, o2, o3, hP, hD, hS, e1, e2, e3, e4⟩ := hR
  dsimp only at hL o1 o2 o3 hP hD hS e1 e2 e3 e4
  have hs : ad STR = ad0 STR := e4 STR (Or.inr (Nat.le_refl _))
  have o2' : ∀ w ∈ st', okV h w := fun w hw => o2 w (List.mem_cons_of_mem _ hw)
  show W p l e R s m args below meth c H locs cells slots Qf (F0 m pc rs (.ref (ad STR) :: st'.map (im ad)))
  rw [hs]
  have hfix : CallFix p m c (mB 68) (mL 68) s args wl "TierPods" := ⟨hx, hb, hml, hown, hts⟩
  refine va_calli (va_runV (n := 0) (bytes := prog_13_method_54_code) (maxL := 1) (ret := some .int) (C := "java/lang/String") (b := ad0 STR) (As := []) (rest := st'.map (im ad)) hfix (jm6 (v := v)) ⟨callB_of 0 hts jg6 rfl rfl rfl (hts _ q_i1) (hts _ q_l6) ⟨by decide, by decide, by decide +kernel⟩ ⟨by show 1 + 1 ≤ R.frames; rw [hRm.1]; omega, by show 8 + (1 + 11) + 40 * 1 ≤ R.locals; have := hRm.2.1; omega⟩, hts _ q_m6, hts _ q_s6⟩ ⟨jP.blind, vk_recv hJ.2.2 (i := 0) (by decide) hS, fun U hU hW => ⟨rfl, hJ.at hS hW hU (fun _ z => z.elim)⟩⟩ rfl rfl hL.1 rfl (lv_room (by rw [im_sum]; exact h8)) hd ⟨by rw [hRm.2.2.1]; omega, by rw [hRm.2.2.2]; omega⟩) hS (fun _ _ z => z.elim) (fun _ z => z.elim) (fun r u t H1 locs1 ht hvm hpost hB hsz hk1 hS1 => ?_)
  subst hpost
  rw [show (67 : Int32) = Int32.ofInt 67 by decide]
  exact hk ad H1 locs1 cells slots rs ⟨hL, o1, al_cons (show inR 67 from ⟨by decide, by decide⟩) o2', o3, hP.kept (fun k x hx => hk1 x.1 ((hP k x hx).lt) (fun z => z)), hD, hS1, e1, e2, e3, e4⟩
theorem s_sCh (C0 : Cx p R s m args meth c y d D cI cC A mc ms) (hy : y = 68) (hd5 : 5 ≤ d) (hSx : Sx s A (ad0 STR)) (hd : decode (mB y) pc = .ok ((.invokevirtual 86, 3))) (hn : n_sCh pc ls st h bc bs t) (hk : WA p l e R s m args below meth c y D cI cC A mc ms ad0 n0 Qf (t)) : WA p l e R s m args below meth c y D cI cC A mc ms ad0 n0 Qf (pc, ls, st, h, bc, bs) := by
  subst hy
  obtain ⟨i, b, st', rfl, h8, hib, rfl⟩ := hn
  obtain ⟨_, ⟨v, hv⟩, hz, hzq⟩ := hSx
  have hJ : JB (ad0 STR) v A s s.heap := ⟨hz, hzq, hv⟩
  have hi : i < 67 := (List.getElem?_eq_some_iff.mp hib).1
  have hb9 : txt0.getD i 0 = b := by rw [List.getD_eq_getElem?_getD, hib]; rfl
  have hbr : ∀ k, k < 67 → txt0.getD k 0 < 256 := by decide
  have hb8 := hbr i hi
  rw [hb9] at hb8
  obtain ⟨hx, hb, hml, hown, hts, hK, hRm, hin, hA, hNK⟩ := C0
  have hown : s.vm.findClass "TierPods" = some m.cls := hown
  intro ad H locs cells slots rs hR
  obtain ⟨hL, o1, o2, o3, hP, hD, hS, e1, e2, e3, e4⟩ := hR
  dsimp only at hL o1 o2 o3 hP hD hS e1 e2 e3 e4
  have hs : ad STR = ad0 STR := e4 STR (Or.inr (Nat.le_refl _))
  have o2' : ∀ w ∈ st', okV h w := fun w hw => o2 w (List.mem_cons_of_mem _ (List.mem_cons_of_mem _ hw))
  show W p l e R s m args below meth c H locs cells slots Qf (F0 m pc rs (.int (Int32.ofInt i) :: .ref (ad STR) :: st'.map (im ad)))
  rw [hs]
  have hfix : CallFix p m c (mB 68) (mL 68) s args wl "TierPods" := ⟨hx, hb, hml, hown, hts⟩
  refine va_calli (va_runV (n := 1) (bytes := prog_13_method_56_code) (maxL := 2) (ret := some .char) (C := "java/lang/String") (b := ad0 STR) (As := [.int (Int32.ofInt i)]) (rest := st'.map (im ad)) hfix (jm7 (v := v) hi) ⟨callB_of 1 hts jg7 rfl rfl rfl (hts _ q_i1) (hts _ q_l7) ⟨by decide, by decide, by decide +kernel⟩ ⟨by show 3 + 1 ≤ R.frames; rw [hRm.1]; omega, by show 8 + (2 + 11) + 40 * 3 ≤ R.locals; have := hRm.2.1; omega⟩, hts _ q_m7, hts _ q_s7⟩ ⟨jP.blind, vk_recv hJ.2.2 (i := 0) (by decide) hS, fun U hU hW => ⟨rfl, hJ.at hS hW hU (fun _ z => z.elim)⟩⟩ rfl rfl hL.1 rfl (lv_room (by rw [im_sum]; exact h8)) hd ⟨by rw [hRm.2.2.1]; omega, by rw [hRm.2.2.2]; omega⟩) hS (fun _ _ z => z.elim) (fun _ z => z.elim) (fun r u t H1 locs1 ht hvm hpost hB hsz hk1 hS1 => ?_)
  subst hpost
  rw [hb9]
  exact hk ad H1 locs1 cells slots rs ⟨hL, o1, al_cons (show inR (b : Int) from ⟨by omega, by omega⟩) o2', o3, hP.kept (fun k x hx => hk1 x.1 ((hP k x hx).lt) (fun z => z)), hD, hS1, e1, e2, e3, e4⟩
end SND
