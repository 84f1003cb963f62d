/-! ===== the text constant ===== -/
section SND
variable {p : Program} {l : Launch} {e : Env} {R : Room} {s : State} {m : MethodId} {args : Array Value} {below : List Frame} {meth : Method} {c : Code} {y d : Nat} {D : va_G} {cI cC : ClassId} {A : Nat → Prop} {mc ms : Nat} {ad0 : Nat → Nat} {n0 : Nat} {Qf : State → Prop}
variable {pc : Nat} {ls st : List VV} {h : Hp} {bc bs : Nat} {t : St}
theorem s_ldcS (C0 : Cx p R s m args meth c y d D cI cC A mc ms) (hy : y = 68) (hd1 : 1 ≤ d) (hSx : Sx s A (ad0 STR)) (hd : decode (mB y) pc = .ok ((.ldc 78, 2))) (hn : n_ldcS pc ls st h bc bs t) (hk : WA p l e R s m args below meth c y D cI cC A mc ms ad0 n0 Qf (t)) : WA p l e R s m args below meth c y D cI cC A mc ms ad0 n0 Qf (pc, ls, st, h, bc, bs) := by
  sorry
theorem s_sLen (C0 : Cx p R s m args meth c y d D cI cC A mc ms) (hy : y = 68) (hd1 : 1 ≤ d) (hSx : Sx s A (ad0 STR)) (hd : decode (mB y) pc = .ok ((.invokevirtual 80, 3))) (hn : n_sLen pc ls st h bc bs t) (hk : WA p l e R s m args below meth c y D cI cC A mc ms ad0 n0 Qf (t)) : WA p l e R s m args below meth c y D cI cC A mc ms ad0 n0 Qf (pc, ls, st, h, bc, bs) := by
  sorry
theorem s_sCh (C0 : Cx p R s m args meth c y d D cI cC A mc ms) (hy : y = 68) (hd1 : 1 ≤ d) (hSx : Sx s A (ad0 STR)) (hd : decode (mB y) pc = .ok ((.invokevirtual 86, 3))) (hn : n_sCh pc ls st h bc bs t) (hk : WA p l e R s m args below meth c y D cI cC A mc ms ad0 n0 Qf (t)) : WA p l e R s m args below meth c y D cI cC A mc ms ad0 n0 Qf (pc, ls, st, h, bc, bs) := by
  sorry
end SND
