/-! ===== RULES over runs: WP, one an op ===== -/
def WP (X : Nat × (Int → Int)) (d y pc : Nat) (ls st : List VV) (h : Hp) (bc bs : Nat) (Q : VV → Hp → Prop) : Prop := ∃ (n : Nat) (r : VV) (h' : Hp), run X n d y pc ls st h bc bs r h' ∧ Q r h'
def WPM (X : Nat × (Int → Int)) (d y : Nat) (as : List VV) (h : Hp) (bc bs : Nat) (Q : VV → Hp → Prop) : Prop := WP X d y 0 (ent y as) [] h bc bs Q
section RUL
variable {X : Nat × (Int → Int)} {d y pc pc' : Nat} {ls ls' st : List VV} {h : Hp} {bc bs : Nat} {Q : VV → Hp → Prop}
theorem WP.mono {Q' : VV → Hp → Prop} (w : WP X d y pc ls st h bc bs Q) (hq : ∀ r h', Q r h' → Q' r h') : WP X d y pc ls st h bc bs Q' := by
  obtain ⟨n, r, h', q1, q2⟩ := w
  exact ⟨n, r, h', q1, hq r h' q2⟩
theorem wp_nx {o : Op} {t : St} (hc : cd y pc = some o) (hn : nx X o pc ls st h bc bs t) (k : WP X (d + 1) y t.1 t.2.1 t.2.2.1 t.2.2.2.1 t.2.2.2.2.1 t.2.2.2.2.2 Q) : WP X (d + 1) y pc ls st h bc bs Q := by
  obtain ⟨n, r, h', q1, q2⟩ := k
  exact ⟨n + 1, r, h', ⟨o, hc, Or.inr (Or.inr (Or.inl ⟨t, by omega, hn, q1⟩))⟩, q2⟩
theorem w_iload {a : Nat} {v : Int} (hc : cd y pc = some (0, a, 0, 0, 0, [])) (hp : pc + (if a < 4 then 1 else 2) = pc') (hv : ls[a]? = some (.inl v)) (kk : WP X (d + 1) y pc' ls (.inl v :: st) h bc bs Q) : WP X (d + 1) y pc ls (st) h bc bs Q := by
  subst hp
  exact wp_nx hc (show n_iload a pc ls st h bc bs _ from ⟨v, hv, rfl⟩) kk
theorem w_aload {a : Nat} {v : Nat} (hc : cd y pc = some (1, a, 0, 0, 0, [])) (hp : pc + (if a < 4 then 1 else 2) = pc') (hv : ls[a]? = some (.inr (some v))) (kk : WP X (d + 1) y pc' ls (.inr (some v) :: st) h bc bs Q) : WP X (d + 1) y pc ls (st) h bc bs Q := by
  subst hp
  exact wp_nx hc (show n_aload a pc ls st h bc bs _ from ⟨v, hv, rfl⟩) kk
theorem w_istore {a : Nat} {v : Int} (hc : cd y pc = some (2, a, 0, 0, 0, [])) (hp : pc + (if a < 4 then 1 else 2) = pc') (hl : ls.set a (.inl v) = ls') (ha : Nat.ble (a + 1) ls.length = true) (k : WP X (d + 1) y pc' ls' st h bc bs Q) : WP X (d + 1) y pc ls (.inl v :: st) h bc bs Q := by
  subst hp
  subst hl
  exact wp_nx hc (show n_istore a pc ls (.inl v :: st) h bc bs _ from ⟨v, st, rfl, Nat.le_of_ble_eq_true ha, rfl⟩) k
theorem w_astore {a v : Nat} (hc : cd y pc = some (3, a, 0, 0, 0, [])) (hp : pc + (if a < 4 then 1 else 2) = pc') (hl : ls.set a (.inr (some v)) = ls') (ha : Nat.ble (a + 1) ls.length = true) (k : WP X (d + 1) y pc' ls' st h bc bs Q) : WP X (d + 1) y pc ls (.inr (some v) :: st) h bc bs Q := by
  subst hp
  subst hl
  exact wp_nx hc (show n_astore a pc ls (.inr (some v) :: st) h bc bs _ from ⟨v, st, rfl, Nat.le_of_ble_eq_true ha, rfl⟩) k
theorem w_c1 {z : Int} (hc : cd y pc = some (4, 0, 0, 0, z, [])) (hp : pc + 1 = pc')  (kk : WP X (d + 1) y pc' ls (.inl z :: st) h bc bs Q) : WP X (d + 1) y pc ls (st) h bc bs Q := by
  subst hp
  exact wp_nx hc (show n_const 1 z pc ls st h bc bs _ from rfl) kk
theorem w_c2 {z : Int} (hc : cd y pc = some (5, 0, 0, 0, z, [])) (hp : pc + 2 = pc')  (kk : WP X (d + 1) y pc' ls (.inl z :: st) h bc bs Q) : WP X (d + 1) y pc ls (st) h bc bs Q := by
  subst hp
  exact wp_nx hc (show n_const 2 z pc ls st h bc bs _ from rfl) kk
theorem w_c3 {z : Int} (hc : cd y pc = some (6, 0, 0, 0, z, [])) (hp : pc + 3 = pc')  (kk : WP X (d + 1) y pc' ls (.inl z :: st) h bc bs Q) : WP X (d + 1) y pc ls (st) h bc bs Q := by
  subst hp
  exact wp_nx hc (show n_const 3 z pc ls st h bc bs _ from rfl) kk
theorem w_ldc {a : Nat} {z : Int} (hc : cd y pc = some (7, a, 0, 0, z, [])) (hp : pc + 2 = pc')  (kk : WP X (d + 1) y pc' ls (.inl z :: st) h bc bs Q) : WP X (d + 1) y pc ls (st) h bc bs Q := by
  subst hp
  exact wp_nx hc (show n_const 2 z pc ls st h bc bs _ from rfl) kk
theorem w_iadd {x z : Int} (hc : cd y pc = some (8, 0, 0, 0, 0, [])) (hp : pc + 1 = pc') (hr : inR (x + z)) (kk : WP X (d + 1) y pc' ls (.inl (x + z) :: st) h bc bs Q) : WP X (d + 1) y pc ls (.inl z :: .inl x :: st) h bc bs Q := by
  subst hp
  exact wp_nx hc (show n_bin (fun x y => x + y) (fun x y => inR (x + y)) pc ls (.inl z :: .inl x :: st) h bc bs _ from ⟨x, z, st, rfl, hr, rfl⟩) kk
theorem w_isub {x z : Int} (hc : cd y pc = some (9, 0, 0, 0, 0, [])) (hp : pc + 1 = pc') (hr : inR (x - z)) (kk : WP X (d + 1) y pc' ls (.inl (x - z) :: st) h bc bs Q) : WP X (d + 1) y pc ls (.inl z :: .inl x :: st) h bc bs Q := by
  subst hp
  exact wp_nx hc (show n_bin (fun x y => x - y) (fun x y => inR (x - y)) pc ls (.inl z :: .inl x :: st) h bc bs _ from ⟨x, z, st, rfl, hr, rfl⟩) kk
theorem w_imul {x z : Int} (hc : cd y pc = some (10, 0, 0, 0, 0, [])) (hp : pc + 1 = pc') (hr : inR (x * z)) (kk : WP X (d + 1) y pc' ls (.inl (x * z) :: st) h bc bs Q) : WP X (d + 1) y pc ls (.inl z :: .inl x :: st) h bc bs Q := by
  subst hp
  exact wp_nx hc (show n_bin (fun x y => x * y) (fun x y => inR (x * y)) pc ls (.inl z :: .inl x :: st) h bc bs _ from ⟨x, z, st, rfl, hr, rfl⟩) kk
theorem w_idiv {x z : Int} (hc : cd y pc = some (11, 0, 0, 0, 0, [])) (hp : pc + 1 = pc') (hr : 0 ≤ x ∧ 0 < z) (kk : WP X (d + 1) y pc' ls (.inl (x / z) :: st) h bc bs Q) : WP X (d + 1) y pc ls (.inl z :: .inl x :: st) h bc bs Q := by
  subst hp
  exact wp_nx hc (show n_bin (fun x y => x / y) (fun x y => 0 ≤ x ∧ 0 < y) pc ls (.inl z :: .inl x :: st) h bc bs _ from ⟨x, z, st, rfl, hr, rfl⟩) kk
theorem w_irem {x z : Int} (hc : cd y pc = some (12, 0, 0, 0, 0, [])) (hp : pc + 1 = pc') (hr : 0 ≤ x ∧ 0 < z) (kk : WP X (d + 1) y pc' ls (.inl (x % z) :: st) h bc bs Q) : WP X (d + 1) y pc ls (.inl z :: .inl x :: st) h bc bs Q := by
  subst hp
  exact wp_nx hc (show n_bin (fun x y => x % y) (fun x y => 0 ≤ x ∧ 0 < y) pc ls (.inl z :: .inl x :: st) h bc bs _ from ⟨x, z, st, rfl, hr, rfl⟩) kk
theorem w_iand {x : Int} (hc : cd y pc = some (14, 0, 0, 0, 0, [])) (hp : pc + 1 = pc')  (kk : WP X (d + 1) y pc' ls (.inl (x % 32) :: st) h bc bs Q) : WP X (d + 1) y pc ls (.inl 31 :: .inl x :: st) h bc bs Q := by
  subst hp
  exact wp_nx hc (show n_bin (fun x _ => x % 32) (fun _ y => y = 31) pc ls (.inl 31 :: .inl x :: st) h bc bs _ from ⟨x, 31, st, rfl, rfl, rfl⟩) kk
theorem w_iinc {a : Nat} {z v : Int} (hc : cd y pc = some (13, a, 0, 0, z, [])) (hp : pc + 3 = pc') (hv : ls[a]? = some (.inl v)) (hr : inR (v + z)) (hl : ls.set a (.inl (v + z)) = ls') (k : WP X (d + 1) y pc' ls' st h bc bs Q) : WP X (d + 1) y pc ls st h bc bs Q := by
  subst hp
  subst hl
  exact wp_nx hc (show n_iinc a z pc ls st h bc bs _ from ⟨v, hv, hr, rfl⟩) k
theorem w_i2c {x : Int} (hc : cd y pc = some (15, 0, 0, 0, 0, [])) (hp : pc + 1 = pc') (hr : 0 ≤ x ∧ x < 65536) (kk : WP X (d + 1) y pc' ls (.inl x :: st) h bc bs Q) : WP X (d + 1) y pc ls (.inl x :: st) h bc bs Q := by
  subst hp
  exact wp_nx hc (show n_i2c pc ls (.inl x :: st) h bc bs _ from ⟨x, st, rfl, hr, rfl⟩) kk
theorem w_dup {v : VV} (hc : cd y pc = some (16, 0, 0, 0, 0, [])) (hp : pc + 1 = pc')  (kk : WP X (d + 1) y pc' ls (v :: v :: st) h bc bs Q) : WP X (d + 1) y pc ls (v :: st) h bc bs Q := by
  subst hp
  exact wp_nx hc (show n_dup pc ls (v :: st) h bc bs _ from ⟨v, st, rfl, rfl⟩) kk
theorem w_dup2 {v w : VV} (hc : cd y pc = some (17, 0, 0, 0, 0, [])) (hp : pc + 1 = pc')  (kk : WP X (d + 1) y pc' ls (v :: w :: v :: w :: st) h bc bs Q) : WP X (d + 1) y pc ls (v :: w :: st) h bc bs Q := by
  subst hp
  exact wp_nx hc (show n_dup2 pc ls (v :: w :: st) h bc bs _ from ⟨v, w, st, rfl, rfl⟩) kk
theorem w_pop {v : VV} (hc : cd y pc = some (18, 0, 0, 0, 0, [])) (hp : pc + 1 = pc')  (kk : WP X (d + 1) y pc' ls st h bc bs Q) : WP X (d + 1) y pc ls (v :: st) h bc bs Q := by
  subst hp
  exact wp_nx hc (show n_pop pc ls (v :: st) h bc bs _ from ⟨v, st, rfl, rfl⟩) kk
theorem w_goto {a : Nat} (hc : cd y pc = some (19, a, 0, 0, 0, [])) (k : WP X (d + 1) y a ls st h bc bs Q) : WP X (d + 1) y pc ls st h bc bs Q := wp_nx hc (show n_goto a ls st h bc bs _ from rfl) k
theorem w_if_eq {a : Nat} {x : Int} (hc : cd y pc = some (20, a, 0, 0, 0, [])) (hp : pc + 3 = pc') (kt : x = 0 → WP X (d + 1) y a ls st h bc bs Q) (kf : x ≠ 0 → WP X (d + 1) y pc' ls st h bc bs Q) : WP X (d + 1) y pc ls (.inl x :: st) h bc bs Q := by
  subst hp
  by_cases q : x = 0
  · exact wp_nx hc (show n_if (fun x => x = 0) a pc ls (.inl x :: st) h bc bs _ from ⟨x, st, rfl, Or.inl ⟨q, rfl⟩⟩) (kt q)
  · exact wp_nx hc (show n_if (fun x => x = 0) a pc ls (.inl x :: st) h bc bs _ from ⟨x, st, rfl, Or.inr ⟨q, rfl⟩⟩) (kf (by omega))
theorem w_if_ne {a : Nat} {x : Int} (hc : cd y pc = some (21, a, 0, 0, 0, [])) (hp : pc + 3 = pc') (kt : x ≠ 0 → WP X (d + 1) y a ls st h bc bs Q) (kf : x = 0 → WP X (d + 1) y pc' ls st h bc bs Q) : WP X (d + 1) y pc ls (.inl x :: st) h bc bs Q := by
  subst hp
  by_cases q : x ≠ 0
  · exact wp_nx hc (show n_if (fun x => x ≠ 0) a pc ls (.inl x :: st) h bc bs _ from ⟨x, st, rfl, Or.inl ⟨q, rfl⟩⟩) (kt q)
  · exact wp_nx hc (show n_if (fun x => x ≠ 0) a pc ls (.inl x :: st) h bc bs _ from ⟨x, st, rfl, Or.inr ⟨q, rfl⟩⟩) (kf (by omega))
theorem w_if_lt {a : Nat} {x : Int} (hc : cd y pc = some (22, a, 0, 0, 0, [])) (hp : pc + 3 = pc') (kt : x < 0 → WP X (d + 1) y a ls st h bc bs Q) (kf : 0 ≤ x → WP X (d + 1) y pc' ls st h bc bs Q) : WP X (d + 1) y pc ls (.inl x :: st) h bc bs Q := by
  subst hp
  by_cases q : x < 0
  · exact wp_nx hc (show n_if (fun x => x < 0) a pc ls (.inl x :: st) h bc bs _ from ⟨x, st, rfl, Or.inl ⟨q, rfl⟩⟩) (kt q)
  · exact wp_nx hc (show n_if (fun x => x < 0) a pc ls (.inl x :: st) h bc bs _ from ⟨x, st, rfl, Or.inr ⟨q, rfl⟩⟩) (kf (by omega))
theorem w_if_ge {a : Nat} {x : Int} (hc : cd y pc = some (23, a, 0, 0, 0, [])) (hp : pc + 3 = pc') (kt : 0 ≤ x → WP X (d + 1) y a ls st h bc bs Q) (kf : x < 0 → WP X (d + 1) y pc' ls st h bc bs Q) : WP X (d + 1) y pc ls (.inl x :: st) h bc bs Q := by
  subst hp
  by_cases q : 0 ≤ x
  · exact wp_nx hc (show n_if (fun x => 0 ≤ x) a pc ls (.inl x :: st) h bc bs _ from ⟨x, st, rfl, Or.inl ⟨q, rfl⟩⟩) (kt q)
  · exact wp_nx hc (show n_if (fun x => 0 ≤ x) a pc ls (.inl x :: st) h bc bs _ from ⟨x, st, rfl, Or.inr ⟨q, rfl⟩⟩) (kf (by omega))
theorem w_if_gt {a : Nat} {x : Int} (hc : cd y pc = some (24, a, 0, 0, 0, [])) (hp : pc + 3 = pc') (kt : 0 < x → WP X (d + 1) y a ls st h bc bs Q) (kf : x ≤ 0 → WP X (d + 1) y pc' ls st h bc bs Q) : WP X (d + 1) y pc ls (.inl x :: st) h bc bs Q := by
  subst hp
  by_cases q : 0 < x
  · exact wp_nx hc (show n_if (fun x => 0 < x) a pc ls (.inl x :: st) h bc bs _ from ⟨x, st, rfl, Or.inl ⟨q, rfl⟩⟩) (kt q)
  · exact wp_nx hc (show n_if (fun x => 0 < x) a pc ls (.inl x :: st) h bc bs _ from ⟨x, st, rfl, Or.inr ⟨q, rfl⟩⟩) (kf (by omega))
theorem w_if_le {a : Nat} {x : Int} (hc : cd y pc = some (25, a, 0, 0, 0, [])) (hp : pc + 3 = pc') (kt : x ≤ 0 → WP X (d + 1) y a ls st h bc bs Q) (kf : 0 < x → WP X (d + 1) y pc' ls st h bc bs Q) : WP X (d + 1) y pc ls (.inl x :: st) h bc bs Q := by
  subst hp
  by_cases q : x ≤ 0
  · exact wp_nx hc (show n_if (fun x => x ≤ 0) a pc ls (.inl x :: st) h bc bs _ from ⟨x, st, rfl, Or.inl ⟨q, rfl⟩⟩) (kt q)
  · exact wp_nx hc (show n_if (fun x => x ≤ 0) a pc ls (.inl x :: st) h bc bs _ from ⟨x, st, rfl, Or.inr ⟨q, rfl⟩⟩) (kf (by omega))
theorem w_ic_eq {a : Nat} {x z : Int} (hc : cd y pc = some (26, a, 0, 0, 0, [])) (hp : pc + 3 = pc') (kt : x = z → WP X (d + 1) y a ls st h bc bs Q) (kf : x ≠ z → WP X (d + 1) y pc' ls st h bc bs Q) : WP X (d + 1) y pc ls (.inl z :: .inl x :: st) h bc bs Q := by
  subst hp
  by_cases q : x = z
  · exact wp_nx hc (show n_icmp (fun x y => x = y) a pc ls (.inl z :: .inl x :: st) h bc bs _ from ⟨x, z, st, rfl, Or.inl ⟨q, rfl⟩⟩) (kt q)
  · exact wp_nx hc (show n_icmp (fun x y => x = y) a pc ls (.inl z :: .inl x :: st) h bc bs _ from ⟨x, z, st, rfl, Or.inr ⟨q, rfl⟩⟩) (kf (by omega))
theorem w_ic_ne {a : Nat} {x z : Int} (hc : cd y pc = some (27, a, 0, 0, 0, [])) (hp : pc + 3 = pc') (kt : x ≠ z → WP X (d + 1) y a ls st h bc bs Q) (kf : x = z → WP X (d + 1) y pc' ls st h bc bs Q) : WP X (d + 1) y pc ls (.inl z :: .inl x :: st) h bc bs Q := by
  subst hp
  by_cases q : x ≠ z
  · exact wp_nx hc (show n_icmp (fun x y => x ≠ y) a pc ls (.inl z :: .inl x :: st) h bc bs _ from ⟨x, z, st, rfl, Or.inl ⟨q, rfl⟩⟩) (kt q)
  · exact wp_nx hc (show n_icmp (fun x y => x ≠ y) a pc ls (.inl z :: .inl x :: st) h bc bs _ from ⟨x, z, st, rfl, Or.inr ⟨q, rfl⟩⟩) (kf (by omega))
theorem w_ic_lt {a : Nat} {x z : Int} (hc : cd y pc = some (28, a, 0, 0, 0, [])) (hp : pc + 3 = pc') (kt : x < z → WP X (d + 1) y a ls st h bc bs Q) (kf : z ≤ x → WP X (d + 1) y pc' ls st h bc bs Q) : WP X (d + 1) y pc ls (.inl z :: .inl x :: st) h bc bs Q := by
  subst hp
  by_cases q : x < z
  · exact wp_nx hc (show n_icmp (fun x y => x < y) a pc ls (.inl z :: .inl x :: st) h bc bs _ from ⟨x, z, st, rfl, Or.inl ⟨q, rfl⟩⟩) (kt q)
  · exact wp_nx hc (show n_icmp (fun x y => x < y) a pc ls (.inl z :: .inl x :: st) h bc bs _ from ⟨x, z, st, rfl, Or.inr ⟨q, rfl⟩⟩) (kf (by omega))
theorem w_ic_ge {a : Nat} {x z : Int} (hc : cd y pc = some (29, a, 0, 0, 0, [])) (hp : pc + 3 = pc') (kt : z ≤ x → WP X (d + 1) y a ls st h bc bs Q) (kf : x < z → WP X (d + 1) y pc' ls st h bc bs Q) : WP X (d + 1) y pc ls (.inl z :: .inl x :: st) h bc bs Q := by
  subst hp
  by_cases q : z ≤ x
  · exact wp_nx hc (show n_icmp (fun x y => y ≤ x) a pc ls (.inl z :: .inl x :: st) h bc bs _ from ⟨x, z, st, rfl, Or.inl ⟨q, rfl⟩⟩) (kt q)
  · exact wp_nx hc (show n_icmp (fun x y => y ≤ x) a pc ls (.inl z :: .inl x :: st) h bc bs _ from ⟨x, z, st, rfl, Or.inr ⟨q, rfl⟩⟩) (kf (by omega))
theorem w_ic_gt {a : Nat} {x z : Int} (hc : cd y pc = some (30, a, 0, 0, 0, [])) (hp : pc + 3 = pc') (kt : z < x → WP X (d + 1) y a ls st h bc bs Q) (kf : x ≤ z → WP X (d + 1) y pc' ls st h bc bs Q) : WP X (d + 1) y pc ls (.inl z :: .inl x :: st) h bc bs Q := by
  subst hp
  by_cases q : z < x
  · exact wp_nx hc (show n_icmp (fun x y => y < x) a pc ls (.inl z :: .inl x :: st) h bc bs _ from ⟨x, z, st, rfl, Or.inl ⟨q, rfl⟩⟩) (kt q)
  · exact wp_nx hc (show n_icmp (fun x y => y < x) a pc ls (.inl z :: .inl x :: st) h bc bs _ from ⟨x, z, st, rfl, Or.inr ⟨q, rfl⟩⟩) (kf (by omega))
theorem w_ic_le {a : Nat} {x z : Int} (hc : cd y pc = some (31, a, 0, 0, 0, [])) (hp : pc + 3 = pc') (kt : x ≤ z → WP X (d + 1) y a ls st h bc bs Q) (kf : z < x → WP X (d + 1) y pc' ls st h bc bs Q) : WP X (d + 1) y pc ls (.inl z :: .inl x :: st) h bc bs Q := by
  subst hp
  by_cases q : x ≤ z
  · exact wp_nx hc (show n_icmp (fun x y => x ≤ y) a pc ls (.inl z :: .inl x :: st) h bc bs _ from ⟨x, z, st, rfl, Or.inl ⟨q, rfl⟩⟩) (kt q)
  · exact wp_nx hc (show n_icmp (fun x y => x ≤ y) a pc ls (.inl z :: .inl x :: st) h bc bs _ from ⟨x, z, st, rfl, Or.inr ⟨q, rfl⟩⟩) (kf (by omega))
theorem w_getI {sh : List (Nat × Nat)} {R : Nat → Nat → Option Nat} {I : Nat → Int → Int} {a ci k o n : Nat} {ki v : Int} (hc : cd y pc = some (32, a, ci, k, 0, [])) (hp : pc + 3 = pc') (hs : sh[o]? = some (ci + 2, n)) (hk : (k : Int) = ki) (hv : I o ki = v) (kk : WP X (d + 1) y pc' ls (.inl v :: st) (sh, R, I) bc bs Q) : WP X (d + 1) y pc ls (.inr (some o) :: st) (sh, R, I) bc bs Q := by
  subst hp
  subst hk
  subst hv
  exact wp_nx hc (show n_getI ci k pc ls (.inr (some o) :: st) (sh, R, I) bc bs _ from ⟨o, n, st, rfl, hs, rfl⟩) kk
theorem w_getR {sh : List (Nat × Nat)} {R : Nat → Nat → Option Nat} {I : Nat → Int → Int} {a ci k o n v : Nat} (hc : cd y pc = some (33, a, ci, k, 0, [])) (hp : pc + 3 = pc') (hs : sh[o]? = some (ci + 2, n)) (hv : R o k = some v) (kk : WP X (d + 1) y pc' ls (.inr (some v) :: st) (sh, R, I) bc bs Q) : WP X (d + 1) y pc ls (.inr (some o) :: st) (sh, R, I) bc bs Q := by
  subst hp
  rw [← hv] at kk
  exact wp_nx hc (show n_getR ci k pc ls (.inr (some o) :: st) (sh, R, I) bc bs _ from ⟨o, n, st, rfl, hs, rfl⟩) kk
theorem w_putI {sh : List (Nat × Nat)} {R : Nat → Nat → Option Nat} {I : Nat → Int → Int} {a ci k o n : Nat} {ki v : Int} (hc : cd y pc = some (34, a, ci, k, 0, [])) (hp : pc + 3 = pc') (hs : sh[o]? = some (ci + 2, n)) (hk : (k : Int) = ki)  (kk : WP X (d + 1) y pc' ls st (sh, R, upA I o (upF (I o) ki v)) bc bs Q) : WP X (d + 1) y pc ls (.inl v :: .inr (some o) :: st) (sh, R, I) bc bs Q := by
  subst hp
  subst hk
  exact wp_nx hc (show n_putI (fun _ => True) ci k pc ls (.inl v :: .inr (some o) :: st) (sh, R, I) bc bs _ from ⟨o, n, v, st, rfl, hs, trivial, rfl⟩) kk
theorem w_putZ {sh : List (Nat × Nat)} {R : Nat → Nat → Option Nat} {I : Nat → Int → Int} {a ci k o n : Nat} {ki v : Int} (hc : cd y pc = some (35, a, ci, k, 0, [])) (hp : pc + 3 = pc') (hs : sh[o]? = some (ci + 2, n)) (hk : (k : Int) = ki) (hr : v = 0 ∨ v = 1) (kk : WP X (d + 1) y pc' ls st (sh, R, upA I o (upF (I o) ki v)) bc bs Q) : WP X (d + 1) y pc ls (.inl v :: .inr (some o) :: st) (sh, R, I) bc bs Q := by
  subst hp
  subst hk
  exact wp_nx hc (show n_putI (fun v => v = 0 ∨ v = 1) ci k pc ls (.inl v :: .inr (some o) :: st) (sh, R, I) bc bs _ from ⟨o, n, v, st, rfl, hs, hr, rfl⟩) kk
theorem w_putR {sh : List (Nat × Nat)} {R : Nat → Nat → Option Nat} {I : Nat → Int → Int} {a ci k o n v : Nat} (hc : cd y pc = some (36, a, ci, k, 0, [])) (hp : pc + 3 = pc') (hs : sh[o]? = some (ci + 2, n)) (hr : v < sh.length) (kk : WP X (d + 1) y pc' ls st (sh, upR R o (upK (R o) k (some v)), I) bc bs Q) : WP X (d + 1) y pc ls (.inr (some v) :: .inr (some o) :: st) (sh, R, I) bc bs Q := by
  subst hp
  exact wp_nx hc (show n_putR ci k pc ls (.inr (some v) :: .inr (some o) :: st) (sh, R, I) bc bs _ from ⟨o, n, v, st, rfl, hs, hr, rfl⟩) kk
theorem w_putRF {sh : List (Nat × Nat)} {R : Nat → Nat → Option Nat} {I : Nat → Int → Int} {a ci k o n v : Nat} (hc : cd y pc = some (37, a, ci, k, 0, [])) (hp : pc + 3 = pc') (hs : sh[o]? = some (ci + 2, n)) (hr : v < sh.length) (kk : WP X (d + 1) y pc' ls st (sh, upR R o (upK (R o) k (some v)), I) bc bs Q) : WP X (d + 1) y pc ls (.inr (some v) :: .inr (some o) :: st) (sh, R, I) bc bs Q := by
  subst hp
  exact wp_nx hc (show n_putR ci k pc ls (.inr (some v) :: .inr (some o) :: st) (sh, R, I) bc bs _ from ⟨o, n, v, st, rfl, hs, hr, rfl⟩) kk
theorem w_iald {sh : List (Nat × Nat)} {R : Nat → Nat → Option Nat} {I : Nat → Int → Int} {i v : Int} {o n : Nat} (hc : cd y pc = some (38, 0, 0, 0, 0, [])) (hp : pc + 1 = pc') (hs : sh[o]? = some (0, n)) (hr : 0 ≤ i ∧ i < n) (hv : I o i = v) (kk : WP X (d + 1) y pc' ls (.inl v :: st) (sh, R, I) bc bs Q) : WP X (d + 1) y pc ls (.inl i :: .inr (some o) :: st) (sh, R, I) bc bs Q := by
  subst hp
  subst hv
  exact wp_nx hc (show n_ald 0 pc ls (.inl i :: .inr (some o) :: st) (sh, R, I) bc bs _ from ⟨i, o, n, st, rfl, hs, hr, rfl⟩) kk
theorem w_cald {sh : List (Nat × Nat)} {R : Nat → Nat → Option Nat} {I : Nat → Int → Int} {i v : Int} {o n : Nat} (hc : cd y pc = some (40, 0, 0, 0, 0, [])) (hp : pc + 1 = pc') (hs : sh[o]? = some (1, n)) (hr : 0 ≤ i ∧ i < n) (hv : I o i = v) (kk : WP X (d + 1) y pc' ls (.inl v :: st) (sh, R, I) bc bs Q) : WP X (d + 1) y pc ls (.inl i :: .inr (some o) :: st) (sh, R, I) bc bs Q := by
  subst hp
  subst hv
  exact wp_nx hc (show n_ald 1 pc ls (.inl i :: .inr (some o) :: st) (sh, R, I) bc bs _ from ⟨i, o, n, st, rfl, hs, hr, rfl⟩) kk
theorem w_iast {sh : List (Nat × Nat)} {R : Nat → Nat → Option Nat} {I : Nat → Int → Int} {i v : Int} {o n : Nat} (hc : cd y pc = some (39, 0, 0, 0, 0, [])) (hp : pc + 1 = pc') (hs : sh[o]? = some (0, n)) (hr : 0 ≤ i ∧ i < n)  (kk : WP X (d + 1) y pc' ls st (sh, R, upA I o (upF (I o) i v)) bc bs Q) : WP X (d + 1) y pc ls (.inl v :: .inl i :: .inr (some o) :: st) (sh, R, I) bc bs Q := by
  subst hp
  exact wp_nx hc (show n_ast 0 (fun _ => True) pc ls (.inl v :: .inl i :: .inr (some o) :: st) (sh, R, I) bc bs _ from ⟨i, v, o, n, st, rfl, hs, hr, trivial, rfl⟩) kk
theorem w_cast {sh : List (Nat × Nat)} {R : Nat → Nat → Option Nat} {I : Nat → Int → Int} {i v : Int} {o n : Nat} (hc : cd y pc = some (41, 0, 0, 0, 0, [])) (hp : pc + 1 = pc') (hs : sh[o]? = some (1, n)) (hr : 0 ≤ i ∧ i < n) (hv : 0 ≤ v ∧ v < 65536) (kk : WP X (d + 1) y pc' ls st (sh, R, upA I o (upF (I o) i v)) bc bs Q) : WP X (d + 1) y pc ls (.inl v :: .inl i :: .inr (some o) :: st) (sh, R, I) bc bs Q := by
  subst hp
  exact wp_nx hc (show n_ast 1 (fun v => 0 ≤ v ∧ v < 65536) pc ls (.inl v :: .inl i :: .inr (some o) :: st) (sh, R, I) bc bs _ from ⟨i, v, o, n, st, rfl, hs, hr, hv, rfl⟩) kk
theorem w_alen {sh : List (Nat × Nat)} {R : Nat → Nat → Option Nat} {I : Nat → Int → Int} {o n : Nat} {v : Int} (hc : cd y pc = some (42, 0, 0, 0, 0, [])) (hp : pc + 1 = pc') (hs : sh[o]? = some (0, n)) (hv : (n : Int) = v) (kk : WP X (d + 1) y pc' ls (.inl v :: st) (sh, R, I) bc bs Q) : WP X (d + 1) y pc ls (.inr (some o) :: st) (sh, R, I) bc bs Q := by
  subst hp
  subst hv
  exact wp_nx hc (show n_alen pc ls (.inr (some o) :: st) (sh, R, I) bc bs _ from ⟨o, n, st, rfl, hs, rfl⟩) kk
theorem w_newi {sh : List (Nat × Nat)} {R : Nat → Nat → Option Nat} {I : Nat → Int → Int} {n q : Nat} {z : Int} (hc : cd y pc = some (43, 0, 0, 0, 0, [])) (hp : pc + 2 = pc') (hz : z = (n : Int)) (hq : sh.length = q) (h1 : n ≤ 100000 ∧ 1 ≤ bc ∧ n ≤ bs ∧ q < 1000) (kk : WP X (d + 1) y pc' ls (.inr (some q) :: st) (sh ++ [(0, n)], upR R q (fun _ => none), upA I q (fun _ => 0)) (bc - 1) (bs - n) Q) : WP X (d + 1) y pc ls (.inl z :: st) (sh, R, I) bc bs Q := by
  subst hp
  subst hz
  subst hq
  exact wp_nx hc (show n_newa 0 pc ls (.inl (n : Int) :: st) (sh, R, I) bc bs _ from ⟨n, st, rfl, h1.1, h1.2.1, h1.2.2.1, h1.2.2.2, rfl⟩) kk
theorem w_newc {sh : List (Nat × Nat)} {R : Nat → Nat → Option Nat} {I : Nat → Int → Int} {n q : Nat} {z : Int} (hc : cd y pc = some (44, 0, 0, 0, 0, [])) (hp : pc + 2 = pc') (hz : z = (n : Int)) (hq : sh.length = q) (h1 : n ≤ 100000 ∧ 1 ≤ bc ∧ n ≤ bs ∧ q < 1000) (kk : WP X (d + 1) y pc' ls (.inr (some q) :: st) (sh ++ [(1, n)], upR R q (fun _ => none), upA I q (fun _ => 0)) (bc - 1) (bs - n) Q) : WP X (d + 1) y pc ls (.inl z :: st) (sh, R, I) bc bs Q := by
  subst hp
  subst hz
  subst hq
  exact wp_nx hc (show n_newa 1 pc ls (.inl (n : Int) :: st) (sh, R, I) bc bs _ from ⟨n, st, rfl, h1.1, h1.2.1, h1.2.2.1, h1.2.2.2, rfl⟩) kk
theorem w_new {sh : List (Nat × Nat)} {R : Nat → Nat → Option Nat} {I : Nat → Int → Int} {a ci N q : Nat} (hc : cd y pc = some (45, a, ci, N, 0, [])) (hp : pc + 3 = pc') (hq : sh.length = q) (h1 : 1 ≤ bc ∧ N ≤ bs ∧ q < 1000) (kk : WP X (d + 1) y pc' ls (.inr (some q) :: st) (sh ++ [(ci + 2, N)], upR R q (fun _ => none), upA I q (fun _ => 0)) (bc - 1) (bs - N) Q) : WP X (d + 1) y pc ls (st) (sh, R, I) bc bs Q := by
  subst hp
  subst hq
  exact wp_nx hc (show n_new ci N pc ls st (sh, R, I) bc bs _ from ⟨h1.1, h1.2.1, h1.2.2, rfl⟩) kk
theorem w_oi {a o : Nat} (hc : cd y pc = some (49, a, 0, 0, 0, [])) (hp : pc + 3 = pc') (h8 : Nat.ble st.length 8 = true) (kk : WP X (d + 1) y pc' ls st h bc bs Q) : WP X (d + 1) y pc ls (.inr (some o) :: st) h bc bs Q := by
  subst hp
  exact wp_nx hc (show n_objI pc ls (.inr (some o) :: st) h bc bs _ from ⟨o, st, rfl, Nat.le_of_ble_eq_true h8, rfl⟩) kk
theorem w_cpy {sh : List (Nat × Nat)} {R : Nat → Nat → Option Nat} {I : Nat → Int → Int} {a0 a b na nb : Nat} {n dp sp : Int} (hc : cd y pc = some (50, a0, 0, 0, 0, [])) (hp : pc + 3 = pc') (hs1 : sh[a]? = some (0, na)) (hs2 : sh[b]? = some (0, nb)) (hr : 0 ≤ n ∧ 0 ≤ sp ∧ 0 ≤ dp ∧ sp + n ≤ na ∧ dp + n ≤ nb) (h8 : Nat.ble st.length 8 = true) (kk : WP X (d + 1) y pc' ls st (sh, R, upA I b (cpF (I a) (I b) sp dp n)) bc bs Q) : WP X (d + 1) y pc ls (.inl n :: .inl dp :: .inr (some b) :: .inl sp :: .inr (some a) :: st) (sh, R, I) bc bs Q := by
  subst hp
  exact wp_nx hc (show n_copy pc ls (.inl n :: .inl dp :: .inr (some b) :: .inl sp :: .inr (some a) :: st) (sh, R, I) bc bs _ from ⟨n, dp, sp, a, b, na, nb, st, rfl, hs1, hs2, hr.1, hr.2.1, hr.2.2.1, hr.2.2.2.1, hr.2.2.2.2, Nat.le_of_ble_eq_true h8, rfl⟩) kk
theorem w_swt {a : Nat} {tg : List Nat} {x : Int} (hc : cd y pc = some (51, a, 0, 0, 0, tg)) (kt : ∀ (i b : Nat), tg[i]? = some b → x = (i : Int) → WP X (d + 1) y b ls st h bc bs Q) (kf : (x < 0 ∨ (tg.length : Int) ≤ x) → WP X (d + 1) y a ls st h bc bs Q) : WP X (d + 1) y pc ls (.inl x :: st) h bc bs Q := by
  by_cases q : x < 0 ∨ (tg.length : Int) ≤ x
  · exact wp_nx hc (show n_swt a tg ls (.inl x :: st) h bc bs _ from ⟨x, st, rfl, Or.inl ⟨q, rfl⟩⟩) (kf q)
  · have hl : x.toNat < tg.length := by omega
    exact wp_nx hc (show n_swt a tg ls (.inl x :: st) h bc bs _ from ⟨x, st, rfl, Or.inr ⟨x.toNat, tg[x.toNat], by omega, List.getElem?_eq_getElem hl, rfl⟩⟩) (kt x.toNat _ (List.getElem?_eq_getElem hl) (by omega))
theorem w_mx {a : Nat} {x z : Int} (hc : cd y pc = some (61, a, 0, 0, 0, [])) (hp : pc + 3 = pc') (h8 : Nat.ble st.length 8 = true) (kk : WP X (d + 1) y pc' ls (.inl (max x z) :: st) h bc bs Q) : WP X (d + 1) y pc ls (.inl z :: .inl x :: st) h bc bs Q := by
  subst hp
  exact wp_nx hc (show n_mm max pc ls (.inl z :: .inl x :: st) h bc bs _ from ⟨x, z, st, rfl, Nat.le_of_ble_eq_true h8, rfl⟩) kk
theorem w_mn {a : Nat} {x z : Int} (hc : cd y pc = some (62, a, 0, 0, 0, [])) (hp : pc + 3 = pc') (h8 : Nat.ble st.length 8 = true) (kk : WP X (d + 1) y pc' ls (.inl (min x z) :: st) h bc bs Q) : WP X (d + 1) y pc ls (.inl z :: .inl x :: st) h bc bs Q := by
  subst hp
  exact wp_nx hc (show n_mm min pc ls (.inl z :: .inl x :: st) h bc bs _ from ⟨x, z, st, rfl, Nat.le_of_ble_eq_true h8, rfl⟩) kk
theorem w_ldcS {a : Nat} (hc : cd y pc = some (54, a, 0, 0, 0, [])) (hp : pc + 2 = pc')  (kk : WP X (d + 1) y pc' ls (.inr (some STR) :: st) h bc bs Q) : WP X (d + 1) y pc ls (st) h bc bs Q := by
  subst hp
  exact wp_nx hc (show n_ldcS pc ls st h bc bs _ from rfl) kk
theorem w_sLen {a : Nat} (hc : cd y pc = some (55, a, 0, 0, 0, [])) (hp : pc + 3 = pc') (h8 : Nat.ble st.length 8 = true) (kk : WP X (d + 1) y pc' ls (.inl 67 :: st) h bc bs Q) : WP X (d + 1) y pc ls (.inr (some STR) :: st) h bc bs Q := by
  subst hp
  exact wp_nx hc (show n_sLen pc ls (.inr (some STR) :: st) h bc bs _ from ⟨st, rfl, Nat.le_of_ble_eq_true h8, rfl⟩) kk
theorem w_sCh {a i b : Nat} {z : Int} (hc : cd y pc = some (56, a, 0, 0, 0, [])) (hp : pc + 3 = pc') (hz : z = (i : Int)) (hb : txt0[i]? = some b) (h8 : Nat.ble st.length 8 = true) (k : WP X (d + 1) y pc' ls (.inl (b : Int) :: st) h bc bs Q) : WP X (d + 1) y pc ls (.inl z :: .inr (some STR) :: st) h bc bs Q := by
  subst hp
  subst hz
  exact wp_nx hc (show n_sCh pc ls (.inl (i : Int) :: .inr (some STR) :: st) h bc bs _ from ⟨i, b, st, rfl, Nat.le_of_ble_eq_true h8, hb, rfl⟩) k
theorem w_sld {i : Int} (hc : cd y pc = some (57, 0, 0, 0, 0, [])) (hp : pc + 1 = pc') (hr : 0 ≤ i ∧ i < X.1) (kk : WP X (d + 1) y pc' ls (.inl (X.2 i) :: st) h bc bs Q) : WP X (d + 1) y pc ls (.inl i :: .inr (some SCR) :: st) h bc bs Q := by
  subst hp
  exact wp_nx hc (show n_sld X pc ls (.inl i :: .inr (some SCR) :: st) h bc bs _ from ⟨i, st, rfl, hr, rfl⟩) kk
theorem w_slen  (hc : cd y pc = some (58, 0, 0, 0, 0, [])) (hp : pc + 1 = pc')  (kk : WP X (d + 1) y pc' ls (.inl (X.1 : Int) :: st) h bc bs Q) : WP X (d + 1) y pc ls (.inr (some SCR) :: st) h bc bs Q := by
  subst hp
  exact wp_nx hc (show n_slen X pc ls (.inr (some SCR) :: st) h bc bs _ from ⟨st, rfl, rfl⟩) kk
theorem w_ret {z : Int} {a : Nat} (hc : cd y pc = some (52, a, 0, 0, 0, [])) (hz : a = 2 → z = 0 ∨ z = 1) (hq : Q (.inl z) h) : WP X d y pc ls [.inl z] h bc bs Q :=
  ⟨1, .inl z, h, ⟨_, hc, Or.inl ⟨rfl, z, rfl, rfl, rfl, hz⟩⟩, hq⟩
theorem w_reti {z : Int} (hc : cd y pc = some (52, 1, 0, 0, 0, [])) (hq : Q (.inl z) h) : WP X d y pc ls [.inl z] h bc bs Q := w_ret hc (fun e => absurd e (by decide)) hq
theorem w_retz {z : Int} (hc : cd y pc = some (52, 2, 0, 0, 0, [])) (hz : z = 0 ∨ z = 1) (hq : Q (.inl z) h) : WP X d y pc ls [.inl z] h bc bs Q := w_ret hc (fun _ => hz) hq
theorem w_retv (hc : cd y pc = some (53, 0, 0, 0, 0, [])) (hq : Q (.inr none) h) : WP X d y pc ls [] h bc bs Q :=
  ⟨1, .inr none, h, ⟨_, hc, Or.inr (Or.inl ⟨rfl, rfl, rfl, rfl⟩)⟩, hq⟩
/-- a call: the callee by its contract Qc -/
theorem w_call {o : Op} {as : List VV} {mc ms : Nat} {Qc : VV → Hp → Prop} (hc : cd y pc = some o) (hp : pc + 3 = pc') (hco : callOk o (as.reverse ++ st) as st h) (hm : mc ≤ bc ∧ ms ≤ bs) (hcal : WPM X d o.2.2.1 as h mc ms Qc) (k : ∀ r h1, Qc r h1 → WP X (d + 1) y pc' ls (psh o.2.2.1 r st) h1 (bc - mc) (bs - ms) Q) : WP X (d + 1) y pc ls (as.reverse ++ st) h bc bs Q := by
  subst hp
  obtain ⟨n1, r1, h1, q1, q2⟩ := hcal
  obtain ⟨n2, r2, h2, q3, q4⟩ := k r1 h1 q2
  refine ⟨max n1 n2 + 1, r2, h2, ⟨o, hc, Or.inr (Or.inr (Or.inr ⟨d, as, st, mc, ms, r1, h1, rfl, hco, hm.1, hm.2, run_le X (by omega) q1, run_le X (by omega) q3⟩))⟩, q4⟩
theorem co_v {idx b o9 n9 : Nat} {as : List VV} (hl : (.inr (some o9) :: as).length = mA b) (h8 : Nat.ble st.length 8 = true) (hs : h.1[o9]? = some (mO b + 2, n9)) : callOk (46, idx, b, 0, 0, []) ((.inr (some o9) :: as).reverse ++ st) (.inr (some o9) :: as) st h :=
  ⟨Or.inl rfl, rfl, hl, Nat.le_of_ble_eq_true h8, fun _ => ⟨o9, as, rfl, fun _ => ⟨n9, hs⟩⟩⟩
theorem co_s {tag idx b : Nat} {as : List VV} (ht : tag = 47 ∨ tag = 60) (hk : mK b = 1) (hl : as.length = mA b) (h8 : Nat.ble st.length 8 = true) : callOk (tag, idx, b, 0, 0, []) (as.reverse ++ st) as st h :=
  ⟨ht.elim (fun e => Or.inr (Or.inl e)) (fun e => Or.inr (Or.inr (Or.inr (Or.inr e)))), rfl, hl, Nat.le_of_ble_eq_true h8, fun e => absurd hk e⟩
theorem co_i {tag idx b o9 : Nat} {as : List VV} (ht : tag = 48 ∨ tag = 59) (hl : (.inr (some o9) :: as).length = mA b) (h8 : Nat.ble st.length 8 = true) : callOk (tag, idx, b, 0, 0, []) ((.inr (some o9) :: as).reverse ++ st) (.inr (some o9) :: as) st h :=
  ⟨ht.elim (fun e => Or.inr (Or.inr (Or.inl e))) (fun e => Or.inr (Or.inr (Or.inr (Or.inl e)))), rfl, hl, Nat.le_of_ble_eq_true h8, fun _ => ⟨o9, as, rfl, fun e => by have e : tag = 46 := e; omega⟩⟩
/-- a call of a method that answers an int, makes nothing -/
theorem w_callI {o : Op} {as stk : List VV} {Qc : VV → Hp → Prop} (hc : cd y pc = some o) (hp : pc + 3 = pc') (hstk : stk = as.reverse ++ st) (hco : callOk o (as.reverse ++ st) as st h) (hr : mR o.2.2.1 ≠ 0) (hcal : WPM X d o.2.2.1 as h 0 0 Qc) (k : ∀ z h1, Qc (.inl z) h1 → WP X (d + 1) y pc' ls (.inl z :: st) h1 bc bs Q) : WP X (d + 1) y pc ls stk h bc bs Q := by
  subst hstk
  have hcal2 : WPM X d o.2.2.1 as h 0 0 (fun r h1 => Qc r h1 ∧ ∃ z, r = .inl z) := by
    obtain ⟨n, r, h', q1, q2⟩ := hcal
    obtain ⟨z, hz, -⟩ := (run_kind n q1).2 hr
    exact ⟨n, r, h', q1, q2, z, hz⟩
  refine w_call (o := o) (mc := 0) (ms := 0) hc hp hco ⟨Nat.zero_le _, Nat.zero_le _⟩ hcal2 (fun r h1 hq => ?_)
  obtain ⟨hq, z, rfl⟩ := hq
  rw [psh, if_neg hr]
  exact k z h1 hq
/-- the same, the answer and the heap behind it known -/
theorem w_callE {o : Op} {as stk : List VV} {v : Int} {h1 : Hp} (hc : cd y pc = some o) (hp : pc + 3 = pc') (hstk : stk = as.reverse ++ st) (hco : callOk o (as.reverse ++ st) as st h) (hr : mR o.2.2.1 ≠ 0) (hcal : WPM X d o.2.2.1 as h 0 0 (fun r h' => r = .inl v ∧ h' = h1)) (k : WP X (d + 1) y pc' ls (.inl v :: st) h1 bc bs Q) : WP X (d + 1) y pc ls stk h bc bs Q := by
  refine w_callI hc hp hstk hco hr hcal (fun z h2 hq => ?_)
  obtain ⟨q1, rfl⟩ := hq
  have q1 : z = v := by injection q1
  subst q1
  exact k
/-- a call that answers whether P -/
theorem w_callB {o : Op} {as stk : List VV} {P : Prop} {h1 : Hp} (hc : cd y pc = some o) (hp : pc + 3 = pc') (hstk : stk = as.reverse ++ st) (hco : callOk o (as.reverse ++ st) as st h) (hr : mR o.2.2.1 ≠ 0) (hcal : WPM X d o.2.2.1 as h 0 0 (fun r h' => h' = h1 ∧ ((r = .inl 1 ∧ P) ∨ (r = .inl 0 ∧ ¬ P)))) (kt : P → WP X (d + 1) y pc' ls (.inl 1 :: st) h1 bc bs Q) (kf : ¬ P → WP X (d + 1) y pc' ls (.inl 0 :: st) h1 bc bs Q) : WP X (d + 1) y pc ls stk h bc bs Q := by
  refine w_callI hc hp hstk hco hr hcal (fun z h2 hq => ?_)
  obtain ⟨rfl, ⟨q1, q2⟩ | ⟨q1, q2⟩⟩ := hq
  · have q1 : z = 1 := by injection q1
    subst q1
    exact kt q2
  · have q1 : z = 0 := by injection q1
    subst q1
    exact kf q2
/-- a call of a method that answers nothing, makes nothing -/
theorem w_callV {o : Op} {as stk : List VV} {Qc : VV → Hp → Prop} (hc : cd y pc = some o) (hp : pc + 3 = pc') (hstk : stk = as.reverse ++ st) (hco : callOk o (as.reverse ++ st) as st h) (hr : mR o.2.2.1 = 0) (hcal : WPM X d o.2.2.1 as h 0 0 Qc) (k : ∀ r h1, Qc r h1 → WP X (d + 1) y pc' ls st h1 bc bs Q) : WP X (d + 1) y pc ls stk h bc bs Q := by
  subst hstk
  refine w_call (o := o) (mc := 0) (ms := 0) hc hp hco ⟨Nat.zero_le _, Nat.zero_le _⟩ hcal (fun r h1 hq => ?_)
  rw [psh, if_pos hr]
  exact k r h1 hq
/-- a call of a method that may make things -/
theorem w_callM {o : Op} {as stk : List VV} {mc ms : Nat} {Qc : VV → Hp → Prop} (hc : cd y pc = some o) (hp : pc + 3 = pc') (hstk : stk = as.reverse ++ st) (hco : callOk o (as.reverse ++ st) as st h) (hm : mc ≤ bc ∧ ms ≤ bs) (hcal : WPM X d o.2.2.1 as h mc ms Qc) (k : ∀ r h1, Qc r h1 → WP X (d + 1) y pc' ls (psh o.2.2.1 r st) h1 (bc - mc) (bs - ms) Q) : WP X (d + 1) y pc ls stk h bc bs Q := by
  subst hstk
  exact w_call hc hp hco hm hcal k
end RUL
