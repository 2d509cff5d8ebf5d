theorem ii_lo {x : Int} (h : -2147483648 ≤ x) (h2 : x < 2147483648) : (Int32.ofInt x).toInt = x := Int32.toInt_ofInt_of_le h h2
theorem ii_add (x y : Int) : Int32.ofInt x + Int32.ofInt y = Int32.ofInt (x + y) := (Int32.ofInt_add x y).symm
theorem ii_sub (x y : Int) : Int32.ofInt x - Int32.ofInt y = Int32.ofInt (x - y) := (Int32.ofInt_sub x y).symm
theorem ii_mul (x y : Int) : Int32.ofInt x * Int32.ofInt y = Int32.ofInt (x * y) := (Int32.ofInt_mul x y).symm
theorem ii_lt {x y : Int} (hx : -2147483648 ≤ x ∧ x < 2147483648) (hy : -2147483648 ≤ y ∧ y < 2147483648) : Int32.ofInt x < Int32.ofInt y ↔ x < y := by
  rw [Int32.lt_iff_toInt_lt, ii_lo hx.1 hx.2, ii_lo hy.1 hy.2]
theorem ii_le {x y : Int} (hx : -2147483648 ≤ x ∧ x < 2147483648) (hy : -2147483648 ≤ y ∧ y < 2147483648) : Int32.ofInt x ≤ Int32.ofInt y ↔ x ≤ y := by
  rw [Int32.le_iff_toInt_le, ii_lo hx.1 hx.2, ii_lo hy.1 hy.2]
theorem ii_eq {x y : Int} (hx : -2147483648 ≤ x ∧ x < 2147483648) (hy : -2147483648 ≤ y ∧ y < 2147483648) : Int32.ofInt x = Int32.ofInt y ↔ x = y := by
  rw [← Int32.toInt_inj, ii_lo hx.1 hx.2, ii_lo hy.1 hy.2]
theorem ii_0 : (0 : Int32) = Int32.ofInt 0 := rfl
theorem ii_nat {n : Nat} (h : n < 2147483648) : (Int32.ofInt (n : Int)).toNatClampNeg = n := by
  show (Int32.ofInt (n : Int)).toInt.toNat = n
  rw [ii_lo (by omega) (by omega)]
  exact Int.toNat_natCast n
theorem ii_in {n N : Nat} (h : n < N) (hN : N ≤ 2147483648) : vp_in (Int32.ofInt (n : Int)) N := by
  intro hc
  rcases hc with hc | hc
  · rw [Int32.lt_iff_toInt_lt, ii_lo (by omega) (by omega), Int32.toInt_zero] at hc
    omega
  · rw [ii_nat (by omega)] at hc
    omega
theorem ii_div {x y : Int} (hx : 0 ≤ x ∧ x < 2147483648) (hy : 0 < y ∧ y < 2147483648) : Int32.ofInt x / Int32.ofInt y = Int32.ofInt (x / y) := by
  have hq : x / y ≤ x := Int.ediv_le_self _ hx.1
  have hq0 : 0 ≤ x / y := Int.ediv_nonneg hx.1 (by omega)
  rw [← Int32.toInt_inj, Int32.toInt_div, ii_lo (by omega) hx.2, ii_lo (by omega) hy.2, ii_lo (by omega) (by omega), Int.tdiv_eq_ediv_of_nonneg hx.1]
  rw [Int.bmod_eq_of_le] <;> omega
theorem ii_rem {x y : Int} (hx : 0 ≤ x ∧ x < 2147483648) (hy : 0 < y ∧ y < 2147483648) : Int32.ofInt x - Int32.ofInt x / Int32.ofInt y * Int32.ofInt y = Int32.ofInt (x % y) := by
  rw [ii_div hx hy, ii_mul, ii_sub]
  congr 1
  have h := Int.emod_add_ediv_mul x y
  omega
theorem ii_ne0 {y : Int} (hy : 0 < y ∧ y < 2147483648) : ¬ Int32.ofInt y = 0 := by
  rw [ii_0, ii_eq (by omega) (by omega)]
  omega
theorem lf_cons (ls : List (Nat × GV)) (a : Nat → Nat) (i : Nat) (v : GV) (hv : (ev a v).category = 1) (h2 : ∀ q ∈ ls, (ev a q.2).category = 1) :
    (i, ev a v) :: (ls.map fun q => (q.1, ev a q.2)).filter (fun q => !(q.1 == i) && !(q.1 + 1 == i && q.2.category == 2)) = (((i, v) :: ls.filter (fun q => !(q.1 == i))).map fun q => (q.1, ev a q.2)) := by
  rw [List.map_cons]
  congr 1
  induction ls with
  | nil => rfl
  | cons x r ih =>
    have hx := h2 x List.mem_cons_self
    have hr := ih (fun q hq => h2 q (List.mem_cons_of_mem _ hq))
    rw [List.map_cons, List.filter_cons, List.filter_cons]
    have e : ((ev a x.2).category == 2) = false := by rw [hx]; rfl
    simp only [e, Bool.and_false, Bool.not_false, Bool.and_true]
    by_cases hc : (x.1 == i) = true
    · simp only [hc, Bool.not_true, Bool.false_eq_true, if_false]
      exact hr
    · simp only [hc, Bool.not_eq_true, if_true, List.map_cons]
      simp only [Bool.not_eq_true] at hc
      simp only [hc, Bool.not_false, if_true, List.map_cons]
      rw [hr]
theorem ev_get {ls : List (Nat × GV)} {a : Nat → Nat} {k i : Nat} {v : GV} (h : ls[k]? = some (i, v)) : (ls.map fun q => (q.1, ev a q.2))[k]? = some (i, ev a v) := by
  rw [List.getElem?_map, h]; rfl
/-- all locals are of one slot -/
def c1 (v : GV) : Prop := ∀ a, (ev a v).category = 1
theorem c1_i (z : Int) : c1 (gi z) := fun _ => rfl
theorem c1_r (n : Nat) : c1 (gr n) := fun _ => rfl
section GR
variable {M : MD} {P : Pst} {kc ks pc : Nat} {ls : List (Nat × GV)} {st : List GV} {L : Nat → Nat} {A : Mem}

theorem g_iconst {n : Int} (hd : decode M.cc pc = .ok (.iconst n, 1)) (k : GW M P kc ks (pc + 1) ls (gi n :: st) L A) : GW M P kc ks pc ls st L A := by
  intro p l e R s m args below meth c D a0 L0 a H locs lsr Q F E1 E3 S hl
  have kk := k p l e R s m args below meth c D a0 L0 a H locs lsr Q F E1 E3 S hl
  exact lv_iconst F.1 F.2.1 hd rfl kk

theorem g_bipush {n : Int} (hd : decode M.cc pc = .ok (.bipush n, 2)) (hn : (Int8.ofInt n).toInt32 = Int32.ofInt n) (k : GW M P kc ks (pc + 2) ls (gi n :: st) L A) : GW M P kc ks pc ls st L A := by
  intro p l e R s m args below meth c D a0 L0 a H locs lsr Q F E1 E3 S hl
  have kk := k p l e R s m args below meth c D a0 L0 a H locs lsr Q F E1 E3 S hl
  exact lv_bipush F.1 F.2.1 hd hn kk

theorem g_sipush {n : Int} (hd : decode M.cc pc = .ok (.sipush n, 3)) (hn : (Int16.ofInt n).toInt32 = Int32.ofInt n) (k : GW M P kc ks (pc + 3) ls (gi n :: st) L A) : GW M P kc ks pc ls st L A := by
  intro p l e R s m args below meth c D a0 L0 a H locs lsr Q F E1 E3 S hl
  have kk := k p l e R s m args below meth c D a0 L0 a H locs lsr Q F E1 E3 S hl
  exact lv_sipush F.1 F.2.1 hd hn kk

theorem g_ldci {n : Int} {ix : Nat} (hd : decode M.cc pc = .ok (.ldc ix, 2)) (hw : Cond.constant M.y.cls ix (Int32.ofInt n) ∈ WS) (k : GW M P kc ks (pc + 2) ls (gi n :: st) L A) : GW M P kc ks pc ls st L A := by
  intro p l e R s m args below meth c D a0 L0 a H locs lsr Q F E1 E3 S hl
  have kk := k p l e R s m args below meth c D a0 L0 a H locs lsr Q F E1 E3 S hl
  exact lv_ldc F.1 F.2.1 F.2.2.2.1 (F.2.2.2.2.1 _ hw) hd kk

theorem g_iload_n {q : Fin 4} {i : Nat} {z : Int} (j : Nat) (hd : decode M.cc pc = .ok (.iload_n q, 1)) (hi : (q : Nat) = i) (hj : ls[j]? = some (i, gi z)) (k : GW M P kc ks (pc + 1) ls (gi z :: st) L A) : GW M P kc ks pc ls st L A := by
  intro p l e R s m args below meth c D a0 L0 a H locs lsr Q F E1 E3 S hl
  have kk := k p l e R s m args below meth c D a0 L0 a H locs lsr Q F E1 E3 S hl
  exact lv_iload_n F.1 F.2.1 hd hi (lv_at hl j (ev_get hj)) kk

theorem g_iload {i : Nat} {z : Int} (j : Nat) (hd : decode M.cc pc = .ok (.iload i, 2)) (hj : ls[j]? = some (i, gi z)) (k : GW M P kc ks (pc + 2) ls (gi z :: st) L A) : GW M P kc ks pc ls st L A := by
  intro p l e R s m args below meth c D a0 L0 a H locs lsr Q F E1 E3 S hl
  have kk := k p l e R s m args below meth c D a0 L0 a H locs lsr Q F E1 E3 S hl
  exact lv_iload F.1 F.2.1 hd (lv_at hl j (ev_get hj)) kk

theorem g_aload_n {q : Fin 4} {i : Nat} {z : Nat} (j : Nat) (hd : decode M.cc pc = .ok (.aload_n q, 1)) (hi : (q : Nat) = i) (hj : ls[j]? = some (i, gr z)) (k : GW M P kc ks (pc + 1) ls (gr z :: st) L A) : GW M P kc ks pc ls st L A := by
  intro p l e R s m args below meth c D a0 L0 a H locs lsr Q F E1 E3 S hl
  have kk := k p l e R s m args below meth c D a0 L0 a H locs lsr Q F E1 E3 S hl
  exact lv_aload_n F.1 F.2.1 hd hi (lv_at hl j (ev_get hj)) kk

theorem g_aload {i : Nat} {z : Nat} (j : Nat) (hd : decode M.cc pc = .ok (.aload i, 2)) (hj : ls[j]? = some (i, gr z)) (k : GW M P kc ks (pc + 2) ls (gr z :: st) L A) : GW M P kc ks pc ls st L A := by
  intro p l e R s m args below meth c D a0 L0 a H locs lsr Q F E1 E3 S hl
  have kk := k p l e R s m args below meth c D a0 L0 a H locs lsr Q F E1 E3 S hl
  exact lv_aload F.1 F.2.1 hd (lv_at hl j (ev_get hj)) kk

theorem g_istore_n {q : Fin 4} {i : Nat} {z : Int} (hd : decode M.cc pc = .ok (.istore_n q, 1)) (hi : (q : Nat) = i) (hn : i < M.nL) (hc : ∀ q ∈ ls, c1 q.2) (k : GW M P kc ks (pc + 1) ((i, gi z) :: ls.filter (fun q => !(q.1 == i))) st L A) : GW M P kc ks pc ls (gi z :: st) L A := by
  intro p l e R s m args below meth c D a0 L0 a H locs lsr Q F E1 E3 S hl
  exact lv_istore_n F.1 F.2.1 hd hi hl hn (lf_cons ls a i (gi z) rfl (fun q hq => hc q hq a)) (fun lsr hl => k p l e R s m args below meth c D a0 L0 a H locs lsr Q F E1 E3 S hl)

theorem g_istore {i : Nat} {z : Int} (hd : decode M.cc pc = .ok (.istore i, 2)) (hn : i < M.nL) (hc : ∀ q ∈ ls, c1 q.2) (k : GW M P kc ks (pc + 2) ((i, gi z) :: ls.filter (fun q => !(q.1 == i))) st L A) : GW M P kc ks pc ls (gi z :: st) L A := by
  intro p l e R s m args below meth c D a0 L0 a H locs lsr Q F E1 E3 S hl
  exact lv_istore F.1 F.2.1 hd hl hn (lf_cons ls a i (gi z) rfl (fun q hq => hc q hq a)) (fun lsr hl => k p l e R s m args below meth c D a0 L0 a H locs lsr Q F E1 E3 S hl)

theorem g_astore_n {q : Fin 4} {i : Nat} {z : Nat} (hd : decode M.cc pc = .ok (.astore_n q, 1)) (hi : (q : Nat) = i) (hn : i < M.nL) (hc : ∀ q ∈ ls, c1 q.2) (k : GW M P kc ks (pc + 1) ((i, gr z) :: ls.filter (fun q => !(q.1 == i))) st L A) : GW M P kc ks pc ls (gr z :: st) L A := by
  intro p l e R s m args below meth c D a0 L0 a H locs lsr Q F E1 E3 S hl
  exact lv_astore_n F.1 F.2.1 hd hi hl hn (lf_cons ls a i (gr z) rfl (fun q hq => hc q hq a)) (fun lsr hl => k p l e R s m args below meth c D a0 L0 a H locs lsr Q F E1 E3 S hl)

theorem g_astore {i : Nat} {z : Nat} (hd : decode M.cc pc = .ok (.astore i, 2)) (hn : i < M.nL) (hc : ∀ q ∈ ls, c1 q.2) (k : GW M P kc ks (pc + 2) ((i, gr z) :: ls.filter (fun q => !(q.1 == i))) st L A) : GW M P kc ks pc ls (gr z :: st) L A := by
  intro p l e R s m args below meth c D a0 L0 a H locs lsr Q F E1 E3 S hl
  exact lv_astore F.1 F.2.1 hd hl hn (lf_cons ls a i (gr z) rfl (fun q hq => hc q hq a)) (fun lsr hl => k p l e R s m args below meth c D a0 L0 a H locs lsr Q F E1 E3 S hl)

theorem g_iinc {i : Nat} {n z : Int} (j : Nat) (hd : decode M.cc pc = .ok (.iinc i n, 3)) (hj : ls[j]? = some (i, gi z)) (hn : i < M.nL) (hc : ∀ q ∈ ls, c1 q.2) (k : GW M P kc ks (pc + 3) ((i, gi (z + n)) :: ls.filter (fun q => !(q.1 == i))) st L A) : GW M P kc ks pc ls st L A := by
  intro p l e R s m args below meth c D a0 L0 a H locs lsr Q F E1 E3 S hl
  exact lv_iinc (v := Int32.ofInt (z + n)) F.1 F.2.1 hd hl (k := j) (ev_get hj) (ii_add z n) hn (lf_cons ls a i (gi (z + n)) rfl (fun q hq => hc q hq a)) (fun lsr hl => k p l e R s m args below meth c D a0 L0 a H locs lsr Q F E1 E3 S hl)

theorem g_iadd {x y : Int} (hd : decode M.cc pc = .ok (.iadd, 1)) (k : GW M P kc ks (pc + 1) ls (gi (x + y) :: st) L A) : GW M P kc ks pc ls (gi y :: gi x :: st) L A := by
  intro p l e R s m args below meth c D a0 L0 a H locs lsr Q F E1 E3 S hl
  have kk := k p l e R s m args below meth c D a0 L0 a H locs lsr Q F E1 E3 S hl
  refine lv_iadd F.1 F.2.1 hd ?_
  rw [ii_add]
  exact kk

theorem g_isub {x y : Int} (hd : decode M.cc pc = .ok (.isub, 1)) (k : GW M P kc ks (pc + 1) ls (gi (x - y) :: st) L A) : GW M P kc ks pc ls (gi y :: gi x :: st) L A := by
  intro p l e R s m args below meth c D a0 L0 a H locs lsr Q F E1 E3 S hl
  have kk := k p l e R s m args below meth c D a0 L0 a H locs lsr Q F E1 E3 S hl
  refine lv_isub F.1 F.2.1 hd ?_
  rw [ii_sub]
  exact kk

theorem g_imul {x y : Int} (hd : decode M.cc pc = .ok (.imul, 1)) (k : GW M P kc ks (pc + 1) ls (gi (x * y) :: st) L A) : GW M P kc ks pc ls (gi y :: gi x :: st) L A := by
  intro p l e R s m args below meth c D a0 L0 a H locs lsr Q F E1 E3 S hl
  have kk := k p l e R s m args below meth c D a0 L0 a H locs lsr Q F E1 E3 S hl
  refine lv_imul F.1 F.2.1 hd ?_
  rw [ii_mul]
  exact kk

theorem g_idiv {x y : Int} (hx : 0 ≤ x ∧ x < 2147483648) (hy : 0 < y ∧ y < 2147483648) (hd : decode M.cc pc = .ok (.idiv, 1)) (k : GW M P kc ks (pc + 1) ls (gi (x / y) :: st) L A) : GW M P kc ks pc ls (gi y :: gi x :: st) L A := by
  intro p l e R s m args below meth c D a0 L0 a H locs lsr Q F E1 E3 S hl
  have kk := k p l e R s m args below meth c D a0 L0 a H locs lsr Q F E1 E3 S hl
  refine lv_idiv F.1 F.2.1 hd (ii_ne0 hy) ?_
  rw [ii_div hx hy]
  exact kk

theorem g_irem {x y : Int} (hx : 0 ≤ x ∧ x < 2147483648) (hy : 0 < y ∧ y < 2147483648) (hd : decode M.cc pc = .ok (.irem, 1)) (k : GW M P kc ks (pc + 1) ls (gi (x % y) :: st) L A) : GW M P kc ks pc ls (gi y :: gi x :: st) L A := by
  intro p l e R s m args below meth c D a0 L0 a H locs lsr Q F E1 E3 S hl
  have kk := k p l e R s m args below meth c D a0 L0 a H locs lsr Q F E1 E3 S hl
  refine lv_irem F.1 F.2.1 hd (ii_ne0 hy) ?_
  rw [ii_rem hx hy]
  exact kk

theorem g_dup {v : GV} (hd : decode M.cc pc = .ok (.dup, 1)) (hv : c1 v) (k : GW M P kc ks (pc + 1) ls (v :: v :: st) L A) : GW M P kc ks pc ls (v :: st) L A := by
  intro p l e R s m args below meth c D a0 L0 a H locs lsr Q F E1 E3 S hl
  have kk := k p l e R s m args below meth c D a0 L0 a H locs lsr Q F E1 E3 S hl
  exact lv_dup F.1 F.2.1 hd (hv a) kk

theorem g_pop {v : GV} (hd : decode M.cc pc = .ok (.pop, 1)) (hv : c1 v) (k : GW M P kc ks (pc + 1) ls st L A) : GW M P kc ks pc ls (v :: st) L A := by
  intro p l e R s m args below meth c D a0 L0 a H locs lsr Q F E1 E3 S hl
  have kk := k p l e R s m args below meth c D a0 L0 a H locs lsr Q F E1 E3 S hl
  exact lv_pop F.1 F.2.1 hd (hv a) kk

theorem g_dup2 {v w : GV} (hd : decode M.cc pc = .ok (.dup2, 1)) (hv : c1 v) (hw : c1 w) (k : GW M P kc ks (pc + 1) ls (v :: w :: v :: w :: st) L A) : GW M P kc ks pc ls (v :: w :: st) L A := by
  intro p l e R s m args below meth c D a0 L0 a H locs lsr Q F E1 E3 S hl
  have kk := k p l e R s m args below meth c D a0 L0 a H locs lsr Q F E1 E3 S hl
  exact lv_dup2_11 F.1 F.2.1 hd (hv a) (hw a) kk

theorem g_icmp_eq {x y : Int} {off : Int} {tgt : Nat} (hx : -2147483648 ≤ x ∧ x < 2147483648) (hy : -2147483648 ≤ y ∧ y < 2147483648) (hd : decode M.cc pc = .ok (.if_icmp .eq off, 3)) (ht : (pc : Int) + off = (tgt : Int)) (kt : x = y → GW M P kc ks tgt ls st L A) (kf : ¬ x = y → GW M P kc ks (pc + 3) ls st L A) : GW M P kc ks pc ls (gi y :: gi x :: st) L A := by
  intro p l e R s m args below meth c D a0 L0 a H locs lsr Q F E1 E3 S hl
  have k1 := fun h => kt h p l e R s m args below meth c D a0 L0 a H locs lsr Q F E1 E3 S hl
  have k2 := fun h => kf h p l e R s m args below meth c D a0 L0 a H locs lsr Q F E1 E3 S hl
  exact lv_icmp_eq F.1 F.2.1 hd ht (fun h => k1 ((fun h => ((ii_eq hx hy).mp h)) h)) (fun h => k2 ((fun h => (fun z => h ((ii_eq hx hy).mpr z))) h))

theorem g_if_eq {x : Int} {off : Int} {tgt : Nat} (hx : -2147483648 ≤ x ∧ x < 2147483648) (hd : decode M.cc pc = .ok (.ifCond .eq off, 3)) (ht : (pc : Int) + off = (tgt : Int)) (kt : x = 0 → GW M P kc ks tgt ls st L A) (kf : ¬ x = 0 → GW M P kc ks (pc + 3) ls st L A) : GW M P kc ks pc ls (gi x :: st) L A := by
  intro p l e R s m args below meth c D a0 L0 a H locs lsr Q F E1 E3 S hl
  have k1 := fun h => kt h p l e R s m args below meth c D a0 L0 a H locs lsr Q F E1 E3 S hl
  have k2 := fun h => kf h p l e R s m args below meth c D a0 L0 a H locs lsr Q F E1 E3 S hl
  have hy : -2147483648 ≤ (0 : Int) ∧ (0 : Int) < 2147483648 := by omega
  exact lv_if_eq F.1 F.2.1 hd ht (fun h => k1 ((fun h => ((ii_eq hx hy).mp h)) h)) (fun h => k2 ((fun h => (fun z => h ((ii_eq hx hy).mpr z))) h))

theorem g_icmp_ne {x y : Int} {off : Int} {tgt : Nat} (hx : -2147483648 ≤ x ∧ x < 2147483648) (hy : -2147483648 ≤ y ∧ y < 2147483648) (hd : decode M.cc pc = .ok (.if_icmp .ne off, 3)) (ht : (pc : Int) + off = (tgt : Int)) (kt : ¬ x = y → GW M P kc ks tgt ls st L A) (kf : x = y → GW M P kc ks (pc + 3) ls st L A) : GW M P kc ks pc ls (gi y :: gi x :: st) L A := by
  intro p l e R s m args below meth c D a0 L0 a H locs lsr Q F E1 E3 S hl
  have k1 := fun h => kt h p l e R s m args below meth c D a0 L0 a H locs lsr Q F E1 E3 S hl
  have k2 := fun h => kf h p l e R s m args below meth c D a0 L0 a H locs lsr Q F E1 E3 S hl
  exact lv_icmp_ne F.1 F.2.1 hd ht (fun h => k1 ((fun h => (fun z => h ((ii_eq hx hy).mpr z))) h)) (fun h => k2 ((fun h => ((ii_eq hx hy).mp h)) h))

theorem g_if_ne {x : Int} {off : Int} {tgt : Nat} (hx : -2147483648 ≤ x ∧ x < 2147483648) (hd : decode M.cc pc = .ok (.ifCond .ne off, 3)) (ht : (pc : Int) + off = (tgt : Int)) (kt : ¬ x = 0 → GW M P kc ks tgt ls st L A) (kf : x = 0 → GW M P kc ks (pc + 3) ls st L A) : GW M P kc ks pc ls (gi x :: st) L A := by
  intro p l e R s m args below meth c D a0 L0 a H locs lsr Q F E1 E3 S hl
  have k1 := fun h => kt h p l e R s m args below meth c D a0 L0 a H locs lsr Q F E1 E3 S hl
  have k2 := fun h => kf h p l e R s m args below meth c D a0 L0 a H locs lsr Q F E1 E3 S hl
  have hy : -2147483648 ≤ (0 : Int) ∧ (0 : Int) < 2147483648 := by omega
  exact lv_if_ne F.1 F.2.1 hd ht (fun h => k1 ((fun h => (fun z => h ((ii_eq hx hy).mpr z))) h)) (fun h => k2 ((fun h => ((ii_eq hx hy).mp h)) h))

theorem g_icmp_lt {x y : Int} {off : Int} {tgt : Nat} (hx : -2147483648 ≤ x ∧ x < 2147483648) (hy : -2147483648 ≤ y ∧ y < 2147483648) (hd : decode M.cc pc = .ok (.if_icmp .lt off, 3)) (ht : (pc : Int) + off = (tgt : Int)) (kt : x < y → GW M P kc ks tgt ls st L A) (kf : ¬ x < y → GW M P kc ks (pc + 3) ls st L A) : GW M P kc ks pc ls (gi y :: gi x :: st) L A := by
  intro p l e R s m args below meth c D a0 L0 a H locs lsr Q F E1 E3 S hl
  have k1 := fun h => kt h p l e R s m args below meth c D a0 L0 a H locs lsr Q F E1 E3 S hl
  have k2 := fun h => kf h p l e R s m args below meth c D a0 L0 a H locs lsr Q F E1 E3 S hl
  exact lv_icmp_lt F.1 F.2.1 hd ht (fun h => k1 ((fun h => ((ii_lt hx hy).mp h)) h)) (fun h => k2 ((fun h => (fun z => h ((ii_lt hx hy).mpr z))) h))

theorem g_if_lt {x : Int} {off : Int} {tgt : Nat} (hx : -2147483648 ≤ x ∧ x < 2147483648) (hd : decode M.cc pc = .ok (.ifCond .lt off, 3)) (ht : (pc : Int) + off = (tgt : Int)) (kt : x < 0 → GW M P kc ks tgt ls st L A) (kf : ¬ x < 0 → GW M P kc ks (pc + 3) ls st L A) : GW M P kc ks pc ls (gi x :: st) L A := by
  intro p l e R s m args below meth c D a0 L0 a H locs lsr Q F E1 E3 S hl
  have k1 := fun h => kt h p l e R s m args below meth c D a0 L0 a H locs lsr Q F E1 E3 S hl
  have k2 := fun h => kf h p l e R s m args below meth c D a0 L0 a H locs lsr Q F E1 E3 S hl
  have hy : -2147483648 ≤ (0 : Int) ∧ (0 : Int) < 2147483648 := by omega
  exact lv_if_lt F.1 F.2.1 hd ht (fun h => k1 ((fun h => ((ii_lt hx hy).mp h)) h)) (fun h => k2 ((fun h => (fun z => h ((ii_lt hx hy).mpr z))) h))

theorem g_icmp_ge {x y : Int} {off : Int} {tgt : Nat} (hx : -2147483648 ≤ x ∧ x < 2147483648) (hy : -2147483648 ≤ y ∧ y < 2147483648) (hd : decode M.cc pc = .ok (.if_icmp .ge off, 3)) (ht : (pc : Int) + off = (tgt : Int)) (kt : y ≤ x → GW M P kc ks tgt ls st L A) (kf : ¬ y ≤ x → GW M P kc ks (pc + 3) ls st L A) : GW M P kc ks pc ls (gi y :: gi x :: st) L A := by
  intro p l e R s m args below meth c D a0 L0 a H locs lsr Q F E1 E3 S hl
  have k1 := fun h => kt h p l e R s m args below meth c D a0 L0 a H locs lsr Q F E1 E3 S hl
  have k2 := fun h => kf h p l e R s m args below meth c D a0 L0 a H locs lsr Q F E1 E3 S hl
  exact lv_icmp_ge F.1 F.2.1 hd ht (fun h => k1 ((fun h => ((ii_le hy hx).mp h)) h)) (fun h => k2 ((fun h => (fun z => h ((ii_le hy hx).mpr z))) h))

theorem g_if_ge {x : Int} {off : Int} {tgt : Nat} (hx : -2147483648 ≤ x ∧ x < 2147483648) (hd : decode M.cc pc = .ok (.ifCond .ge off, 3)) (ht : (pc : Int) + off = (tgt : Int)) (kt : 0 ≤ x → GW M P kc ks tgt ls st L A) (kf : ¬ 0 ≤ x → GW M P kc ks (pc + 3) ls st L A) : GW M P kc ks pc ls (gi x :: st) L A := by
  intro p l e R s m args below meth c D a0 L0 a H locs lsr Q F E1 E3 S hl
  have k1 := fun h => kt h p l e R s m args below meth c D a0 L0 a H locs lsr Q F E1 E3 S hl
  have k2 := fun h => kf h p l e R s m args below meth c D a0 L0 a H locs lsr Q F E1 E3 S hl
  have hy : -2147483648 ≤ (0 : Int) ∧ (0 : Int) < 2147483648 := by omega
  exact lv_if_ge F.1 F.2.1 hd ht (fun h => k1 ((fun h => ((ii_le hy hx).mp h)) h)) (fun h => k2 ((fun h => (fun z => h ((ii_le hy hx).mpr z))) h))

theorem g_icmp_gt {x y : Int} {off : Int} {tgt : Nat} (hx : -2147483648 ≤ x ∧ x < 2147483648) (hy : -2147483648 ≤ y ∧ y < 2147483648) (hd : decode M.cc pc = .ok (.if_icmp .gt off, 3)) (ht : (pc : Int) + off = (tgt : Int)) (kt : y < x → GW M P kc ks tgt ls st L A) (kf : ¬ y < x → GW M P kc ks (pc + 3) ls st L A) : GW M P kc ks pc ls (gi y :: gi x :: st) L A := by
  intro p l e R s m args below meth c D a0 L0 a H locs lsr Q F E1 E3 S hl
  have k1 := fun h => kt h p l e R s m args below meth c D a0 L0 a H locs lsr Q F E1 E3 S hl
  have k2 := fun h => kf h p l e R s m args below meth c D a0 L0 a H locs lsr Q F E1 E3 S hl
  exact lv_icmp_gt F.1 F.2.1 hd ht (fun h => k1 ((fun h => ((ii_lt hy hx).mp h)) h)) (fun h => k2 ((fun h => (fun z => h ((ii_lt hy hx).mpr z))) h))

theorem g_if_gt {x : Int} {off : Int} {tgt : Nat} (hx : -2147483648 ≤ x ∧ x < 2147483648) (hd : decode M.cc pc = .ok (.ifCond .gt off, 3)) (ht : (pc : Int) + off = (tgt : Int)) (kt : 0 < x → GW M P kc ks tgt ls st L A) (kf : ¬ 0 < x → GW M P kc ks (pc + 3) ls st L A) : GW M P kc ks pc ls (gi x :: st) L A := by
  intro p l e R s m args below meth c D a0 L0 a H locs lsr Q F E1 E3 S hl
  have k1 := fun h => kt h p l e R s m args below meth c D a0 L0 a H locs lsr Q F E1 E3 S hl
  have k2 := fun h => kf h p l e R s m args below meth c D a0 L0 a H locs lsr Q F E1 E3 S hl
  have hy : -2147483648 ≤ (0 : Int) ∧ (0 : Int) < 2147483648 := by omega
  exact lv_if_gt F.1 F.2.1 hd ht (fun h => k1 ((fun h => ((ii_lt hy hx).mp h)) h)) (fun h => k2 ((fun h => (fun z => h ((ii_lt hy hx).mpr z))) h))

theorem g_icmp_le {x y : Int} {off : Int} {tgt : Nat} (hx : -2147483648 ≤ x ∧ x < 2147483648) (hy : -2147483648 ≤ y ∧ y < 2147483648) (hd : decode M.cc pc = .ok (.if_icmp .le off, 3)) (ht : (pc : Int) + off = (tgt : Int)) (kt : x ≤ y → GW M P kc ks tgt ls st L A) (kf : ¬ x ≤ y → GW M P kc ks (pc + 3) ls st L A) : GW M P kc ks pc ls (gi y :: gi x :: st) L A := by
  intro p l e R s m args below meth c D a0 L0 a H locs lsr Q F E1 E3 S hl
  have k1 := fun h => kt h p l e R s m args below meth c D a0 L0 a H locs lsr Q F E1 E3 S hl
  have k2 := fun h => kf h p l e R s m args below meth c D a0 L0 a H locs lsr Q F E1 E3 S hl
  exact lv_icmp_le F.1 F.2.1 hd ht (fun h => k1 ((fun h => ((ii_le hx hy).mp h)) h)) (fun h => k2 ((fun h => (fun z => h ((ii_le hx hy).mpr z))) h))

theorem g_if_le {x : Int} {off : Int} {tgt : Nat} (hx : -2147483648 ≤ x ∧ x < 2147483648) (hd : decode M.cc pc = .ok (.ifCond .le off, 3)) (ht : (pc : Int) + off = (tgt : Int)) (kt : x ≤ 0 → GW M P kc ks tgt ls st L A) (kf : ¬ x ≤ 0 → GW M P kc ks (pc + 3) ls st L A) : GW M P kc ks pc ls (gi x :: st) L A := by
  intro p l e R s m args below meth c D a0 L0 a H locs lsr Q F E1 E3 S hl
  have k1 := fun h => kt h p l e R s m args below meth c D a0 L0 a H locs lsr Q F E1 E3 S hl
  have k2 := fun h => kf h p l e R s m args below meth c D a0 L0 a H locs lsr Q F E1 E3 S hl
  have hy : -2147483648 ≤ (0 : Int) ∧ (0 : Int) < 2147483648 := by omega
  exact lv_if_le F.1 F.2.1 hd ht (fun h => k1 ((fun h => ((ii_le hx hy).mp h)) h)) (fun h => k2 ((fun h => (fun z => h ((ii_le hx hy).mpr z))) h))

theorem g_goto {off : Int} {tgt : Nat} (hd : decode M.cc pc = .ok (.goto off, 3)) (ht : (pc : Int) + off = (tgt : Int)) (k : GW M P kc ks tgt ls st L A) : GW M P kc ks pc ls st L A := by
  intro p l e R s m args below meth c D a0 L0 a H locs lsr Q F E1 E3 S hl
  have kk := k p l e R s m args below meth c D a0 L0 a H locs lsr Q F E1 E3 S hl
  exact lv_goto F.1 F.2.1 hd ht kk

/-- the same place by another number -/
theorem g_at {pc2 : Nat} (h : pc = pc2) (k : GW M P kc ks pc2 ls st L A) : GW M P kc ks pc ls st L A := h ▸ k
theorem g_wide {kc2 ks2 : Nat} (h1 : kc ≤ kc2) (h2 : ks ≤ ks2) (k : GW M P kc2 ks2 pc ls st L A) : GW M P kc ks pc ls st L A := by
  intro p l e R s m args below meth c D a0 L0 a H locs lsr Q F E1 E3 S hl
  have kk := k p l e R s m args below meth c D a0 L0 a H locs lsr Q F E1 E3 S hl
  exact W.widen h1 h2 kk

theorem g_ret {v : Option GV} {i : Instr} (hd : decode M.cc pc = .ok (i, 1)) (hr : rtok M i v) (h1 : kc ≤ M.mc) (h2 : ks ≤ M.ms) (hP : P (.inr v) L A) : GW M P kc ks pc ls v.toList L A := by
  intro p l e R s m args below meth c D a0 L0 a H locs lsr Q F E1 E3 S hl
  have e : v.toList.map (ev a) = (v.map (ev a)).toList := by cases v <;> rfl
  exact E1.1 a L A H locs kc ks pc lsr v i hP S h1 h2 hd hr

theorem g_iret {z : Int} (hd : decode M.cc pc = .ok (.ireturn, 1)) (hr : M.rt = some .int) (h1 : kc ≤ M.mc) (h2 : ks ≤ M.ms) (hP : P (.inr (some (gi z))) L A) : GW M P kc ks pc ls [gi z] L A := g_ret (v := some (gi z)) hd (Or.inr (Or.inl ⟨rfl, z, rfl, Or.inl hr⟩)) h1 h2 hP
theorem g_zret {z : Int} (hd : decode M.cc pc = .ok (.ireturn, 1)) (hr : M.rt = some .boolean) (hz : z = 0 ∨ z = 1) (h1 : kc ≤ M.mc) (h2 : ks ≤ M.ms) (hP : P (.inr (some (gi z))) L A) : GW M P kc ks pc ls [gi z] L A := g_ret (v := some (gi z)) hd (Or.inr (Or.inl ⟨rfl, z, rfl, Or.inr ⟨hr, hz⟩⟩)) h1 h2 hP
theorem g_vret (hd : decode M.cc pc = .ok (.return_, 1)) (hr : M.rt = none) (h1 : kc ≤ M.mc) (h2 : ks ≤ M.ms) (hP : P (.inr none) L A) : GW M P kc ks pc ls [] L A := g_ret (v := none) hd (Or.inl ⟨rfl, hr, rfl⟩) h1 h2 hP
theorem g_aret {n : Nat} {t : String} (hd : decode M.cc pc = .ok (.areturn, 1)) (hr : M.rt = some (.object t)) (h1 : kc ≤ M.mc) (h2 : ks ≤ M.ms) (hP : P (.inr (some (gr n))) L A) : GW M P kc ks pc ls [gr n] L A := g_ret (v := some (gr n)) hd (Or.inr (Or.inr ⟨rfl, n, rfl, Or.inl ⟨t, hr⟩⟩)) h1 h2 hP
theorem g_throw {E : String} {names : List String} {ik is ic : Nat} {text : String} (hT : TH M E pc names ik is ic text) (h1 : kc + 1 ≤ M.mc) (h2 : ks + 6 ≤ M.ms) (hst : st.length ≤ 10) (hP : P (.inl E) L A) : GW M P kc ks pc ls st L A := by
  intro p l e R s m args below meth c D a0 L0 a H locs lsr Q F E1 E3 S hl
  refine E3 a L A H locs kc ks pc lsr (st.map (ev a)) E names ik is ic text hP S h1 h2 hT (hl.1.trans F.2.2.1.symm) ?_
  have h9 : ∀ (st : List GV), ((st.map (ev a)).map fun v => v.category).sum ≤ 2 * st.length := by
    intro st
    induction st with
    | nil => simp
    | cons x r ih =>
      have hx : (ev a x).category ≤ 2 := by rcases lv_cat (ev a x) with h | h <;> omega
      simp only [List.map_cons, List.sum_cons, List.length_cons]
      omega
  have := h9 st
  omega

end GR
