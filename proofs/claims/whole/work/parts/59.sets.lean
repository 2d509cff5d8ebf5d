/-- what is marked as tried before the i-th cell -/
def trS (lst : Nat → Int) (A : Mem) (t : Nat) : Nat → Nat
  | 0 => t
  | i + 1 => if t.testBit i = false ∧ safeB A (lst i) = true then trS lst A t i ||| 2 ^ i else trS lst A t i
theorem trS_bit (lst : Nat → Int) (A : Mem) (t i j : Nat) : (trS lst A t i).testBit j = (t.testBit j || (decide (j < i) && safeB A (lst j))) := by
  induction i with
  | zero => simp [trS]
  | succ i ih =>
    simp only [trS]
    by_cases h : t.testBit i = false ∧ safeB A (lst i) = true
    · rw [if_pos h, Nat.testBit_or, ih, Nat.testBit_two_pow]
      by_cases e : i = j
      · subst e; simp [h.1, h.2]
      · have e2 : decide (j < i + 1) = decide (j < i) := by
          by_cases q : j < i
          · simp [q]; omega
          · simp [q]; omega
        simp [e, e2]
    · rw [if_neg h, ih]
      by_cases e : i = j
      · subst e
        cases h1 : t.testBit i with
        | true => simp
        | false =>
          have h2 : safeB A (lst i) = false := by
            cases h3 : safeB A (lst i) with
            | false => rfl
            | true => exact absurd ⟨h1, h3⟩ h
          simp [h2]
      · have e2 : decide (j < i + 1) = decide (j < i) := by
          by_cases q : j < i
          · simp [q]; omega
          · simp [q]; omega
        rw [e2]
theorem trS_self (lst : Nat → Int) (A : Mem) (t i : Nat) : (trS lst A t i).testBit i = t.testBit i := by rw [trS_bit]; simp
theorem trS_lt {lst : Nat → Int} {A : Mem} {t i : Nat} (ht : t < 65536) (hi : i ≤ 16) : trS lst A t i < 65536 := by
  induction i with
  | zero => exact ht
  | succ i ih =>
    simp only [trS]
    split
    · exact Nat.or_lt_two_pow (n := 16) (ih (by omega)) (Nat.pow_lt_pow_right (by omega) (by omega))
    · exact ih (by omega)
/-- the most carats that sets of d digs bring, of a list's n cells, those tried left out -/
def mbS (lst : Nat → Int) (n : Nat) : Nat → Mem → Nat → Int
  | 0, _, _ => 0
  | d + 1, A, t => plR (fun i => A 14 (lst i).toNat + mbS lst n d (gup A 12 (lst i).toNat 1) (trS lst A t (i + 1))) (fun i => !t.testBit i && safeB A (lst i)) n
theorem plR_no {f : Nat → Int} {ok : Nat → Bool} {i : Nat} (h : ok i = false) : plR f ok (i + 1) = plR f ok i := by simp only [plR]; rw [h]; simp
theorem trS_no1 {lst : Nat → Int} {A : Mem} {t i : Nat} (h : t.testBit i = true) : trS lst A t (i + 1) = trS lst A t i := by simp only [trS]; rw [if_neg (fun q => by rw [h] at q; exact absurd q.1 (by decide))]
theorem trS_no2 {lst : Nat → Int} {A : Mem} {t i : Nat} (h : safeB A (lst i) = false) : trS lst A t (i + 1) = trS lst A t i := by simp only [trS]; rw [if_neg (fun q => by rw [h] at q; exact absurd q.2 (by decide))]
theorem mbS_rg {lst : Nat → Int} {n d t : Nat} {A : Mem} (h : ∀ c, 0 ≤ A 14 c ∧ A 14 c ≤ 999) : 0 ≤ mbS lst n d A t ∧ mbS lst n d A t ≤ 999 * d := by
  induction d generalizing A t with
  | zero => exact ⟨Int.le_refl _, Int.le_refl _⟩
  | succ d ih =>
    simp only [mbS]
    have := plR_rg (f := fun i => A 14 (lst i).toNat + mbS lst n d (gup A 12 (lst i).toNat 1) (trS lst A t (i + 1))) (ok := fun i => !t.testBit i && safeB A (lst i)) (M := 999 * ((d : Int) + 1)) (by omega) (fun i => by have := h (lst i).toNat; have := @ih (trS lst A t (i + 1)) (gup A 12 (lst i).toNat 1) (by rw [gup_ne (by omega)]; exact h); show _ + _ ≤ _; omega) n
    omega
abbrev mX3_mbs0 : MD := (yX3_mostBySets, cX3_mostBySets, 10, (some .int), 0, 0, 0, false, [])
theorem mfX3_mbs0 : MF mX3_mbs0 5 := mfX3_mostBySets 0

set_option maxHeartbeats 1000000 in
set_option maxRecDepth 20000 in
theorem c_mst_0 {L : Nat → Nat} {A : Mem} (hL : LC L) (hg : GVd A) {n : Nat} (hn : n ≤ 16) (hl : ∀ i, i < n → 0 ≤ A 11 i ∧ A 11 i < 100) {t : Nat} (ht : t < 65536) : Ct ((mX3_mostBySets 2)) [gr 1, gr 11, gi n, gi 0, gi (t : Int)] L A (pr (some (gi (mbS (A 11) n 0 A t))) L A) := by
  refine Ct_of (ls := [(0, _), (1, _), (2, _), (3, _), (4, _)]) rfl (by decide) (fun _ => rfl) (fun _ => Nat.le_of_ble_eq_true rfl) ?_
  refine g_iload_n 3 dX3_mostBySets_0 rfl rfl ?_
  refine g_if_gt (tgt := 6) (by omega) dX3_mostBySets_1 (by decide) (fun h1_1 => absurd h1_1 (by omega)) (fun h1_1 => ?_)
  refine g_iconst dX3_mostBySets_4 ?_
  exact g_iret dX3_mostBySets_5 rfl (Nat.le_of_ble_eq_true rfl) (Nat.le_of_ble_eq_true rfl) (pr_i (rfl) (rfl))

set_option maxHeartbeats 1000000 in
set_option maxRecDepth 20000 in
theorem c_mbs_0 {L : Nat → Nat} {A : Mem} (hL : LC L) (hg : GVd A) {n : Nat} (hn : n ≤ 16) (hl : ∀ i, i < n → 0 ≤ A 11 i ∧ A 11 i < 100) {t : Nat} (ht : t < 65536) : Ct mX3_mbs0 [gr 1, gr 11, gi n, gi 0, gi (t : Int)] L A (pr (some (gi (mbS (A 11) n 0 A t))) L A) := by
  refine Ct_of (ls := [(0, _), (1, _), (2, _), (3, _), (4, _)]) rfl (by decide) (fun _ => rfl) (fun _ => Nat.le_of_ble_eq_true rfl) ?_
  refine g_iload_n 3 dX3_mostBySets_0 rfl rfl ?_
  refine g_if_gt (tgt := 6) (by omega) dX3_mostBySets_1 (by decide) (fun h1_2 => absurd h1_2 (by omega)) (fun h1_2 => ?_)
  refine g_iconst dX3_mostBySets_4 ?_
  exact g_iret dX3_mostBySets_5 rfl (Nat.le_of_ble_eq_true rfl) (Nat.le_of_ble_eq_true rfl) (pr_i (rfl) (rfl))

set_option maxHeartbeats 1000000 in
set_option maxRecDepth 20000 in
theorem c_mst_1 {L : Nat → Nat} {A : Mem} (hL : LC L) (hg : GVd A) {n : Nat} (hn : n ≤ 16) (hl : ∀ i, i < n → 0 ≤ A 11 i ∧ A 11 i < 100) {t : Nat} (ht : t < 65536) : Ct ((mX3_mostBySets 2)) [gr 1, gr 11, gi n, gi 1, gi (t : Int)] L A (pr (some (gi (mbS (A 11) n 1 A t))) L A) := by
  refine Ct_of (ls := [(0, _), (1, _), (2, _), (3, _), (4, _)]) rfl (by decide) (fun _ => rfl) (fun _ => Nat.le_of_ble_eq_true rfl) ?_
  refine g_iload_n 3 dX3_mostBySets_0 rfl rfl ?_
  refine g_if_gt (tgt := 6) (by omega) dX3_mostBySets_1 (by decide) (fun h1_1 => ?_) (fun h1_1 => absurd h1_1 (by omega))
  refine g_iconst dX3_mostBySets_6 ?_
  refine g_st2 (ls2 := [(5, _), (0, _), (1, _), (2, _), (3, _), (4, _)]) dX3_mostBySets_7 (by decide) (c1_cr (c1_cr (c1_ci (c1_ci (c1_ci c1_0))))) rfl ?_
  refine g_iconst dX3_mostBySets_9 ?_
  refine g_st2 (ls2 := [(6, _), (5, _), (0, _), (1, _), (2, _), (3, _), (4, _)]) dX3_mostBySets_10 (by decide) (c1_ci (c1_cr (c1_cr (c1_ci (c1_ci (c1_ci c1_0)))))) rfl ?_
  refine g_sub [2, 3, 4, 5, 6, 1, 0] (ls2 := [(0, _), (1, _), (2, _), (3, _), (4, _), (5, _), (6, _)]) rfl ?_
  have hQ12 : (fun i : Nat => GW ((mX3_mostBySets 2)) (pr (some (gi (mbS (A 11) n 1 A t))) L A) 0 0 12 [(0, gr (1)), (1, gr (11)), (2, gi ((n : Int))), (3, gi (1)), (4, gi ((((trS (A 11) A t i) : Nat) : Int))), (5, gi (plR (fun i => A 14 (A 11 i).toNat + mbS (A 11) n 0 (gup A 12 (A 11 i).toNat 1) (trS (A 11) A t (i + 1))) (fun i => !t.testBit i && safeB A (A 11 i)) i)), (6, gi ((i : Int)))] [] L (A)) 0 := by
    refine lp_up (Q := (fun i : Nat => GW ((mX3_mostBySets 2)) (pr (some (gi (mbS (A 11) n 1 A t))) L A) 0 0 12 [(0, gr (1)), (1, gr (11)), (2, gi ((n : Int))), (3, gi (1)), (4, gi ((((trS (A 11) A t i) : Nat) : Int))), (5, gi (plR (fun i => A 14 (A 11 i).toNat + mbS (A 11) n 0 (gup A 12 (A 11 i).toNat 1) (trS (A 11) A t (i + 1))) (fun i => !t.testBit i && safeB A (A 11 i)) i)), (6, gi ((i : Int)))] [] L (A))) (n := n) ?_ (fun i hi12 ih12 => ?_)
    · skip
      refine g_iload 6 dX3_mostBySets_12 rfl ?_
      refine g_iload_n 2 dX3_mostBySets_14 rfl rfl ?_
      refine g_icmp_ge (tgt := 112) (by omega) (by omega) dX3_mostBySets_15 (by decide) (fun h15_2 => ?_) (fun h15_2 => absurd h15_2 (by omega))
      refine g_iload 5 dX3_mostBySets_112 rfl ?_
      exact g_iret dX3_mostBySets_114 rfl (Nat.le_of_ble_eq_true rfl) (Nat.le_of_ble_eq_true rfl) (pr_i (rfl) (rfl))
    · skip
      have hpr := plR_rg (f := (fun i => A 14 (A 11 i).toNat + mbS (A 11) n 0 (gup A 12 (A 11 i).toNat 1) (trS (A 11) A t (i + 1)))) (ok := (fun i => !t.testBit i && safeB A (A 11 i))) (M := 9999) (by omega) (fun c => by have := hg.2.2.1 (A 11 c).toNat; have := mbS_rg (lst := A 11) (n := n) (d := 0) (t := trS (A 11) A t (c + 1)) (A := gup A 12 (A 11 c).toNat 1) (by rw [gup_ne (by decide)]; exact hg.2.2.1); show _ + _ ≤ _; omega) i
      refine g_iload 6 dX3_mostBySets_12 rfl ?_
      refine g_iload_n 2 dX3_mostBySets_14 rfl rfl ?_
      refine g_icmp_ge (tgt := 112) (by omega) (by omega) dX3_mostBySets_15 (by decide) (fun h15_3 => absurd h15_3 (by omega)) (fun h15_3 => ?_)
      refine g_iload 6 dX3_mostBySets_18 rfl ?_
      refine g_aload_n 1 dX3_mostBySets_20 rfl rfl ?_
      refine g_alen rfl (by decide) dX3_mostBySets_21 (n2 (hL 11 rfl)) ?_
      refine g_icmp_ge (tgt := 112) (by omega) (by omega) dX3_mostBySets_22 (by decide) (fun h22_4 => absurd h22_4 (by omega)) (fun h22_4 => ?_)
      refine g_aload_n 1 dX3_mostBySets_25 rfl rfl ?_
      refine g_iload 6 dX3_mostBySets_26 rfl ?_
      refine g_iald (i) (by omega) (by omega) rfl (by decide) dX3_mostBySets_28 (n2 (hL 11 rfl)) (fun h28_5 => ?_)
      refine g_st2 (ls2 := [(7, _), (0, _), (1, _), (2, _), (3, _), (4, _), (5, _), (6, _)]) dX3_mostBySets_29 (by decide) (c1_cr (c1_cr (c1_ci (c1_ci (c1_ci (c1_ci (c1_ci c1_0))))))) rfl ?_
      have hci := hl i hi12
      have hi16 : i < 16 := by omega
      have htr : (trS (A 11) A t i) < 65536 := trS_lt ht (by omega)
      refine g_iload 5 dX3_mostBySets_31 rfl ?_
      refine g_iload 7 dX3_mostBySets_33 rfl ?_
      refine g_ishr (x := (trS (A 11) A t i)) (i := i) dX3_mostBySets_35 ?_
      refine g_iconst dX3_mostBySets_36 ?_
      refine g_iand1 (x := (trS (A 11) A t i)) (i := i) htr hi16 dX3_mostBySets_37 ?_
      refine g_top (y := b2 (t.testBit i)) (by rw [trS_self]) ?_
      refine g_ifb_ne (tgt := 106) dX3_mostBySets_38 (by decide) (fun h38_6 => ?_) (fun h38_6 => ?_)
      · skip
        refine g_inc (ls2 := [(6, _), (7, _), (0, _), (1, _), (2, _), (3, _), (4, _), (5, _)]) 7 dX3_mostBySets_106 rfl (by decide) (c1_ci (c1_cr (c1_cr (c1_ci (c1_ci (c1_ci (c1_ci (c1_ci c1_0)))))))) rfl ?_
        refine g_goto (tgt := 12) dX3_mostBySets_109 (by decide) ?_
        refine g_sub [2, 3, 4, 5, 6, 7, 0] (ls2 := [(0, _), (1, _), (2, _), (3, _), (4, _), (5, _), (6, _)]) rfl ?_
        first | exact g_ls (by rfl) rfl rfl ih12 | exact g_ls (by rw [plR_no (i := i) (by show (!t.testBit i && safeB A (A 11 i)) = false; rw [show t.testBit i = true by assumption]; rfl), trS_no1 (i := i) (by assumption)]; rfl) rfl rfl ih12 | exact g_ls (by rw [plR_no (i := i) (by show (!t.testBit i && safeB A (A 11 i)) = false; rw [show safeB A (A 11 i) = false by assumption]; cases t.testBit i <;> rfl), trS_no2 (i := i) (by assumption)]; rfl) rfl rfl ih12
      · skip
        refine g_aload_n 1 dX3_mostBySets_41 rfl rfl ?_
        refine g_iload 0 dX3_mostBySets_42 rfl ?_
        refine g_cV_i (My := mX1_canBeDugSafely) (gs := [_]) (c_X1_canBeDugSafely hL (x := A 11 i) hci) mfX1_canBeDugSafely cf_2 wi_X1_canBeDugSafely wsl_X1_canBeDugSafely wm_X3_385 dX3_mostBySets_44 (Nat.le_of_ble_eq_true rfl) rfl (by decide) (n2 (hL 1 rfl)) rfl (fun _ => Nat.le_of_ble_eq_true rfl) (Nat.le_of_ble_eq_true rfl) (Nat.le_of_ble_eq_true rfl) rfl rfl ?_
        refine g_ifb_eq (tgt := 106) dX3_mostBySets_47 (by decide) (fun h47_7 => ?_) (fun h47_7 => ?_)
        · skip
          refine g_inc (ls2 := [(6, _), (7, _), (0, _), (1, _), (2, _), (3, _), (4, _), (5, _)]) 7 dX3_mostBySets_106 rfl (by decide) (c1_ci (c1_cr (c1_cr (c1_ci (c1_ci (c1_ci (c1_ci (c1_ci c1_0)))))))) rfl ?_
          refine g_goto (tgt := 12) dX3_mostBySets_109 (by decide) ?_
          refine g_sub [2, 3, 4, 5, 6, 7, 0] (ls2 := [(0, _), (1, _), (2, _), (3, _), (4, _), (5, _), (6, _)]) rfl ?_
          first | exact g_ls (by rfl) rfl rfl ih12 | exact g_ls (by rw [plR_no (i := i) (by show (!t.testBit i && safeB A (A 11 i)) = false; rw [show t.testBit i = true by assumption]; rfl), trS_no1 (i := i) (by assumption)]; rfl) rfl rfl ih12 | exact g_ls (by rw [plR_no (i := i) (by show (!t.testBit i && safeB A (A 11 i)) = false; rw [show safeB A (A 11 i) = false by assumption]; cases t.testBit i <;> rfl), trS_no2 (i := i) (by assumption)]; rfl) rfl rfl ih12
        · skip
          refine g_iload 5 dX3_mostBySets_50 rfl ?_
          refine g_iconst dX3_mostBySets_52 ?_
          refine g_iload 7 dX3_mostBySets_53 rfl ?_
          refine g_ishl1 (i := i) hi16 dX3_mostBySets_55 ?_
          refine g_ior2 (x := (trS (A 11) A t i)) (i := i) htr hi16 dX3_mostBySets_56 ?_
          refine g_top (y := ((trS (A 11) A t (i + 1) : Nat) : Int)) (by simp only [trS]; rw [if_pos ⟨by assumption, by assumption⟩]) ?_
          refine g_st2 (ls2 := [(4, _), (7, _), (0, _), (1, _), (2, _), (3, _), (5, _), (6, _)]) dX3_mostBySets_57 (by decide) (c1_ci (c1_cr (c1_cr (c1_ci (c1_ci (c1_ci (c1_ci (c1_ci c1_0)))))))) rfl ?_
          refine g_aload_n 2 dX3_mostBySets_59 rfl rfl ?_
          refine g_iload 1 dX3_mostBySets_60 rfl ?_
          refine g_cV_i (My := mX1_openForNow) (gs := [_]) (c_X1_openForNow hL (x := A 11 i) hci) mfX1_openForNow cf_2 wi_X1_openForNow wsl_X1_openForNow wm_X3_388 dX3_mostBySets_62 (Nat.le_of_ble_eq_true rfl) rfl (by decide) (n2 (hL 1 rfl)) rfl (fun _ => Nat.le_of_ble_eq_true rfl) (Nat.le_of_ble_eq_true rfl) (Nat.le_of_ble_eq_true rfl) rfl rfl ?_
          refine g_st2 (ls2 := [(8, _), (4, _), (7, _), (0, _), (1, _), (2, _), (3, _), (5, _), (6, _)]) dX3_mostBySets_65 (by decide) (c1_ci (c1_ci (c1_cr (c1_cr (c1_ci (c1_ci (c1_ci (c1_ci c1_0)))))))) rfl ?_
          refine g_aload_n 3 dX3_mostBySets_67 rfl rfl ?_
          refine g_getfr2 (r := 14) cf_2 2 rfl (by decide) (by decide) rfl (by decide) wf_X3_74 dX3_mostBySets_68 (hL 1 rfl) rfl ?_
          refine g_iload 2 dX3_mostBySets_71 rfl ?_
          refine g_iald ((A 11 i).toNat) (by omega) (by omega) rfl (by decide) dX3_mostBySets_73 (n2 (hL 14 rfl)) (fun h73_8 => ?_)
          refine g_top (y := A 14 (A 11 i).toNat) (by rw [gup_ne (by decide)]) ?_
          refine g_aload_n 3 dX3_mostBySets_74 rfl rfl ?_
          refine g_aload_n 4 dX3_mostBySets_75 rfl rfl ?_
          refine g_iload_n 5 dX3_mostBySets_76 rfl rfl ?_
          refine g_iload_n 6 dX3_mostBySets_77 rfl rfl ?_
          refine g_iconst dX3_mostBySets_78 ?_
          refine g_isub dX3_mostBySets_79 ?_
          refine g_top (y := 0) (by omega) ?_
          refine g_iload 1 dX3_mostBySets_80 rfl ?_
          refine g_cS_i (My := mX3_mbs0) (gs := [_, _, _, _, _]) (c_mbs_0 (A := gup A 12 (A 11 i).toNat 1) hL (GVd_open hg) hn (fun j hj => by rw [gup_ne (by decide)]; exact hl j hj) (t := trS (A 11) A t (i + 1)) (trS_lt ht (by omega))) mfX3_mbs0 rfl wst_X3_mostBySets wm_X3_328 dX3_mostBySets_82 (Nat.le_of_ble_eq_true rfl) rfl (fun _ => Nat.le_of_ble_eq_true rfl) (Nat.le_of_ble_eq_true rfl) (Nat.le_of_ble_eq_true rfl) rfl rfl ?_
          rw [gup_ne (show 11 ≠ 12 by decide)]
          have hmr := mbS_rg (lst := A 11) (n := n) (d := 0) (t := trS (A 11) A t (i + 1)) (A := gup A 12 (A 11 i).toNat 1) (by rw [gup_ne (by decide)]; exact hg.2.2.1); have h14 := hg.2.2.1 (A 11 i).toNat; have h12 := hg.1 (A 11 i).toNat
          refine g_iadd dX3_mostBySets_85 ?_
          refine g_st2 (ls2 := [(9, _), (8, _), (4, _), (7, _), (0, _), (1, _), (2, _), (3, _), (5, _), (6, _)]) dX3_mostBySets_86 (by decide) (c1_ci (c1_ci (c1_ci (c1_cr (c1_cr (c1_ci (c1_ci (c1_ci (c1_ci c1_0))))))))) rfl ?_
          refine g_aload_n 4 dX3_mostBySets_88 rfl rfl ?_
          refine g_getfr2 (r := 12) cf_2 0 rfl (by decide) (by decide) rfl (by decide) wf_X3_59 dX3_mostBySets_89 (hL 1 rfl) rfl ?_
          refine g_iload 3 dX3_mostBySets_92 rfl ?_
          refine g_iload 1 dX3_mostBySets_94 rfl ?_
          refine g_iast ((A 11 i).toNat) (by omega) (by omega) (by omega) rfl (by decide) dX3_mostBySets_96 (n2 (hL 12 rfl)) ?_
          refine g_ls (A2 := A) rfl rfl (gup_back _ _ _ _) ?_
          refine g_iload 8 dX3_mostBySets_97 rfl ?_
          refine g_iload 0 dX3_mostBySets_99 rfl ?_
          refine g_max (by omega) (by omega) wm_X3_369 wst_J9_max_7cf53 wn_J9 wo_J9_max_7cf53 (Nat.le_of_ble_eq_true rfl) (Nat.le_of_ble_eq_true rfl) (by decide) dX3_mostBySets_101 ?_
          refine g_top (y := plR (fun i => A 14 (A 11 i).toNat + mbS (A 11) n 0 (gup A 12 (A 11 i).toNat 1) (trS (A 11) A t (i + 1))) (fun i => !t.testBit i && safeB A (A 11 i)) (i + 1)) (by simp only [plR]; rw [show safeB A (A 11 i) = true by assumption, show t.testBit i = false by assumption]; simp only [Bool.not_false, Bool.and_self, true_and]) ?_
          refine g_st2 (ls2 := [(5, _), (9, _), (8, _), (4, _), (7, _), (0, _), (1, _), (2, _), (3, _), (6, _)]) dX3_mostBySets_104 (by decide) (c1_ci (c1_ci (c1_ci (c1_ci (c1_cr (c1_cr (c1_ci (c1_ci (c1_ci (c1_ci c1_0)))))))))) rfl ?_
          refine g_inc (ls2 := [(6, _), (5, _), (9, _), (8, _), (4, _), (7, _), (0, _), (1, _), (2, _), (3, _)]) 9 dX3_mostBySets_106 rfl (by decide) (c1_ci (c1_ci (c1_ci (c1_ci (c1_ci (c1_cr (c1_cr (c1_ci (c1_ci (c1_ci c1_0)))))))))) rfl ?_
          refine g_goto (tgt := 12) dX3_mostBySets_109 (by decide) ?_
          refine g_sub [6, 7, 8, 9, 4, 1, 0] (ls2 := [(0, _), (1, _), (2, _), (3, _), (4, _), (5, _), (6, _)]) rfl ?_
          first | exact g_ls (by rfl) rfl rfl ih12 | exact g_ls (by rw [plR_no (i := i) (by show (!t.testBit i && safeB A (A 11 i)) = false; rw [show t.testBit i = true by assumption]; rfl), trS_no1 (i := i) (by assumption)]; rfl) rfl rfl ih12 | exact g_ls (by rw [plR_no (i := i) (by show (!t.testBit i && safeB A (A 11 i)) = false; rw [show safeB A (A 11 i) = false by assumption]; cases t.testBit i <;> rfl), trS_no2 (i := i) (by assumption)]; rfl) rfl rfl ih12
  exact g_ls (by rfl) rfl rfl hQ12

set_option maxHeartbeats 1000000 in
set_option maxRecDepth 20000 in
theorem c_mbs_1 {L : Nat → Nat} {A : Mem} (hL : LC L) (hg : GVd A) {n : Nat} (hn : n ≤ 16) (hl : ∀ i, i < n → 0 ≤ A 11 i ∧ A 11 i < 100) {t : Nat} (ht : t < 65536) : Ct ((mX3_mostBySets 0)) [gr 1, gr 11, gi n, gi 1, gi (t : Int)] L A (pr (some (gi (mbS (A 11) n 1 A t))) L A) := by
  refine Ct_of (ls := [(0, _), (1, _), (2, _), (3, _), (4, _)]) rfl (by decide) (fun _ => rfl) (fun _ => Nat.le_of_ble_eq_true rfl) ?_
  refine g_iload_n 3 dX3_mostBySets_0 rfl rfl ?_
  refine g_if_gt (tgt := 6) (by omega) dX3_mostBySets_1 (by decide) (fun h1_9 => ?_) (fun h1_9 => absurd h1_9 (by omega))
  refine g_iconst dX3_mostBySets_6 ?_
  refine g_st2 (ls2 := [(5, _), (0, _), (1, _), (2, _), (3, _), (4, _)]) dX3_mostBySets_7 (by decide) (c1_cr (c1_cr (c1_ci (c1_ci (c1_ci c1_0))))) rfl ?_
  refine g_iconst dX3_mostBySets_9 ?_
  refine g_st2 (ls2 := [(6, _), (5, _), (0, _), (1, _), (2, _), (3, _), (4, _)]) dX3_mostBySets_10 (by decide) (c1_ci (c1_cr (c1_cr (c1_ci (c1_ci (c1_ci c1_0)))))) rfl ?_
  refine g_sub [2, 3, 4, 5, 6, 1, 0] (ls2 := [(0, _), (1, _), (2, _), (3, _), (4, _), (5, _), (6, _)]) rfl ?_
  have hQ12 : (fun i : Nat => GW ((mX3_mostBySets 0)) (pr (some (gi (mbS (A 11) n 1 A t))) L A) 0 0 12 [(0, gr (1)), (1, gr (11)), (2, gi ((n : Int))), (3, gi (1)), (4, gi ((((trS (A 11) A t i) : Nat) : Int))), (5, gi (plR (fun i => A 14 (A 11 i).toNat + mbS (A 11) n 0 (gup A 12 (A 11 i).toNat 1) (trS (A 11) A t (i + 1))) (fun i => !t.testBit i && safeB A (A 11 i)) i)), (6, gi ((i : Int)))] [] L (A)) 0 := by
    refine lp_up (Q := (fun i : Nat => GW ((mX3_mostBySets 0)) (pr (some (gi (mbS (A 11) n 1 A t))) L A) 0 0 12 [(0, gr (1)), (1, gr (11)), (2, gi ((n : Int))), (3, gi (1)), (4, gi ((((trS (A 11) A t i) : Nat) : Int))), (5, gi (plR (fun i => A 14 (A 11 i).toNat + mbS (A 11) n 0 (gup A 12 (A 11 i).toNat 1) (trS (A 11) A t (i + 1))) (fun i => !t.testBit i && safeB A (A 11 i)) i)), (6, gi ((i : Int)))] [] L (A))) (n := n) ?_ (fun i hi12 ih12 => ?_)
    · skip
      refine g_iload 6 dX3_mostBySets_12 rfl ?_
      refine g_iload_n 2 dX3_mostBySets_14 rfl rfl ?_
      refine g_icmp_ge (tgt := 112) (by omega) (by omega) dX3_mostBySets_15 (by decide) (fun h15_10 => ?_) (fun h15_10 => absurd h15_10 (by omega))
      refine g_iload 5 dX3_mostBySets_112 rfl ?_
      exact g_iret dX3_mostBySets_114 rfl (Nat.le_of_ble_eq_true rfl) (Nat.le_of_ble_eq_true rfl) (pr_i (rfl) (rfl))
    · skip
      have hpr := plR_rg (f := (fun i => A 14 (A 11 i).toNat + mbS (A 11) n 0 (gup A 12 (A 11 i).toNat 1) (trS (A 11) A t (i + 1)))) (ok := (fun i => !t.testBit i && safeB A (A 11 i))) (M := 9999) (by omega) (fun c => by have := hg.2.2.1 (A 11 c).toNat; have := mbS_rg (lst := A 11) (n := n) (d := 0) (t := trS (A 11) A t (c + 1)) (A := gup A 12 (A 11 c).toNat 1) (by rw [gup_ne (by decide)]; exact hg.2.2.1); show _ + _ ≤ _; omega) i
      refine g_iload 6 dX3_mostBySets_12 rfl ?_
      refine g_iload_n 2 dX3_mostBySets_14 rfl rfl ?_
      refine g_icmp_ge (tgt := 112) (by omega) (by omega) dX3_mostBySets_15 (by decide) (fun h15_11 => absurd h15_11 (by omega)) (fun h15_11 => ?_)
      refine g_iload 6 dX3_mostBySets_18 rfl ?_
      refine g_aload_n 1 dX3_mostBySets_20 rfl rfl ?_
      refine g_alen rfl (by decide) dX3_mostBySets_21 (n2 (hL 11 rfl)) ?_
      refine g_icmp_ge (tgt := 112) (by omega) (by omega) dX3_mostBySets_22 (by decide) (fun h22_12 => absurd h22_12 (by omega)) (fun h22_12 => ?_)
      refine g_aload_n 1 dX3_mostBySets_25 rfl rfl ?_
      refine g_iload 6 dX3_mostBySets_26 rfl ?_
      refine g_iald (i) (by omega) (by omega) rfl (by decide) dX3_mostBySets_28 (n2 (hL 11 rfl)) (fun h28_13 => ?_)
      refine g_st2 (ls2 := [(7, _), (0, _), (1, _), (2, _), (3, _), (4, _), (5, _), (6, _)]) dX3_mostBySets_29 (by decide) (c1_cr (c1_cr (c1_ci (c1_ci (c1_ci (c1_ci (c1_ci c1_0))))))) rfl ?_
      have hci := hl i hi12
      have hi16 : i < 16 := by omega
      have htr : (trS (A 11) A t i) < 65536 := trS_lt ht (by omega)
      refine g_iload 5 dX3_mostBySets_31 rfl ?_
      refine g_iload 7 dX3_mostBySets_33 rfl ?_
      refine g_ishr (x := (trS (A 11) A t i)) (i := i) dX3_mostBySets_35 ?_
      refine g_iconst dX3_mostBySets_36 ?_
      refine g_iand1 (x := (trS (A 11) A t i)) (i := i) htr hi16 dX3_mostBySets_37 ?_
      refine g_top (y := b2 (t.testBit i)) (by rw [trS_self]) ?_
      refine g_ifb_ne (tgt := 106) dX3_mostBySets_38 (by decide) (fun h38_14 => ?_) (fun h38_14 => ?_)
      · skip
        refine g_inc (ls2 := [(6, _), (7, _), (0, _), (1, _), (2, _), (3, _), (4, _), (5, _)]) 7 dX3_mostBySets_106 rfl (by decide) (c1_ci (c1_cr (c1_cr (c1_ci (c1_ci (c1_ci (c1_ci (c1_ci c1_0)))))))) rfl ?_
        refine g_goto (tgt := 12) dX3_mostBySets_109 (by decide) ?_
        refine g_sub [2, 3, 4, 5, 6, 7, 0] (ls2 := [(0, _), (1, _), (2, _), (3, _), (4, _), (5, _), (6, _)]) rfl ?_
        first | exact g_ls (by rfl) rfl rfl ih12 | exact g_ls (by rw [plR_no (i := i) (by show (!t.testBit i && safeB A (A 11 i)) = false; rw [show t.testBit i = true by assumption]; rfl), trS_no1 (i := i) (by assumption)]; rfl) rfl rfl ih12 | exact g_ls (by rw [plR_no (i := i) (by show (!t.testBit i && safeB A (A 11 i)) = false; rw [show safeB A (A 11 i) = false by assumption]; cases t.testBit i <;> rfl), trS_no2 (i := i) (by assumption)]; rfl) rfl rfl ih12
      · skip
        refine g_aload_n 1 dX3_mostBySets_41 rfl rfl ?_
        refine g_iload 0 dX3_mostBySets_42 rfl ?_
        refine g_cV_i (My := mX1_canBeDugSafely) (gs := [_]) (c_X1_canBeDugSafely hL (x := A 11 i) hci) mfX1_canBeDugSafely cf_2 wi_X1_canBeDugSafely wsl_X1_canBeDugSafely wm_X3_385 dX3_mostBySets_44 (Nat.le_of_ble_eq_true rfl) rfl (by decide) (n2 (hL 1 rfl)) rfl (fun _ => Nat.le_of_ble_eq_true rfl) (Nat.le_of_ble_eq_true rfl) (Nat.le_of_ble_eq_true rfl) rfl rfl ?_
        refine g_ifb_eq (tgt := 106) dX3_mostBySets_47 (by decide) (fun h47_15 => ?_) (fun h47_15 => ?_)
        · skip
          refine g_inc (ls2 := [(6, _), (7, _), (0, _), (1, _), (2, _), (3, _), (4, _), (5, _)]) 7 dX3_mostBySets_106 rfl (by decide) (c1_ci (c1_cr (c1_cr (c1_ci (c1_ci (c1_ci (c1_ci (c1_ci c1_0)))))))) rfl ?_
          refine g_goto (tgt := 12) dX3_mostBySets_109 (by decide) ?_
          refine g_sub [2, 3, 4, 5, 6, 7, 0] (ls2 := [(0, _), (1, _), (2, _), (3, _), (4, _), (5, _), (6, _)]) rfl ?_
          first | exact g_ls (by rfl) rfl rfl ih12 | exact g_ls (by rw [plR_no (i := i) (by show (!t.testBit i && safeB A (A 11 i)) = false; rw [show t.testBit i = true by assumption]; rfl), trS_no1 (i := i) (by assumption)]; rfl) rfl rfl ih12 | exact g_ls (by rw [plR_no (i := i) (by show (!t.testBit i && safeB A (A 11 i)) = false; rw [show safeB A (A 11 i) = false by assumption]; cases t.testBit i <;> rfl), trS_no2 (i := i) (by assumption)]; rfl) rfl rfl ih12
        · skip
          refine g_iload 5 dX3_mostBySets_50 rfl ?_
          refine g_iconst dX3_mostBySets_52 ?_
          refine g_iload 7 dX3_mostBySets_53 rfl ?_
          refine g_ishl1 (i := i) hi16 dX3_mostBySets_55 ?_
          refine g_ior2 (x := (trS (A 11) A t i)) (i := i) htr hi16 dX3_mostBySets_56 ?_
          refine g_top (y := ((trS (A 11) A t (i + 1) : Nat) : Int)) (by simp only [trS]; rw [if_pos ⟨by assumption, by assumption⟩]) ?_
          refine g_st2 (ls2 := [(4, _), (7, _), (0, _), (1, _), (2, _), (3, _), (5, _), (6, _)]) dX3_mostBySets_57 (by decide) (c1_ci (c1_cr (c1_cr (c1_ci (c1_ci (c1_ci (c1_ci (c1_ci c1_0)))))))) rfl ?_
          refine g_aload_n 2 dX3_mostBySets_59 rfl rfl ?_
          refine g_iload 1 dX3_mostBySets_60 rfl ?_
          refine g_cV_i (My := mX1_openForNow) (gs := [_]) (c_X1_openForNow hL (x := A 11 i) hci) mfX1_openForNow cf_2 wi_X1_openForNow wsl_X1_openForNow wm_X3_388 dX3_mostBySets_62 (Nat.le_of_ble_eq_true rfl) rfl (by decide) (n2 (hL 1 rfl)) rfl (fun _ => Nat.le_of_ble_eq_true rfl) (Nat.le_of_ble_eq_true rfl) (Nat.le_of_ble_eq_true rfl) rfl rfl ?_
          refine g_st2 (ls2 := [(8, _), (4, _), (7, _), (0, _), (1, _), (2, _), (3, _), (5, _), (6, _)]) dX3_mostBySets_65 (by decide) (c1_ci (c1_ci (c1_cr (c1_cr (c1_ci (c1_ci (c1_ci (c1_ci c1_0)))))))) rfl ?_
          refine g_aload_n 3 dX3_mostBySets_67 rfl rfl ?_
          refine g_getfr2 (r := 14) cf_2 2 rfl (by decide) (by decide) rfl (by decide) wf_X3_74 dX3_mostBySets_68 (hL 1 rfl) rfl ?_
          refine g_iload 2 dX3_mostBySets_71 rfl ?_
          refine g_iald ((A 11 i).toNat) (by omega) (by omega) rfl (by decide) dX3_mostBySets_73 (n2 (hL 14 rfl)) (fun h73_16 => ?_)
          refine g_top (y := A 14 (A 11 i).toNat) (by rw [gup_ne (by decide)]) ?_
          refine g_aload_n 3 dX3_mostBySets_74 rfl rfl ?_
          refine g_aload_n 4 dX3_mostBySets_75 rfl rfl ?_
          refine g_iload_n 5 dX3_mostBySets_76 rfl rfl ?_
          refine g_iload_n 6 dX3_mostBySets_77 rfl rfl ?_
          refine g_iconst dX3_mostBySets_78 ?_
          refine g_isub dX3_mostBySets_79 ?_
          refine g_top (y := 0) (by omega) ?_
          refine g_iload 1 dX3_mostBySets_80 rfl ?_
          refine g_cS_i (My := mX3_mbs0) (gs := [_, _, _, _, _]) (c_mbs_0 (A := gup A 12 (A 11 i).toNat 1) hL (GVd_open hg) hn (fun j hj => by rw [gup_ne (by decide)]; exact hl j hj) (t := trS (A 11) A t (i + 1)) (trS_lt ht (by omega))) mfX3_mbs0 rfl wst_X3_mostBySets wm_X3_328 dX3_mostBySets_82 (Nat.le_of_ble_eq_true rfl) rfl (fun _ => Nat.le_of_ble_eq_true rfl) (Nat.le_of_ble_eq_true rfl) (Nat.le_of_ble_eq_true rfl) rfl rfl ?_
          rw [gup_ne (show 11 ≠ 12 by decide)]
          have hmr := mbS_rg (lst := A 11) (n := n) (d := 0) (t := trS (A 11) A t (i + 1)) (A := gup A 12 (A 11 i).toNat 1) (by rw [gup_ne (by decide)]; exact hg.2.2.1); have h14 := hg.2.2.1 (A 11 i).toNat; have h12 := hg.1 (A 11 i).toNat
          refine g_iadd dX3_mostBySets_85 ?_
          refine g_st2 (ls2 := [(9, _), (8, _), (4, _), (7, _), (0, _), (1, _), (2, _), (3, _), (5, _), (6, _)]) dX3_mostBySets_86 (by decide) (c1_ci (c1_ci (c1_ci (c1_cr (c1_cr (c1_ci (c1_ci (c1_ci (c1_ci c1_0))))))))) rfl ?_
          refine g_aload_n 4 dX3_mostBySets_88 rfl rfl ?_
          refine g_getfr2 (r := 12) cf_2 0 rfl (by decide) (by decide) rfl (by decide) wf_X3_59 dX3_mostBySets_89 (hL 1 rfl) rfl ?_
          refine g_iload 3 dX3_mostBySets_92 rfl ?_
          refine g_iload 1 dX3_mostBySets_94 rfl ?_
          refine g_iast ((A 11 i).toNat) (by omega) (by omega) (by omega) rfl (by decide) dX3_mostBySets_96 (n2 (hL 12 rfl)) ?_
          refine g_ls (A2 := A) rfl rfl (gup_back _ _ _ _) ?_
          refine g_iload 8 dX3_mostBySets_97 rfl ?_
          refine g_iload 0 dX3_mostBySets_99 rfl ?_
          refine g_max (by omega) (by omega) wm_X3_369 wst_J9_max_7cf53 wn_J9 wo_J9_max_7cf53 (Nat.le_of_ble_eq_true rfl) (Nat.le_of_ble_eq_true rfl) (by decide) dX3_mostBySets_101 ?_
          refine g_top (y := plR (fun i => A 14 (A 11 i).toNat + mbS (A 11) n 0 (gup A 12 (A 11 i).toNat 1) (trS (A 11) A t (i + 1))) (fun i => !t.testBit i && safeB A (A 11 i)) (i + 1)) (by simp only [plR]; rw [show safeB A (A 11 i) = true by assumption, show t.testBit i = false by assumption]; simp only [Bool.not_false, Bool.and_self, true_and]) ?_
          refine g_st2 (ls2 := [(5, _), (9, _), (8, _), (4, _), (7, _), (0, _), (1, _), (2, _), (3, _), (6, _)]) dX3_mostBySets_104 (by decide) (c1_ci (c1_ci (c1_ci (c1_ci (c1_cr (c1_cr (c1_ci (c1_ci (c1_ci (c1_ci c1_0)))))))))) rfl ?_
          refine g_inc (ls2 := [(6, _), (5, _), (9, _), (8, _), (4, _), (7, _), (0, _), (1, _), (2, _), (3, _)]) 9 dX3_mostBySets_106 rfl (by decide) (c1_ci (c1_ci (c1_ci (c1_ci (c1_ci (c1_cr (c1_cr (c1_ci (c1_ci (c1_ci c1_0)))))))))) rfl ?_
          refine g_goto (tgt := 12) dX3_mostBySets_109 (by decide) ?_
          refine g_sub [6, 7, 8, 9, 4, 1, 0] (ls2 := [(0, _), (1, _), (2, _), (3, _), (4, _), (5, _), (6, _)]) rfl ?_
          first | exact g_ls (by rfl) rfl rfl ih12 | exact g_ls (by rw [plR_no (i := i) (by show (!t.testBit i && safeB A (A 11 i)) = false; rw [show t.testBit i = true by assumption]; rfl), trS_no1 (i := i) (by assumption)]; rfl) rfl rfl ih12 | exact g_ls (by rw [plR_no (i := i) (by show (!t.testBit i && safeB A (A 11 i)) = false; rw [show safeB A (A 11 i) = false by assumption]; cases t.testBit i <;> rfl), trS_no2 (i := i) (by assumption)]; rfl) rfl rfl ih12
  exact g_ls (by rfl) rfl rfl hQ12

set_option maxHeartbeats 1000000 in
set_option maxRecDepth 20000 in
theorem c_mst_2 {L : Nat → Nat} {A : Mem} (hL : LC L) (hg : GVd A) {n : Nat} (hn : n ≤ 16) (hl : ∀ i, i < n → 0 ≤ A 11 i ∧ A 11 i < 100) {t : Nat} (ht : t < 65536) : Ct ((mX3_mostBySets 2)) [gr 1, gr 11, gi n, gi 2, gi (t : Int)] L A (pr (some (gi (mbS (A 11) n 2 A t))) L A) := by
  refine Ct_of (ls := [(0, _), (1, _), (2, _), (3, _), (4, _)]) rfl (by decide) (fun _ => rfl) (fun _ => Nat.le_of_ble_eq_true rfl) ?_
  refine g_iload_n 3 dX3_mostBySets_0 rfl rfl ?_
  refine g_if_gt (tgt := 6) (by omega) dX3_mostBySets_1 (by decide) (fun h1_1 => ?_) (fun h1_1 => absurd h1_1 (by omega))
  refine g_iconst dX3_mostBySets_6 ?_
  refine g_st2 (ls2 := [(5, _), (0, _), (1, _), (2, _), (3, _), (4, _)]) dX3_mostBySets_7 (by decide) (c1_cr (c1_cr (c1_ci (c1_ci (c1_ci c1_0))))) rfl ?_
  refine g_iconst dX3_mostBySets_9 ?_
  refine g_st2 (ls2 := [(6, _), (5, _), (0, _), (1, _), (2, _), (3, _), (4, _)]) dX3_mostBySets_10 (by decide) (c1_ci (c1_cr (c1_cr (c1_ci (c1_ci (c1_ci c1_0)))))) rfl ?_
  refine g_sub [2, 3, 4, 5, 6, 1, 0] (ls2 := [(0, _), (1, _), (2, _), (3, _), (4, _), (5, _), (6, _)]) rfl ?_
  have hQ12 : (fun i : Nat => GW ((mX3_mostBySets 2)) (pr (some (gi (mbS (A 11) n 2 A t))) L A) 0 0 12 [(0, gr (1)), (1, gr (11)), (2, gi ((n : Int))), (3, gi (2)), (4, gi ((((trS (A 11) A t i) : Nat) : Int))), (5, gi (plR (fun i => A 14 (A 11 i).toNat + mbS (A 11) n 1 (gup A 12 (A 11 i).toNat 1) (trS (A 11) A t (i + 1))) (fun i => !t.testBit i && safeB A (A 11 i)) i)), (6, gi ((i : Int)))] [] L (A)) 0 := by
    refine lp_up (Q := (fun i : Nat => GW ((mX3_mostBySets 2)) (pr (some (gi (mbS (A 11) n 2 A t))) L A) 0 0 12 [(0, gr (1)), (1, gr (11)), (2, gi ((n : Int))), (3, gi (2)), (4, gi ((((trS (A 11) A t i) : Nat) : Int))), (5, gi (plR (fun i => A 14 (A 11 i).toNat + mbS (A 11) n 1 (gup A 12 (A 11 i).toNat 1) (trS (A 11) A t (i + 1))) (fun i => !t.testBit i && safeB A (A 11 i)) i)), (6, gi ((i : Int)))] [] L (A))) (n := n) ?_ (fun i hi12 ih12 => ?_)
    · skip
      refine g_iload 6 dX3_mostBySets_12 rfl ?_
      refine g_iload_n 2 dX3_mostBySets_14 rfl rfl ?_
      refine g_icmp_ge (tgt := 112) (by omega) (by omega) dX3_mostBySets_15 (by decide) (fun h15_2 => ?_) (fun h15_2 => absurd h15_2 (by omega))
      refine g_iload 5 dX3_mostBySets_112 rfl ?_
      exact g_iret dX3_mostBySets_114 rfl (Nat.le_of_ble_eq_true rfl) (Nat.le_of_ble_eq_true rfl) (pr_i (rfl) (rfl))
    · skip
      have hpr := plR_rg (f := (fun i => A 14 (A 11 i).toNat + mbS (A 11) n 1 (gup A 12 (A 11 i).toNat 1) (trS (A 11) A t (i + 1)))) (ok := (fun i => !t.testBit i && safeB A (A 11 i))) (M := 9999) (by omega) (fun c => by have := hg.2.2.1 (A 11 c).toNat; have := mbS_rg (lst := A 11) (n := n) (d := 1) (t := trS (A 11) A t (c + 1)) (A := gup A 12 (A 11 c).toNat 1) (by rw [gup_ne (by decide)]; exact hg.2.2.1); show _ + _ ≤ _; omega) i
      refine g_iload 6 dX3_mostBySets_12 rfl ?_
      refine g_iload_n 2 dX3_mostBySets_14 rfl rfl ?_
      refine g_icmp_ge (tgt := 112) (by omega) (by omega) dX3_mostBySets_15 (by decide) (fun h15_3 => absurd h15_3 (by omega)) (fun h15_3 => ?_)
      refine g_iload 6 dX3_mostBySets_18 rfl ?_
      refine g_aload_n 1 dX3_mostBySets_20 rfl rfl ?_
      refine g_alen rfl (by decide) dX3_mostBySets_21 (n2 (hL 11 rfl)) ?_
      refine g_icmp_ge (tgt := 112) (by omega) (by omega) dX3_mostBySets_22 (by decide) (fun h22_4 => absurd h22_4 (by omega)) (fun h22_4 => ?_)
      refine g_aload_n 1 dX3_mostBySets_25 rfl rfl ?_
      refine g_iload 6 dX3_mostBySets_26 rfl ?_
      refine g_iald (i) (by omega) (by omega) rfl (by decide) dX3_mostBySets_28 (n2 (hL 11 rfl)) (fun h28_5 => ?_)
      refine g_st2 (ls2 := [(7, _), (0, _), (1, _), (2, _), (3, _), (4, _), (5, _), (6, _)]) dX3_mostBySets_29 (by decide) (c1_cr (c1_cr (c1_ci (c1_ci (c1_ci (c1_ci (c1_ci c1_0))))))) rfl ?_
      have hci := hl i hi12
      have hi16 : i < 16 := by omega
      have htr : (trS (A 11) A t i) < 65536 := trS_lt ht (by omega)
      refine g_iload 5 dX3_mostBySets_31 rfl ?_
      refine g_iload 7 dX3_mostBySets_33 rfl ?_
      refine g_ishr (x := (trS (A 11) A t i)) (i := i) dX3_mostBySets_35 ?_
      refine g_iconst dX3_mostBySets_36 ?_
      refine g_iand1 (x := (trS (A 11) A t i)) (i := i) htr hi16 dX3_mostBySets_37 ?_
      refine g_top (y := b2 (t.testBit i)) (by rw [trS_self]) ?_
      refine g_ifb_ne (tgt := 106) dX3_mostBySets_38 (by decide) (fun h38_6 => ?_) (fun h38_6 => ?_)
      · skip
        refine g_inc (ls2 := [(6, _), (7, _), (0, _), (1, _), (2, _), (3, _), (4, _), (5, _)]) 7 dX3_mostBySets_106 rfl (by decide) (c1_ci (c1_cr (c1_cr (c1_ci (c1_ci (c1_ci (c1_ci (c1_ci c1_0)))))))) rfl ?_
        refine g_goto (tgt := 12) dX3_mostBySets_109 (by decide) ?_
        refine g_sub [2, 3, 4, 5, 6, 7, 0] (ls2 := [(0, _), (1, _), (2, _), (3, _), (4, _), (5, _), (6, _)]) rfl ?_
        first | exact g_ls (by rfl) rfl rfl ih12 | exact g_ls (by rw [plR_no (i := i) (by show (!t.testBit i && safeB A (A 11 i)) = false; rw [show t.testBit i = true by assumption]; rfl), trS_no1 (i := i) (by assumption)]; rfl) rfl rfl ih12 | exact g_ls (by rw [plR_no (i := i) (by show (!t.testBit i && safeB A (A 11 i)) = false; rw [show safeB A (A 11 i) = false by assumption]; cases t.testBit i <;> rfl), trS_no2 (i := i) (by assumption)]; rfl) rfl rfl ih12
      · skip
        refine g_aload_n 1 dX3_mostBySets_41 rfl rfl ?_
        refine g_iload 0 dX3_mostBySets_42 rfl ?_
        refine g_cV_i (My := mX1_canBeDugSafely) (gs := [_]) (c_X1_canBeDugSafely hL (x := A 11 i) hci) mfX1_canBeDugSafely cf_2 wi_X1_canBeDugSafely wsl_X1_canBeDugSafely wm_X3_385 dX3_mostBySets_44 (Nat.le_of_ble_eq_true rfl) rfl (by decide) (n2 (hL 1 rfl)) rfl (fun _ => Nat.le_of_ble_eq_true rfl) (Nat.le_of_ble_eq_true rfl) (Nat.le_of_ble_eq_true rfl) rfl rfl ?_
        refine g_ifb_eq (tgt := 106) dX3_mostBySets_47 (by decide) (fun h47_7 => ?_) (fun h47_7 => ?_)
        · skip
          refine g_inc (ls2 := [(6, _), (7, _), (0, _), (1, _), (2, _), (3, _), (4, _), (5, _)]) 7 dX3_mostBySets_106 rfl (by decide) (c1_ci (c1_cr (c1_cr (c1_ci (c1_ci (c1_ci (c1_ci (c1_ci c1_0)))))))) rfl ?_
          refine g_goto (tgt := 12) dX3_mostBySets_109 (by decide) ?_
          refine g_sub [2, 3, 4, 5, 6, 7, 0] (ls2 := [(0, _), (1, _), (2, _), (3, _), (4, _), (5, _), (6, _)]) rfl ?_
          first | exact g_ls (by rfl) rfl rfl ih12 | exact g_ls (by rw [plR_no (i := i) (by show (!t.testBit i && safeB A (A 11 i)) = false; rw [show t.testBit i = true by assumption]; rfl), trS_no1 (i := i) (by assumption)]; rfl) rfl rfl ih12 | exact g_ls (by rw [plR_no (i := i) (by show (!t.testBit i && safeB A (A 11 i)) = false; rw [show safeB A (A 11 i) = false by assumption]; cases t.testBit i <;> rfl), trS_no2 (i := i) (by assumption)]; rfl) rfl rfl ih12
        · skip
          refine g_iload 5 dX3_mostBySets_50 rfl ?_
          refine g_iconst dX3_mostBySets_52 ?_
          refine g_iload 7 dX3_mostBySets_53 rfl ?_
          refine g_ishl1 (i := i) hi16 dX3_mostBySets_55 ?_
          refine g_ior2 (x := (trS (A 11) A t i)) (i := i) htr hi16 dX3_mostBySets_56 ?_
          refine g_top (y := ((trS (A 11) A t (i + 1) : Nat) : Int)) (by simp only [trS]; rw [if_pos ⟨by assumption, by assumption⟩]) ?_
          refine g_st2 (ls2 := [(4, _), (7, _), (0, _), (1, _), (2, _), (3, _), (5, _), (6, _)]) dX3_mostBySets_57 (by decide) (c1_ci (c1_cr (c1_cr (c1_ci (c1_ci (c1_ci (c1_ci (c1_ci c1_0)))))))) rfl ?_
          refine g_aload_n 2 dX3_mostBySets_59 rfl rfl ?_
          refine g_iload 1 dX3_mostBySets_60 rfl ?_
          refine g_cV_i (My := mX1_openForNow) (gs := [_]) (c_X1_openForNow hL (x := A 11 i) hci) mfX1_openForNow cf_2 wi_X1_openForNow wsl_X1_openForNow wm_X3_388 dX3_mostBySets_62 (Nat.le_of_ble_eq_true rfl) rfl (by decide) (n2 (hL 1 rfl)) rfl (fun _ => Nat.le_of_ble_eq_true rfl) (Nat.le_of_ble_eq_true rfl) (Nat.le_of_ble_eq_true rfl) rfl rfl ?_
          refine g_st2 (ls2 := [(8, _), (4, _), (7, _), (0, _), (1, _), (2, _), (3, _), (5, _), (6, _)]) dX3_mostBySets_65 (by decide) (c1_ci (c1_ci (c1_cr (c1_cr (c1_ci (c1_ci (c1_ci (c1_ci c1_0)))))))) rfl ?_
          refine g_aload_n 3 dX3_mostBySets_67 rfl rfl ?_
          refine g_getfr2 (r := 14) cf_2 2 rfl (by decide) (by decide) rfl (by decide) wf_X3_74 dX3_mostBySets_68 (hL 1 rfl) rfl ?_
          refine g_iload 2 dX3_mostBySets_71 rfl ?_
          refine g_iald ((A 11 i).toNat) (by omega) (by omega) rfl (by decide) dX3_mostBySets_73 (n2 (hL 14 rfl)) (fun h73_8 => ?_)
          refine g_top (y := A 14 (A 11 i).toNat) (by rw [gup_ne (by decide)]) ?_
          refine g_aload_n 3 dX3_mostBySets_74 rfl rfl ?_
          refine g_aload_n 4 dX3_mostBySets_75 rfl rfl ?_
          refine g_iload_n 5 dX3_mostBySets_76 rfl rfl ?_
          refine g_iload_n 6 dX3_mostBySets_77 rfl rfl ?_
          refine g_iconst dX3_mostBySets_78 ?_
          refine g_isub dX3_mostBySets_79 ?_
          refine g_top (y := 1) (by omega) ?_
          refine g_iload 1 dX3_mostBySets_80 rfl ?_
          refine g_cS_i (My := (mX3_mostBySets 0)) (gs := [_, _, _, _, _]) (c_mbs_1 (A := gup A 12 (A 11 i).toNat 1) hL (GVd_open hg) hn (fun j hj => by rw [gup_ne (by decide)]; exact hl j hj) (t := trS (A 11) A t (i + 1)) (trS_lt ht (by omega))) (mfX3_mostBySets 0) rfl wst_X3_mostBySets wm_X3_328 dX3_mostBySets_82 (Nat.le_of_ble_eq_true rfl) rfl (fun _ => Nat.le_of_ble_eq_true rfl) (Nat.le_of_ble_eq_true rfl) (Nat.le_of_ble_eq_true rfl) rfl rfl ?_
          rw [gup_ne (show 11 ≠ 12 by decide)]
          have hmr := mbS_rg (lst := A 11) (n := n) (d := 1) (t := trS (A 11) A t (i + 1)) (A := gup A 12 (A 11 i).toNat 1) (by rw [gup_ne (by decide)]; exact hg.2.2.1); have h14 := hg.2.2.1 (A 11 i).toNat; have h12 := hg.1 (A 11 i).toNat
          refine g_iadd dX3_mostBySets_85 ?_
          refine g_st2 (ls2 := [(9, _), (8, _), (4, _), (7, _), (0, _), (1, _), (2, _), (3, _), (5, _), (6, _)]) dX3_mostBySets_86 (by decide) (c1_ci (c1_ci (c1_ci (c1_cr (c1_cr (c1_ci (c1_ci (c1_ci (c1_ci c1_0))))))))) rfl ?_
          refine g_aload_n 4 dX3_mostBySets_88 rfl rfl ?_
          refine g_getfr2 (r := 12) cf_2 0 rfl (by decide) (by decide) rfl (by decide) wf_X3_59 dX3_mostBySets_89 (hL 1 rfl) rfl ?_
          refine g_iload 3 dX3_mostBySets_92 rfl ?_
          refine g_iload 1 dX3_mostBySets_94 rfl ?_
          refine g_iast ((A 11 i).toNat) (by omega) (by omega) (by omega) rfl (by decide) dX3_mostBySets_96 (n2 (hL 12 rfl)) ?_
          refine g_ls (A2 := A) rfl rfl (gup_back _ _ _ _) ?_
          refine g_iload 8 dX3_mostBySets_97 rfl ?_
          refine g_iload 0 dX3_mostBySets_99 rfl ?_
          refine g_max (by omega) (by omega) wm_X3_369 wst_J9_max_7cf53 wn_J9 wo_J9_max_7cf53 (Nat.le_of_ble_eq_true rfl) (Nat.le_of_ble_eq_true rfl) (by decide) dX3_mostBySets_101 ?_
          refine g_top (y := plR (fun i => A 14 (A 11 i).toNat + mbS (A 11) n 1 (gup A 12 (A 11 i).toNat 1) (trS (A 11) A t (i + 1))) (fun i => !t.testBit i && safeB A (A 11 i)) (i + 1)) (by simp only [plR]; rw [show safeB A (A 11 i) = true by assumption, show t.testBit i = false by assumption]; simp only [Bool.not_false, Bool.and_self, true_and]) ?_
          refine g_st2 (ls2 := [(5, _), (9, _), (8, _), (4, _), (7, _), (0, _), (1, _), (2, _), (3, _), (6, _)]) dX3_mostBySets_104 (by decide) (c1_ci (c1_ci (c1_ci (c1_ci (c1_cr (c1_cr (c1_ci (c1_ci (c1_ci (c1_ci c1_0)))))))))) rfl ?_
          refine g_inc (ls2 := [(6, _), (5, _), (9, _), (8, _), (4, _), (7, _), (0, _), (1, _), (2, _), (3, _)]) 9 dX3_mostBySets_106 rfl (by decide) (c1_ci (c1_ci (c1_ci (c1_ci (c1_ci (c1_cr (c1_cr (c1_ci (c1_ci (c1_ci c1_0)))))))))) rfl ?_
          refine g_goto (tgt := 12) dX3_mostBySets_109 (by decide) ?_
          refine g_sub [6, 7, 8, 9, 4, 1, 0] (ls2 := [(0, _), (1, _), (2, _), (3, _), (4, _), (5, _), (6, _)]) rfl ?_
          first | exact g_ls (by rfl) rfl rfl ih12 | exact g_ls (by rw [plR_no (i := i) (by show (!t.testBit i && safeB A (A 11 i)) = false; rw [show t.testBit i = true by assumption]; rfl), trS_no1 (i := i) (by assumption)]; rfl) rfl rfl ih12 | exact g_ls (by rw [plR_no (i := i) (by show (!t.testBit i && safeB A (A 11 i)) = false; rw [show safeB A (A 11 i) = false by assumption]; cases t.testBit i <;> rfl), trS_no2 (i := i) (by assumption)]; rfl) rfl rfl ih12
  exact g_ls (by rfl) rfl rfl hQ12

set_option maxHeartbeats 1000000 in
set_option maxRecDepth 20000 in
theorem c_mbs_2 {L : Nat → Nat} {A : Mem} (hL : LC L) (hg : GVd A) {n : Nat} (hn : n ≤ 16) (hl : ∀ i, i < n → 0 ≤ A 11 i ∧ A 11 i < 100) {t : Nat} (ht : t < 65536) : Ct ((mX3_mostBySets 1)) [gr 1, gr 11, gi n, gi 2, gi (t : Int)] L A (pr (some (gi (mbS (A 11) n 2 A t))) L A) := by
  refine Ct_of (ls := [(0, _), (1, _), (2, _), (3, _), (4, _)]) rfl (by decide) (fun _ => rfl) (fun _ => Nat.le_of_ble_eq_true rfl) ?_
  refine g_iload_n 3 dX3_mostBySets_0 rfl rfl ?_
  refine g_if_gt (tgt := 6) (by omega) dX3_mostBySets_1 (by decide) (fun h1_9 => ?_) (fun h1_9 => absurd h1_9 (by omega))
  refine g_iconst dX3_mostBySets_6 ?_
  refine g_st2 (ls2 := [(5, _), (0, _), (1, _), (2, _), (3, _), (4, _)]) dX3_mostBySets_7 (by decide) (c1_cr (c1_cr (c1_ci (c1_ci (c1_ci c1_0))))) rfl ?_
  refine g_iconst dX3_mostBySets_9 ?_
  refine g_st2 (ls2 := [(6, _), (5, _), (0, _), (1, _), (2, _), (3, _), (4, _)]) dX3_mostBySets_10 (by decide) (c1_ci (c1_cr (c1_cr (c1_ci (c1_ci (c1_ci c1_0)))))) rfl ?_
  refine g_sub [2, 3, 4, 5, 6, 1, 0] (ls2 := [(0, _), (1, _), (2, _), (3, _), (4, _), (5, _), (6, _)]) rfl ?_
  have hQ12 : (fun i : Nat => GW ((mX3_mostBySets 1)) (pr (some (gi (mbS (A 11) n 2 A t))) L A) 0 0 12 [(0, gr (1)), (1, gr (11)), (2, gi ((n : Int))), (3, gi (2)), (4, gi ((((trS (A 11) A t i) : Nat) : Int))), (5, gi (plR (fun i => A 14 (A 11 i).toNat + mbS (A 11) n 1 (gup A 12 (A 11 i).toNat 1) (trS (A 11) A t (i + 1))) (fun i => !t.testBit i && safeB A (A 11 i)) i)), (6, gi ((i : Int)))] [] L (A)) 0 := by
    refine lp_up (Q := (fun i : Nat => GW ((mX3_mostBySets 1)) (pr (some (gi (mbS (A 11) n 2 A t))) L A) 0 0 12 [(0, gr (1)), (1, gr (11)), (2, gi ((n : Int))), (3, gi (2)), (4, gi ((((trS (A 11) A t i) : Nat) : Int))), (5, gi (plR (fun i => A 14 (A 11 i).toNat + mbS (A 11) n 1 (gup A 12 (A 11 i).toNat 1) (trS (A 11) A t (i + 1))) (fun i => !t.testBit i && safeB A (A 11 i)) i)), (6, gi ((i : Int)))] [] L (A))) (n := n) ?_ (fun i hi12 ih12 => ?_)
    · skip
      refine g_iload 6 dX3_mostBySets_12 rfl ?_
      refine g_iload_n 2 dX3_mostBySets_14 rfl rfl ?_
      refine g_icmp_ge (tgt := 112) (by omega) (by omega) dX3_mostBySets_15 (by decide) (fun h15_10 => ?_) (fun h15_10 => absurd h15_10 (by omega))
      refine g_iload 5 dX3_mostBySets_112 rfl ?_
      exact g_iret dX3_mostBySets_114 rfl (Nat.le_of_ble_eq_true rfl) (Nat.le_of_ble_eq_true rfl) (pr_i (rfl) (rfl))
    · skip
      have hpr := plR_rg (f := (fun i => A 14 (A 11 i).toNat + mbS (A 11) n 1 (gup A 12 (A 11 i).toNat 1) (trS (A 11) A t (i + 1)))) (ok := (fun i => !t.testBit i && safeB A (A 11 i))) (M := 9999) (by omega) (fun c => by have := hg.2.2.1 (A 11 c).toNat; have := mbS_rg (lst := A 11) (n := n) (d := 1) (t := trS (A 11) A t (c + 1)) (A := gup A 12 (A 11 c).toNat 1) (by rw [gup_ne (by decide)]; exact hg.2.2.1); show _ + _ ≤ _; omega) i
      refine g_iload 6 dX3_mostBySets_12 rfl ?_
      refine g_iload_n 2 dX3_mostBySets_14 rfl rfl ?_
      refine g_icmp_ge (tgt := 112) (by omega) (by omega) dX3_mostBySets_15 (by decide) (fun h15_11 => absurd h15_11 (by omega)) (fun h15_11 => ?_)
      refine g_iload 6 dX3_mostBySets_18 rfl ?_
      refine g_aload_n 1 dX3_mostBySets_20 rfl rfl ?_
      refine g_alen rfl (by decide) dX3_mostBySets_21 (n2 (hL 11 rfl)) ?_
      refine g_icmp_ge (tgt := 112) (by omega) (by omega) dX3_mostBySets_22 (by decide) (fun h22_12 => absurd h22_12 (by omega)) (fun h22_12 => ?_)
      refine g_aload_n 1 dX3_mostBySets_25 rfl rfl ?_
      refine g_iload 6 dX3_mostBySets_26 rfl ?_
      refine g_iald (i) (by omega) (by omega) rfl (by decide) dX3_mostBySets_28 (n2 (hL 11 rfl)) (fun h28_13 => ?_)
      refine g_st2 (ls2 := [(7, _), (0, _), (1, _), (2, _), (3, _), (4, _), (5, _), (6, _)]) dX3_mostBySets_29 (by decide) (c1_cr (c1_cr (c1_ci (c1_ci (c1_ci (c1_ci (c1_ci c1_0))))))) rfl ?_
      have hci := hl i hi12
      have hi16 : i < 16 := by omega
      have htr : (trS (A 11) A t i) < 65536 := trS_lt ht (by omega)
      refine g_iload 5 dX3_mostBySets_31 rfl ?_
      refine g_iload 7 dX3_mostBySets_33 rfl ?_
      refine g_ishr (x := (trS (A 11) A t i)) (i := i) dX3_mostBySets_35 ?_
      refine g_iconst dX3_mostBySets_36 ?_
      refine g_iand1 (x := (trS (A 11) A t i)) (i := i) htr hi16 dX3_mostBySets_37 ?_
      refine g_top (y := b2 (t.testBit i)) (by rw [trS_self]) ?_
      refine g_ifb_ne (tgt := 106) dX3_mostBySets_38 (by decide) (fun h38_14 => ?_) (fun h38_14 => ?_)
      · skip
        refine g_inc (ls2 := [(6, _), (7, _), (0, _), (1, _), (2, _), (3, _), (4, _), (5, _)]) 7 dX3_mostBySets_106 rfl (by decide) (c1_ci (c1_cr (c1_cr (c1_ci (c1_ci (c1_ci (c1_ci (c1_ci c1_0)))))))) rfl ?_
        refine g_goto (tgt := 12) dX3_mostBySets_109 (by decide) ?_
        refine g_sub [2, 3, 4, 5, 6, 7, 0] (ls2 := [(0, _), (1, _), (2, _), (3, _), (4, _), (5, _), (6, _)]) rfl ?_
        first | exact g_ls (by rfl) rfl rfl ih12 | exact g_ls (by rw [plR_no (i := i) (by show (!t.testBit i && safeB A (A 11 i)) = false; rw [show t.testBit i = true by assumption]; rfl), trS_no1 (i := i) (by assumption)]; rfl) rfl rfl ih12 | exact g_ls (by rw [plR_no (i := i) (by show (!t.testBit i && safeB A (A 11 i)) = false; rw [show safeB A (A 11 i) = false by assumption]; cases t.testBit i <;> rfl), trS_no2 (i := i) (by assumption)]; rfl) rfl rfl ih12
      · skip
        refine g_aload_n 1 dX3_mostBySets_41 rfl rfl ?_
        refine g_iload 0 dX3_mostBySets_42 rfl ?_
        refine g_cV_i (My := mX1_canBeDugSafely) (gs := [_]) (c_X1_canBeDugSafely hL (x := A 11 i) hci) mfX1_canBeDugSafely cf_2 wi_X1_canBeDugSafely wsl_X1_canBeDugSafely wm_X3_385 dX3_mostBySets_44 (Nat.le_of_ble_eq_true rfl) rfl (by decide) (n2 (hL 1 rfl)) rfl (fun _ => Nat.le_of_ble_eq_true rfl) (Nat.le_of_ble_eq_true rfl) (Nat.le_of_ble_eq_true rfl) rfl rfl ?_
        refine g_ifb_eq (tgt := 106) dX3_mostBySets_47 (by decide) (fun h47_15 => ?_) (fun h47_15 => ?_)
        · skip
          refine g_inc (ls2 := [(6, _), (7, _), (0, _), (1, _), (2, _), (3, _), (4, _), (5, _)]) 7 dX3_mostBySets_106 rfl (by decide) (c1_ci (c1_cr (c1_cr (c1_ci (c1_ci (c1_ci (c1_ci (c1_ci c1_0)))))))) rfl ?_
          refine g_goto (tgt := 12) dX3_mostBySets_109 (by decide) ?_
          refine g_sub [2, 3, 4, 5, 6, 7, 0] (ls2 := [(0, _), (1, _), (2, _), (3, _), (4, _), (5, _), (6, _)]) rfl ?_
          first | exact g_ls (by rfl) rfl rfl ih12 | exact g_ls (by rw [plR_no (i := i) (by show (!t.testBit i && safeB A (A 11 i)) = false; rw [show t.testBit i = true by assumption]; rfl), trS_no1 (i := i) (by assumption)]; rfl) rfl rfl ih12 | exact g_ls (by rw [plR_no (i := i) (by show (!t.testBit i && safeB A (A 11 i)) = false; rw [show safeB A (A 11 i) = false by assumption]; cases t.testBit i <;> rfl), trS_no2 (i := i) (by assumption)]; rfl) rfl rfl ih12
        · skip
          refine g_iload 5 dX3_mostBySets_50 rfl ?_
          refine g_iconst dX3_mostBySets_52 ?_
          refine g_iload 7 dX3_mostBySets_53 rfl ?_
          refine g_ishl1 (i := i) hi16 dX3_mostBySets_55 ?_
          refine g_ior2 (x := (trS (A 11) A t i)) (i := i) htr hi16 dX3_mostBySets_56 ?_
          refine g_top (y := ((trS (A 11) A t (i + 1) : Nat) : Int)) (by simp only [trS]; rw [if_pos ⟨by assumption, by assumption⟩]) ?_
          refine g_st2 (ls2 := [(4, _), (7, _), (0, _), (1, _), (2, _), (3, _), (5, _), (6, _)]) dX3_mostBySets_57 (by decide) (c1_ci (c1_cr (c1_cr (c1_ci (c1_ci (c1_ci (c1_ci (c1_ci c1_0)))))))) rfl ?_
          refine g_aload_n 2 dX3_mostBySets_59 rfl rfl ?_
          refine g_iload 1 dX3_mostBySets_60 rfl ?_
          refine g_cV_i (My := mX1_openForNow) (gs := [_]) (c_X1_openForNow hL (x := A 11 i) hci) mfX1_openForNow cf_2 wi_X1_openForNow wsl_X1_openForNow wm_X3_388 dX3_mostBySets_62 (Nat.le_of_ble_eq_true rfl) rfl (by decide) (n2 (hL 1 rfl)) rfl (fun _ => Nat.le_of_ble_eq_true rfl) (Nat.le_of_ble_eq_true rfl) (Nat.le_of_ble_eq_true rfl) rfl rfl ?_
          refine g_st2 (ls2 := [(8, _), (4, _), (7, _), (0, _), (1, _), (2, _), (3, _), (5, _), (6, _)]) dX3_mostBySets_65 (by decide) (c1_ci (c1_ci (c1_cr (c1_cr (c1_ci (c1_ci (c1_ci (c1_ci c1_0)))))))) rfl ?_
          refine g_aload_n 3 dX3_mostBySets_67 rfl rfl ?_
          refine g_getfr2 (r := 14) cf_2 2 rfl (by decide) (by decide) rfl (by decide) wf_X3_74 dX3_mostBySets_68 (hL 1 rfl) rfl ?_
          refine g_iload 2 dX3_mostBySets_71 rfl ?_
          refine g_iald ((A 11 i).toNat) (by omega) (by omega) rfl (by decide) dX3_mostBySets_73 (n2 (hL 14 rfl)) (fun h73_16 => ?_)
          refine g_top (y := A 14 (A 11 i).toNat) (by rw [gup_ne (by decide)]) ?_
          refine g_aload_n 3 dX3_mostBySets_74 rfl rfl ?_
          refine g_aload_n 4 dX3_mostBySets_75 rfl rfl ?_
          refine g_iload_n 5 dX3_mostBySets_76 rfl rfl ?_
          refine g_iload_n 6 dX3_mostBySets_77 rfl rfl ?_
          refine g_iconst dX3_mostBySets_78 ?_
          refine g_isub dX3_mostBySets_79 ?_
          refine g_top (y := 1) (by omega) ?_
          refine g_iload 1 dX3_mostBySets_80 rfl ?_
          refine g_cS_i (My := (mX3_mostBySets 0)) (gs := [_, _, _, _, _]) (c_mbs_1 (A := gup A 12 (A 11 i).toNat 1) hL (GVd_open hg) hn (fun j hj => by rw [gup_ne (by decide)]; exact hl j hj) (t := trS (A 11) A t (i + 1)) (trS_lt ht (by omega))) (mfX3_mostBySets 0) rfl wst_X3_mostBySets wm_X3_328 dX3_mostBySets_82 (Nat.le_of_ble_eq_true rfl) rfl (fun _ => Nat.le_of_ble_eq_true rfl) (Nat.le_of_ble_eq_true rfl) (Nat.le_of_ble_eq_true rfl) rfl rfl ?_
          rw [gup_ne (show 11 ≠ 12 by decide)]
          have hmr := mbS_rg (lst := A 11) (n := n) (d := 1) (t := trS (A 11) A t (i + 1)) (A := gup A 12 (A 11 i).toNat 1) (by rw [gup_ne (by decide)]; exact hg.2.2.1); have h14 := hg.2.2.1 (A 11 i).toNat; have h12 := hg.1 (A 11 i).toNat
          refine g_iadd dX3_mostBySets_85 ?_
          refine g_st2 (ls2 := [(9, _), (8, _), (4, _), (7, _), (0, _), (1, _), (2, _), (3, _), (5, _), (6, _)]) dX3_mostBySets_86 (by decide) (c1_ci (c1_ci (c1_ci (c1_cr (c1_cr (c1_ci (c1_ci (c1_ci (c1_ci c1_0))))))))) rfl ?_
          refine g_aload_n 4 dX3_mostBySets_88 rfl rfl ?_
          refine g_getfr2 (r := 12) cf_2 0 rfl (by decide) (by decide) rfl (by decide) wf_X3_59 dX3_mostBySets_89 (hL 1 rfl) rfl ?_
          refine g_iload 3 dX3_mostBySets_92 rfl ?_
          refine g_iload 1 dX3_mostBySets_94 rfl ?_
          refine g_iast ((A 11 i).toNat) (by omega) (by omega) (by omega) rfl (by decide) dX3_mostBySets_96 (n2 (hL 12 rfl)) ?_
          refine g_ls (A2 := A) rfl rfl (gup_back _ _ _ _) ?_
          refine g_iload 8 dX3_mostBySets_97 rfl ?_
          refine g_iload 0 dX3_mostBySets_99 rfl ?_
          refine g_max (by omega) (by omega) wm_X3_369 wst_J9_max_7cf53 wn_J9 wo_J9_max_7cf53 (Nat.le_of_ble_eq_true rfl) (Nat.le_of_ble_eq_true rfl) (by decide) dX3_mostBySets_101 ?_
          refine g_top (y := plR (fun i => A 14 (A 11 i).toNat + mbS (A 11) n 1 (gup A 12 (A 11 i).toNat 1) (trS (A 11) A t (i + 1))) (fun i => !t.testBit i && safeB A (A 11 i)) (i + 1)) (by simp only [plR]; rw [show safeB A (A 11 i) = true by assumption, show t.testBit i = false by assumption]; simp only [Bool.not_false, Bool.and_self, true_and]) ?_
          refine g_st2 (ls2 := [(5, _), (9, _), (8, _), (4, _), (7, _), (0, _), (1, _), (2, _), (3, _), (6, _)]) dX3_mostBySets_104 (by decide) (c1_ci (c1_ci (c1_ci (c1_ci (c1_cr (c1_cr (c1_ci (c1_ci (c1_ci (c1_ci c1_0)))))))))) rfl ?_
          refine g_inc (ls2 := [(6, _), (5, _), (9, _), (8, _), (4, _), (7, _), (0, _), (1, _), (2, _), (3, _)]) 9 dX3_mostBySets_106 rfl (by decide) (c1_ci (c1_ci (c1_ci (c1_ci (c1_ci (c1_cr (c1_cr (c1_ci (c1_ci (c1_ci c1_0)))))))))) rfl ?_
          refine g_goto (tgt := 12) dX3_mostBySets_109 (by decide) ?_
          refine g_sub [6, 7, 8, 9, 4, 1, 0] (ls2 := [(0, _), (1, _), (2, _), (3, _), (4, _), (5, _), (6, _)]) rfl ?_
          first | exact g_ls (by rfl) rfl rfl ih12 | exact g_ls (by rw [plR_no (i := i) (by show (!t.testBit i && safeB A (A 11 i)) = false; rw [show t.testBit i = true by assumption]; rfl), trS_no1 (i := i) (by assumption)]; rfl) rfl rfl ih12 | exact g_ls (by rw [plR_no (i := i) (by show (!t.testBit i && safeB A (A 11 i)) = false; rw [show safeB A (A 11 i) = false by assumption]; cases t.testBit i <;> rfl), trS_no2 (i := i) (by assumption)]; rfl) rfl rfl ih12
  exact g_ls (by rfl) rfl rfl hQ12

set_option maxHeartbeats 1000000 in
set_option maxRecDepth 20000 in
theorem c_mbs_3 {L : Nat → Nat} {A : Mem} (hL : LC L) (hg : GVd A) {n : Nat} (hn : n ≤ 16) (hl : ∀ i, i < n → 0 ≤ A 11 i ∧ A 11 i < 100) {t : Nat} (ht : t < 65536) : Ct ((mX3_mostBySets 2)) [gr 1, gr 11, gi n, gi 3, gi (t : Int)] L A (pr (some (gi (mbS (A 11) n 3 A t))) L A) := by
  refine Ct_of (ls := [(0, _), (1, _), (2, _), (3, _), (4, _)]) rfl (by decide) (fun _ => rfl) (fun _ => Nat.le_of_ble_eq_true rfl) ?_
  refine g_iload_n 3 dX3_mostBySets_0 rfl rfl ?_
  refine g_if_gt (tgt := 6) (by omega) dX3_mostBySets_1 (by decide) (fun h1_1 => ?_) (fun h1_1 => absurd h1_1 (by omega))
  refine g_iconst dX3_mostBySets_6 ?_
  refine g_st2 (ls2 := [(5, _), (0, _), (1, _), (2, _), (3, _), (4, _)]) dX3_mostBySets_7 (by decide) (c1_cr (c1_cr (c1_ci (c1_ci (c1_ci c1_0))))) rfl ?_
  refine g_iconst dX3_mostBySets_9 ?_
  refine g_st2 (ls2 := [(6, _), (5, _), (0, _), (1, _), (2, _), (3, _), (4, _)]) dX3_mostBySets_10 (by decide) (c1_ci (c1_cr (c1_cr (c1_ci (c1_ci (c1_ci c1_0)))))) rfl ?_
  refine g_sub [2, 3, 4, 5, 6, 1, 0] (ls2 := [(0, _), (1, _), (2, _), (3, _), (4, _), (5, _), (6, _)]) rfl ?_
  have hQ12 : (fun i : Nat => GW ((mX3_mostBySets 2)) (pr (some (gi (mbS (A 11) n 3 A t))) L A) 0 0 12 [(0, gr (1)), (1, gr (11)), (2, gi ((n : Int))), (3, gi (3)), (4, gi ((((trS (A 11) A t i) : Nat) : Int))), (5, gi (plR (fun i => A 14 (A 11 i).toNat + mbS (A 11) n 2 (gup A 12 (A 11 i).toNat 1) (trS (A 11) A t (i + 1))) (fun i => !t.testBit i && safeB A (A 11 i)) i)), (6, gi ((i : Int)))] [] L (A)) 0 := by
    refine lp_up (Q := (fun i : Nat => GW ((mX3_mostBySets 2)) (pr (some (gi (mbS (A 11) n 3 A t))) L A) 0 0 12 [(0, gr (1)), (1, gr (11)), (2, gi ((n : Int))), (3, gi (3)), (4, gi ((((trS (A 11) A t i) : Nat) : Int))), (5, gi (plR (fun i => A 14 (A 11 i).toNat + mbS (A 11) n 2 (gup A 12 (A 11 i).toNat 1) (trS (A 11) A t (i + 1))) (fun i => !t.testBit i && safeB A (A 11 i)) i)), (6, gi ((i : Int)))] [] L (A))) (n := n) ?_ (fun i hi12 ih12 => ?_)
    · skip
      refine g_iload 6 dX3_mostBySets_12 rfl ?_
      refine g_iload_n 2 dX3_mostBySets_14 rfl rfl ?_
      refine g_icmp_ge (tgt := 112) (by omega) (by omega) dX3_mostBySets_15 (by decide) (fun h15_2 => ?_) (fun h15_2 => absurd h15_2 (by omega))
      refine g_iload 5 dX3_mostBySets_112 rfl ?_
      exact g_iret dX3_mostBySets_114 rfl (Nat.le_of_ble_eq_true rfl) (Nat.le_of_ble_eq_true rfl) (pr_i (rfl) (rfl))
    · skip
      have hpr := plR_rg (f := (fun i => A 14 (A 11 i).toNat + mbS (A 11) n 2 (gup A 12 (A 11 i).toNat 1) (trS (A 11) A t (i + 1)))) (ok := (fun i => !t.testBit i && safeB A (A 11 i))) (M := 9999) (by omega) (fun c => by have := hg.2.2.1 (A 11 c).toNat; have := mbS_rg (lst := A 11) (n := n) (d := 2) (t := trS (A 11) A t (c + 1)) (A := gup A 12 (A 11 c).toNat 1) (by rw [gup_ne (by decide)]; exact hg.2.2.1); show _ + _ ≤ _; omega) i
      refine g_iload 6 dX3_mostBySets_12 rfl ?_
      refine g_iload_n 2 dX3_mostBySets_14 rfl rfl ?_
      refine g_icmp_ge (tgt := 112) (by omega) (by omega) dX3_mostBySets_15 (by decide) (fun h15_3 => absurd h15_3 (by omega)) (fun h15_3 => ?_)
      refine g_iload 6 dX3_mostBySets_18 rfl ?_
      refine g_aload_n 1 dX3_mostBySets_20 rfl rfl ?_
      refine g_alen rfl (by decide) dX3_mostBySets_21 (n2 (hL 11 rfl)) ?_
      refine g_icmp_ge (tgt := 112) (by omega) (by omega) dX3_mostBySets_22 (by decide) (fun h22_4 => absurd h22_4 (by omega)) (fun h22_4 => ?_)
      refine g_aload_n 1 dX3_mostBySets_25 rfl rfl ?_
      refine g_iload 6 dX3_mostBySets_26 rfl ?_
      refine g_iald (i) (by omega) (by omega) rfl (by decide) dX3_mostBySets_28 (n2 (hL 11 rfl)) (fun h28_5 => ?_)
      refine g_st2 (ls2 := [(7, _), (0, _), (1, _), (2, _), (3, _), (4, _), (5, _), (6, _)]) dX3_mostBySets_29 (by decide) (c1_cr (c1_cr (c1_ci (c1_ci (c1_ci (c1_ci (c1_ci c1_0))))))) rfl ?_
      have hci := hl i hi12
      have hi16 : i < 16 := by omega
      have htr : (trS (A 11) A t i) < 65536 := trS_lt ht (by omega)
      refine g_iload 5 dX3_mostBySets_31 rfl ?_
      refine g_iload 7 dX3_mostBySets_33 rfl ?_
      refine g_ishr (x := (trS (A 11) A t i)) (i := i) dX3_mostBySets_35 ?_
      refine g_iconst dX3_mostBySets_36 ?_
      refine g_iand1 (x := (trS (A 11) A t i)) (i := i) htr hi16 dX3_mostBySets_37 ?_
      refine g_top (y := b2 (t.testBit i)) (by rw [trS_self]) ?_
      refine g_ifb_ne (tgt := 106) dX3_mostBySets_38 (by decide) (fun h38_6 => ?_) (fun h38_6 => ?_)
      · skip
        refine g_inc (ls2 := [(6, _), (7, _), (0, _), (1, _), (2, _), (3, _), (4, _), (5, _)]) 7 dX3_mostBySets_106 rfl (by decide) (c1_ci (c1_cr (c1_cr (c1_ci (c1_ci (c1_ci (c1_ci (c1_ci c1_0)))))))) rfl ?_
        refine g_goto (tgt := 12) dX3_mostBySets_109 (by decide) ?_
        refine g_sub [2, 3, 4, 5, 6, 7, 0] (ls2 := [(0, _), (1, _), (2, _), (3, _), (4, _), (5, _), (6, _)]) rfl ?_
        first | exact g_ls (by rfl) rfl rfl ih12 | exact g_ls (by rw [plR_no (i := i) (by show (!t.testBit i && safeB A (A 11 i)) = false; rw [show t.testBit i = true by assumption]; rfl), trS_no1 (i := i) (by assumption)]; rfl) rfl rfl ih12 | exact g_ls (by rw [plR_no (i := i) (by show (!t.testBit i && safeB A (A 11 i)) = false; rw [show safeB A (A 11 i) = false by assumption]; cases t.testBit i <;> rfl), trS_no2 (i := i) (by assumption)]; rfl) rfl rfl ih12
      · skip
        refine g_aload_n 1 dX3_mostBySets_41 rfl rfl ?_
        refine g_iload 0 dX3_mostBySets_42 rfl ?_
        refine g_cV_i (My := mX1_canBeDugSafely) (gs := [_]) (c_X1_canBeDugSafely hL (x := A 11 i) hci) mfX1_canBeDugSafely cf_2 wi_X1_canBeDugSafely wsl_X1_canBeDugSafely wm_X3_385 dX3_mostBySets_44 (Nat.le_of_ble_eq_true rfl) rfl (by decide) (n2 (hL 1 rfl)) rfl (fun _ => Nat.le_of_ble_eq_true rfl) (Nat.le_of_ble_eq_true rfl) (Nat.le_of_ble_eq_true rfl) rfl rfl ?_
        refine g_ifb_eq (tgt := 106) dX3_mostBySets_47 (by decide) (fun h47_7 => ?_) (fun h47_7 => ?_)
        · skip
          refine g_inc (ls2 := [(6, _), (7, _), (0, _), (1, _), (2, _), (3, _), (4, _), (5, _)]) 7 dX3_mostBySets_106 rfl (by decide) (c1_ci (c1_cr (c1_cr (c1_ci (c1_ci (c1_ci (c1_ci (c1_ci c1_0)))))))) rfl ?_
          refine g_goto (tgt := 12) dX3_mostBySets_109 (by decide) ?_
          refine g_sub [2, 3, 4, 5, 6, 7, 0] (ls2 := [(0, _), (1, _), (2, _), (3, _), (4, _), (5, _), (6, _)]) rfl ?_
          first | exact g_ls (by rfl) rfl rfl ih12 | exact g_ls (by rw [plR_no (i := i) (by show (!t.testBit i && safeB A (A 11 i)) = false; rw [show t.testBit i = true by assumption]; rfl), trS_no1 (i := i) (by assumption)]; rfl) rfl rfl ih12 | exact g_ls (by rw [plR_no (i := i) (by show (!t.testBit i && safeB A (A 11 i)) = false; rw [show safeB A (A 11 i) = false by assumption]; cases t.testBit i <;> rfl), trS_no2 (i := i) (by assumption)]; rfl) rfl rfl ih12
        · skip
          refine g_iload 5 dX3_mostBySets_50 rfl ?_
          refine g_iconst dX3_mostBySets_52 ?_
          refine g_iload 7 dX3_mostBySets_53 rfl ?_
          refine g_ishl1 (i := i) hi16 dX3_mostBySets_55 ?_
          refine g_ior2 (x := (trS (A 11) A t i)) (i := i) htr hi16 dX3_mostBySets_56 ?_
          refine g_top (y := ((trS (A 11) A t (i + 1) : Nat) : Int)) (by simp only [trS]; rw [if_pos ⟨by assumption, by assumption⟩]) ?_
          refine g_st2 (ls2 := [(4, _), (7, _), (0, _), (1, _), (2, _), (3, _), (5, _), (6, _)]) dX3_mostBySets_57 (by decide) (c1_ci (c1_cr (c1_cr (c1_ci (c1_ci (c1_ci (c1_ci (c1_ci c1_0)))))))) rfl ?_
          refine g_aload_n 2 dX3_mostBySets_59 rfl rfl ?_
          refine g_iload 1 dX3_mostBySets_60 rfl ?_
          refine g_cV_i (My := mX1_openForNow) (gs := [_]) (c_X1_openForNow hL (x := A 11 i) hci) mfX1_openForNow cf_2 wi_X1_openForNow wsl_X1_openForNow wm_X3_388 dX3_mostBySets_62 (Nat.le_of_ble_eq_true rfl) rfl (by decide) (n2 (hL 1 rfl)) rfl (fun _ => Nat.le_of_ble_eq_true rfl) (Nat.le_of_ble_eq_true rfl) (Nat.le_of_ble_eq_true rfl) rfl rfl ?_
          refine g_st2 (ls2 := [(8, _), (4, _), (7, _), (0, _), (1, _), (2, _), (3, _), (5, _), (6, _)]) dX3_mostBySets_65 (by decide) (c1_ci (c1_ci (c1_cr (c1_cr (c1_ci (c1_ci (c1_ci (c1_ci c1_0)))))))) rfl ?_
          refine g_aload_n 3 dX3_mostBySets_67 rfl rfl ?_
          refine g_getfr2 (r := 14) cf_2 2 rfl (by decide) (by decide) rfl (by decide) wf_X3_74 dX3_mostBySets_68 (hL 1 rfl) rfl ?_
          refine g_iload 2 dX3_mostBySets_71 rfl ?_
          refine g_iald ((A 11 i).toNat) (by omega) (by omega) rfl (by decide) dX3_mostBySets_73 (n2 (hL 14 rfl)) (fun h73_8 => ?_)
          refine g_top (y := A 14 (A 11 i).toNat) (by rw [gup_ne (by decide)]) ?_
          refine g_aload_n 3 dX3_mostBySets_74 rfl rfl ?_
          refine g_aload_n 4 dX3_mostBySets_75 rfl rfl ?_
          refine g_iload_n 5 dX3_mostBySets_76 rfl rfl ?_
          refine g_iload_n 6 dX3_mostBySets_77 rfl rfl ?_
          refine g_iconst dX3_mostBySets_78 ?_
          refine g_isub dX3_mostBySets_79 ?_
          refine g_top (y := 2) (by omega) ?_
          refine g_iload 1 dX3_mostBySets_80 rfl ?_
          refine g_cS_i (My := (mX3_mostBySets 1)) (gs := [_, _, _, _, _]) (c_mbs_2 (A := gup A 12 (A 11 i).toNat 1) hL (GVd_open hg) hn (fun j hj => by rw [gup_ne (by decide)]; exact hl j hj) (t := trS (A 11) A t (i + 1)) (trS_lt ht (by omega))) (mfX3_mostBySets 1) rfl wst_X3_mostBySets wm_X3_328 dX3_mostBySets_82 (Nat.le_of_ble_eq_true rfl) rfl (fun _ => Nat.le_of_ble_eq_true rfl) (Nat.le_of_ble_eq_true rfl) (Nat.le_of_ble_eq_true rfl) rfl rfl ?_
          rw [gup_ne (show 11 ≠ 12 by decide)]
          have hmr := mbS_rg (lst := A 11) (n := n) (d := 2) (t := trS (A 11) A t (i + 1)) (A := gup A 12 (A 11 i).toNat 1) (by rw [gup_ne (by decide)]; exact hg.2.2.1); have h14 := hg.2.2.1 (A 11 i).toNat; have h12 := hg.1 (A 11 i).toNat
          refine g_iadd dX3_mostBySets_85 ?_
          refine g_st2 (ls2 := [(9, _), (8, _), (4, _), (7, _), (0, _), (1, _), (2, _), (3, _), (5, _), (6, _)]) dX3_mostBySets_86 (by decide) (c1_ci (c1_ci (c1_ci (c1_cr (c1_cr (c1_ci (c1_ci (c1_ci (c1_ci c1_0))))))))) rfl ?_
          refine g_aload_n 4 dX3_mostBySets_88 rfl rfl ?_
          refine g_getfr2 (r := 12) cf_2 0 rfl (by decide) (by decide) rfl (by decide) wf_X3_59 dX3_mostBySets_89 (hL 1 rfl) rfl ?_
          refine g_iload 3 dX3_mostBySets_92 rfl ?_
          refine g_iload 1 dX3_mostBySets_94 rfl ?_
          refine g_iast ((A 11 i).toNat) (by omega) (by omega) (by omega) rfl (by decide) dX3_mostBySets_96 (n2 (hL 12 rfl)) ?_
          refine g_ls (A2 := A) rfl rfl (gup_back _ _ _ _) ?_
          refine g_iload 8 dX3_mostBySets_97 rfl ?_
          refine g_iload 0 dX3_mostBySets_99 rfl ?_
          refine g_max (by omega) (by omega) wm_X3_369 wst_J9_max_7cf53 wn_J9 wo_J9_max_7cf53 (Nat.le_of_ble_eq_true rfl) (Nat.le_of_ble_eq_true rfl) (by decide) dX3_mostBySets_101 ?_
          refine g_top (y := plR (fun i => A 14 (A 11 i).toNat + mbS (A 11) n 2 (gup A 12 (A 11 i).toNat 1) (trS (A 11) A t (i + 1))) (fun i => !t.testBit i && safeB A (A 11 i)) (i + 1)) (by simp only [plR]; rw [show safeB A (A 11 i) = true by assumption, show t.testBit i = false by assumption]; simp only [Bool.not_false, Bool.and_self, true_and]) ?_
          refine g_st2 (ls2 := [(5, _), (9, _), (8, _), (4, _), (7, _), (0, _), (1, _), (2, _), (3, _), (6, _)]) dX3_mostBySets_104 (by decide) (c1_ci (c1_ci (c1_ci (c1_ci (c1_cr (c1_cr (c1_ci (c1_ci (c1_ci (c1_ci c1_0)))))))))) rfl ?_
          refine g_inc (ls2 := [(6, _), (5, _), (9, _), (8, _), (4, _), (7, _), (0, _), (1, _), (2, _), (3, _)]) 9 dX3_mostBySets_106 rfl (by decide) (c1_ci (c1_ci (c1_ci (c1_ci (c1_ci (c1_cr (c1_cr (c1_ci (c1_ci (c1_ci c1_0)))))))))) rfl ?_
          refine g_goto (tgt := 12) dX3_mostBySets_109 (by decide) ?_
          refine g_sub [6, 7, 8, 9, 4, 1, 0] (ls2 := [(0, _), (1, _), (2, _), (3, _), (4, _), (5, _), (6, _)]) rfl ?_
          first | exact g_ls (by rfl) rfl rfl ih12 | exact g_ls (by rw [plR_no (i := i) (by show (!t.testBit i && safeB A (A 11 i)) = false; rw [show t.testBit i = true by assumption]; rfl), trS_no1 (i := i) (by assumption)]; rfl) rfl rfl ih12 | exact g_ls (by rw [plR_no (i := i) (by show (!t.testBit i && safeB A (A 11 i)) = false; rw [show safeB A (A 11 i) = false by assumption]; cases t.testBit i <;> rfl), trS_no2 (i := i) (by assumption)]; rfl) rfl rfl ih12
  exact g_ls (by rfl) rfl rfl hQ12

theorem c_mst {L : Nat → Nat} {A : Mem} (hL : LC L) (hg : GVd A) {n : Nat} (hn : n ≤ 16) (hl : ∀ i, i < n → 0 ≤ A 11 i ∧ A 11 i < 100) {t : Nat} (ht : t < 65536) {w : Int} (hw : 0 ≤ w ∧ w ≤ 3) : Ct (mX3_mostBySets 2) [gr 1, gr 11, gi n, gi w, gi (t : Int)] L A (pr (some (gi (mbS (A 11) n w.toNat A t))) L A) := by
  rcases (show w = 0 ∨ w = 1 ∨ w = 2 ∨ w = 3 by omega) with rfl | rfl | rfl | rfl
  · exact c_mst_0 hL hg hn hl ht
  · exact c_mst_1 hL hg hn hl ht
  · exact c_mst_2 hL hg hn hl ht
  · exact c_mbs_3 hL hg hn hl ht

set_option maxHeartbeats 1000000 in
set_option maxRecDepth 20000 in
theorem c_X3_plan {L : Nat → Nat} {A : Mem} (hV : VC L A) {x w : Int} (hx : -2147483648 ≤ x ∧ x < 2147483648) (hw : -2147483648 ≤ w ∧ w < 2147483648) : Ct mX3_plan [gr 0, gi x, gi w] L A (exP [xIOE, xIAE] (plnE A x w) (some (gi (mbS (ldM A (ldF A x.toNat) 100 11) (ldN (ldF A x.toNat) 100) w.toNat (ldM A (ldF A x.toNat) 100) 0))) L (ldM A (ldF A x.toNat) 100) L A) := by
  have hL := vc_L hV
  have hnc := vc_nc hV; have hns := vc_ns hV; have hp0 := (vc_p hV).1
  refine Ct_of (ls := [(0, _), (1, _), (2, _)]) rfl (by decide) (fun _ => rfl) (fun _ => Nat.le_of_ble_eq_true rfl) ?_
  refine g_aload_n 0 dX3_plan_0 rfl rfl ?_
  refine g_iload_n 1 dX3_plan_1 rfl rfl ?_
  by_cases hs2 : 0 ≤ x ∧ x < A 2 2
  · skip
    obtain ⟨k, rfl⟩ : ∃ k : Nat, x = k := ⟨x.toNat, by omega⟩
    have hk : (k : Int) < A 2 2 := by omega
    refine g_cV_i (My := mX3_claimAt) (gs := [_]) (c_X3_claimAt hV hk) mfX3_claimAt cf_4 wi_X3_claimAt wsl_X3_claimAt wm_X3_112 dX3_plan_2 (Nat.le_of_ble_eq_true rfl) rfl (by decide) (n2 (hL 0 rfl)) rfl (fun _ => Nat.le_of_ble_eq_true rfl) (Nat.le_of_ble_eq_true rfl) (Nat.le_of_ble_eq_true rfl) rfl rfl ?_
    refine g_pop dX3_plan_5 (c1_r _) ?_
    refine g_iload_n 2 dX3_plan_6 rfl rfl ?_
    refine g_iconst dX3_plan_7 ?_
    refine g_iconst dX3_plan_8 ?_
    by_cases hs9 : 0 ≤ w ∧ w ≤ 3
    · skip
      refine g_cS_v (My := mX3_needRange) (gs := [_, _, _]) (c_X3_needRange (x := w) (y := 0) (z := 3) (by omega) (by omega) (by omega) hs9) mfX3_needRange rfl wst_X3_needRange wm_X3_55 dX3_plan_9 (Nat.le_of_ble_eq_true rfl) rfl (fun _ => Nat.le_of_ble_eq_true rfl) (Nat.le_of_ble_eq_true rfl) (Nat.le_of_ble_eq_true rfl) rfl rfl ?_
      refine g_aload_n 0 dX3_plan_12 rfl rfl ?_
      refine g_iload_n 1 dX3_plan_13 rfl rfl ?_
      refine g_cV_i (My := mX3_listDiggable) (gs := [_]) (c_X3_listDiggable hV hk) mfX3_listDiggable cf_4 wi_X3_listDiggable wsl_X3_listDiggable wm_X3_325 dX3_plan_14 (Nat.le_of_ble_eq_true rfl) rfl (by decide) (n2 (hL 0 rfl)) rfl (fun _ => Nat.le_of_ble_eq_true rfl) (Nat.le_of_ble_eq_true rfl) (Nat.le_of_ble_eq_true rfl) rfl rfl ?_
      refine g_st (ls2 := [(3, _), (0, _), (1, _), (2, _)]) dX3_plan_17 rfl (by decide) (c1_cr (c1_ci (c1_ci c1_0))) rfl ?_
      refine g_aload_n 1 dX3_plan_18 rfl rfl ?_
      refine g_getfr2 (r := 1) cf_4 0 rfl (by decide) (by decide) rfl (by decide) wf_X3_12 dX3_plan_19 (hL 0 rfl) rfl ?_
      refine g_aload_n 1 dX3_plan_22 rfl rfl ?_
      refine g_getfr2 (r := 11) cf_4 8 rfl (by decide) (by decide) rfl (by decide) wf_X3_48 dX3_plan_23 (hL 0 rfl) rfl ?_
      refine g_iload_n 0 dX3_plan_26 rfl rfl ?_
      refine g_iload_n 3 dX3_plan_27 rfl rfl ?_
      refine g_iconst dX3_plan_28 ?_
      refine g_cS_i (My := (mX3_mostBySets 2)) (gs := [_, _, _, _, _]) (c_mst (A := ldM A (ldF A k) 100) hL (GVd_cg (fun n _ _ => ldM_ne _ _ _ (by omega)) (vc_g hV)) (n := ldN (ldF A k) 100) (ldN_le _ _) (fun i hi => by have := ldM_v A (ldF A k) 100 i hi; omega) (t := 0) (by omega) hs9) (mfX3_mostBySets 2) rfl wst_X3_mostBySets wm_X3_328 dX3_plan_29 (Nat.le_of_ble_eq_true rfl) rfl (fun _ => Nat.le_of_ble_eq_true rfl) (Nat.le_of_ble_eq_true rfl) (Nat.le_of_ble_eq_true rfl) rfl rfl ?_
      exact g_iret dX3_plan_32 rfl (Nat.le_of_ble_eq_true rfl) (Nat.le_of_ble_eq_true rfl) (ex_ok (by unfold plnE; grind) (congrArg (fun z => some (gi z)) (rfl)) rfl (rfl))
    · skip
      exact g_cS_t (My := mX3_needRange_x) (gs := [_, _, _]) (c_X3_needRange_x (x := w) (y := 0) (z := 3) (by omega) (by omega) (by omega) hs9) mfX3_needRange_x rfl wst_X3_needRange wm_X3_55 dX3_plan_9 (Nat.le_of_ble_eq_true rfl) rfl (fun _ => Nat.le_of_ble_eq_true rfl) (Nat.le_of_ble_eq_true rfl) (Nat.le_of_ble_eq_true rfl) rfl rfl rfl (ex_th 1 (by unfold plnE; grind) rfl)
  · skip
    exact g_cV_t (My := mX3_claimAt_x) (gs := [_]) (c_X3_claimAt_x hV hx hs2) mfX3_claimAt_x cf_4 wi_X3_claimAt wsl_X3_claimAt wm_X3_112 dX3_plan_2 (Nat.le_of_ble_eq_true rfl) rfl (by decide) (n2 (hL 0 rfl)) rfl (fun _ => Nat.le_of_ble_eq_true rfl) (Nat.le_of_ble_eq_true rfl) (Nat.le_of_ble_eq_true rfl) rfl rfl rfl (ex_th 0 (by unfold plnE; grind) rfl)

