/-- the most carats that rows of d digs bring, of a list's n cells -/
def mbR (lst : Nat → Int) (n : Nat) : Nat → Mem → Int
  | 0, _ => 0
  | d + 1, A => plR (fun i => A 14 (lst i).toNat + mbR lst n d (gup A 12 (lst i).toNat 1)) (fun i => safeB A (lst i)) n
theorem mbR_rg {lst : Nat → Int} {n d : Nat} {A : Mem} (h : ∀ c, 0 ≤ A 14 c ∧ A 14 c ≤ 999) : 0 ≤ mbR lst n d A ∧ mbR lst n d A ≤ 999 * d := by
  induction d generalizing A with
  | zero => exact ⟨Int.le_refl _, Int.le_refl _⟩
  | succ d ih =>
    simp only [mbR]
    have := plR_rg (f := fun i => A 14 (lst i).toNat + mbR lst n d (gup A 12 (lst i).toNat 1)) (ok := fun i => safeB A (lst i)) (M := 999 * ((d : Int) + 1)) (by omega) (fun i => by have := h (lst i).toNat; have := @ih (gup A 12 (lst i).toNat 1) (by rw [gup_ne (by omega)]; exact h); show _ + _ ≤ _; omega) n
    omega
abbrev mX3_mbr0 : MD := (yX3_mostByRows, cX3_mostByRows, 9, (some .int), 0, 0, 0, false, [])
theorem mfX3_mbr0 : MF mX3_mbr0 4 := mfX3_mostByRows 0
theorem GVd_open {A : Mem} {c : Nat} (hg : GVd A) : GVd (gup A 12 c 1) := by
  obtain ⟨g1, g2, g3, g4, g5, g6⟩ := hg
  unfold GVd
  rw [gup_ne (show 13 ≠ 12 by decide), gup_ne (show 14 ≠ 12 by decide), gup_ne (show 15 ≠ 12 by decide), gup_ne (show 16 ≠ 12 by decide), gup_ne (show 17 ≠ 12 by decide)]
  exact ⟨fun j => by rw [gup_ap]; have := g1 j; split <;> omega, g2, g3, g4, g5, g6⟩

set_option maxHeartbeats 1000000 in
set_option maxRecDepth 20000 in
theorem c_mbt_0 {L : Nat → Nat} {A : Mem} (hL : LC L) (hg : GVd A) {n : Nat} (hn : n ≤ 16) (hl : ∀ i, i < n → 0 ≤ A 11 i ∧ A 11 i < 100) : Ct ((mX3_mostByRows 2)) [gr 1, gr 11, gi n, gi 0] L A (pr (some (gi (mbR (A 11) n 0 A))) L A) := by
  refine Ct_of (ls := [(0, _), (1, _), (2, _), (3, _)]) rfl (by decide) (fun _ => rfl) (fun _ => Nat.le_of_ble_eq_true rfl) ?_
  refine g_iload_n 3 dX3_mostByRows_0 rfl rfl ?_
  refine g_if_gt (tgt := 6) (by omega) dX3_mostByRows_1 (by decide) (fun h1_1 => absurd h1_1 (by omega)) (fun h1_1 => ?_)
  refine g_iconst dX3_mostByRows_4 ?_
  exact g_iret dX3_mostByRows_5 rfl (Nat.le_of_ble_eq_true rfl) (Nat.le_of_ble_eq_true rfl) (pr_i (rfl) (rfl))

set_option maxHeartbeats 1000000 in
set_option maxRecDepth 20000 in
theorem c_mbr_0 {L : Nat → Nat} {A : Mem} (hL : LC L) (hg : GVd A) {n : Nat} (hn : n ≤ 16) (hl : ∀ i, i < n → 0 ≤ A 11 i ∧ A 11 i < 100) : Ct mX3_mbr0 [gr 1, gr 11, gi n, gi 0] L A (pr (some (gi (mbR (A 11) n 0 A))) L A) := by
  refine Ct_of (ls := [(0, _), (1, _), (2, _), (3, _)]) rfl (by decide) (fun _ => rfl) (fun _ => Nat.le_of_ble_eq_true rfl) ?_
  refine g_iload_n 3 dX3_mostByRows_0 rfl rfl ?_
  refine g_if_gt (tgt := 6) (by omega) dX3_mostByRows_1 (by decide) (fun h1_2 => absurd h1_2 (by omega)) (fun h1_2 => ?_)
  refine g_iconst dX3_mostByRows_4 ?_
  exact g_iret dX3_mostByRows_5 rfl (Nat.le_of_ble_eq_true rfl) (Nat.le_of_ble_eq_true rfl) (pr_i (rfl) (rfl))

set_option maxHeartbeats 1000000 in
set_option maxRecDepth 20000 in
theorem c_mbt_1 {L : Nat → Nat} {A : Mem} (hL : LC L) (hg : GVd A) {n : Nat} (hn : n ≤ 16) (hl : ∀ i, i < n → 0 ≤ A 11 i ∧ A 11 i < 100) : Ct ((mX3_mostByRows 2)) [gr 1, gr 11, gi n, gi 1] L A (pr (some (gi (mbR (A 11) n 1 A))) L A) := by
  refine Ct_of (ls := [(0, _), (1, _), (2, _), (3, _)]) rfl (by decide) (fun _ => rfl) (fun _ => Nat.le_of_ble_eq_true rfl) ?_
  refine g_iload_n 3 dX3_mostByRows_0 rfl rfl ?_
  refine g_if_gt (tgt := 6) (by omega) dX3_mostByRows_1 (by decide) (fun h1_1 => ?_) (fun h1_1 => absurd h1_1 (by omega))
  refine g_iconst dX3_mostByRows_6 ?_
  refine g_st2 (ls2 := [(4, _), (0, _), (1, _), (2, _), (3, _)]) dX3_mostByRows_7 (by decide) (c1_cr (c1_cr (c1_ci (c1_ci c1_0)))) rfl ?_
  refine g_iconst dX3_mostByRows_9 ?_
  refine g_st2 (ls2 := [(5, _), (4, _), (0, _), (1, _), (2, _), (3, _)]) dX3_mostByRows_10 (by decide) (c1_ci (c1_cr (c1_cr (c1_ci (c1_ci c1_0))))) rfl ?_
  refine g_sub [2, 3, 4, 5, 1, 0] (ls2 := [(0, _), (1, _), (2, _), (3, _), (4, _), (5, _)]) rfl ?_
  have hQ12 : (fun i : Nat => GW ((mX3_mostByRows 2)) (pr (some (gi (mbR (A 11) n 1 A))) L A) 0 0 12 [(0, gr (1)), (1, gr (11)), (2, gi ((n : Int))), (3, gi (1)), (4, gi (plR (fun i => A 14 (A 11 i).toNat + mbR (A 11) n 0 (gup A 12 (A 11 i).toNat 1)) (fun i => safeB A (A 11 i)) i)), (5, gi ((i : Int)))] [] L (A)) 0 := by
    refine lp_up (Q := (fun i : Nat => GW ((mX3_mostByRows 2)) (pr (some (gi (mbR (A 11) n 1 A))) L A) 0 0 12 [(0, gr (1)), (1, gr (11)), (2, gi ((n : Int))), (3, gi (1)), (4, gi (plR (fun i => A 14 (A 11 i).toNat + mbR (A 11) n 0 (gup A 12 (A 11 i).toNat 1)) (fun i => safeB A (A 11 i)) i)), (5, gi ((i : Int)))] [] L (A))) (n := n) ?_ (fun i hi12 ih12 => ?_)
    · skip
      refine g_iload 5 dX3_mostByRows_12 rfl ?_
      refine g_iload_n 2 dX3_mostByRows_14 rfl rfl ?_
      refine g_icmp_ge (tgt := 91) (by omega) (by omega) dX3_mostByRows_15 (by decide) (fun h15_2 => ?_) (fun h15_2 => absurd h15_2 (by omega))
      refine g_iload 4 dX3_mostByRows_91 rfl ?_
      exact g_iret dX3_mostByRows_93 rfl (Nat.le_of_ble_eq_true rfl) (Nat.le_of_ble_eq_true rfl) (pr_i (rfl) (rfl))
    · skip
      have hpr := plR_rg (f := (fun i => A 14 (A 11 i).toNat + mbR (A 11) n 0 (gup A 12 (A 11 i).toNat 1))) (ok := (fun i => safeB A (A 11 i))) (M := 9999) (by omega) (fun c => by have := hg.2.2.1 (A 11 c).toNat; have := mbR_rg (lst := A 11) (n := n) (d := 0) (A := gup A 12 (A 11 c).toNat 1) (by rw [gup_ne (by decide)]; exact hg.2.2.1); show _ + _ ≤ _; omega) i
      refine g_iload 5 dX3_mostByRows_12 rfl ?_
      refine g_iload_n 2 dX3_mostByRows_14 rfl rfl ?_
      refine g_icmp_ge (tgt := 91) (by omega) (by omega) dX3_mostByRows_15 (by decide) (fun h15_3 => absurd h15_3 (by omega)) (fun h15_3 => ?_)
      refine g_iload 5 dX3_mostByRows_18 rfl ?_
      refine g_aload_n 1 dX3_mostByRows_20 rfl rfl ?_
      refine g_alen rfl (by decide) dX3_mostByRows_21 (n2 (hL 11 rfl)) ?_
      refine g_icmp_ge (tgt := 91) (by omega) (by omega) dX3_mostByRows_22 (by decide) (fun h22_4 => absurd h22_4 (by omega)) (fun h22_4 => ?_)
      refine g_aload_n 1 dX3_mostByRows_25 rfl rfl ?_
      refine g_iload 5 dX3_mostByRows_26 rfl ?_
      refine g_iald (i) (by omega) (by omega) rfl (by decide) dX3_mostByRows_28 (n2 (hL 11 rfl)) (fun h28_5 => ?_)
      refine g_st2 (ls2 := [(6, _), (0, _), (1, _), (2, _), (3, _), (4, _), (5, _)]) dX3_mostByRows_29 (by decide) (c1_cr (c1_cr (c1_ci (c1_ci (c1_ci (c1_ci c1_0)))))) rfl ?_
      have hci := hl i hi12
      refine g_aload_n 1 dX3_mostByRows_31 rfl rfl ?_
      refine g_iload 0 dX3_mostByRows_32 rfl ?_
      refine g_cV_i (My := mX1_canBeDugSafely) (gs := [_]) (c_X1_canBeDugSafely hL (x := A 11 i) hci) mfX1_canBeDugSafely cf_2 wi_X1_canBeDugSafely wsl_X1_canBeDugSafely wm_X3_385 dX3_mostByRows_34 (Nat.le_of_ble_eq_true rfl) rfl (by decide) (n2 (hL 1 rfl)) rfl (fun _ => Nat.le_of_ble_eq_true rfl) (Nat.le_of_ble_eq_true rfl) (Nat.le_of_ble_eq_true rfl) rfl rfl ?_
      refine g_ifb_eq (tgt := 85) dX3_mostByRows_37 (by decide) (fun h37_6 => ?_) (fun h37_6 => ?_)
      · skip
        refine g_inc (ls2 := [(5, _), (6, _), (0, _), (1, _), (2, _), (3, _), (4, _)]) 6 dX3_mostByRows_85 rfl (by decide) (c1_ci (c1_cr (c1_cr (c1_ci (c1_ci (c1_ci (c1_ci c1_0))))))) rfl ?_
        refine g_goto (tgt := 12) dX3_mostByRows_88 (by decide) ?_
        refine g_sub [2, 3, 4, 5, 6, 0] (ls2 := [(0, _), (1, _), (2, _), (3, _), (4, _), (5, _)]) rfl ?_
        first | exact g_ls (by rfl) rfl rfl ih12 | exact g_ls (by simp only [plR]; rw [show safeB A (A 11 i) = false by assumption]; (try simp)) rfl rfl ih12
      · skip
        refine g_aload_n 1 dX3_mostByRows_40 rfl rfl ?_
        refine g_iload 0 dX3_mostByRows_41 rfl ?_
        refine g_cV_i (My := mX1_openForNow) (gs := [_]) (c_X1_openForNow hL (x := A 11 i) hci) mfX1_openForNow cf_2 wi_X1_openForNow wsl_X1_openForNow wm_X3_388 dX3_mostByRows_43 (Nat.le_of_ble_eq_true rfl) rfl (by decide) (n2 (hL 1 rfl)) rfl (fun _ => Nat.le_of_ble_eq_true rfl) (Nat.le_of_ble_eq_true rfl) (Nat.le_of_ble_eq_true rfl) rfl rfl ?_
        refine g_st2 (ls2 := [(7, _), (6, _), (0, _), (1, _), (2, _), (3, _), (4, _), (5, _)]) dX3_mostByRows_46 (by decide) (c1_ci (c1_cr (c1_cr (c1_ci (c1_ci (c1_ci (c1_ci c1_0))))))) rfl ?_
        refine g_aload_n 2 dX3_mostByRows_48 rfl rfl ?_
        refine g_getfr2 (r := 14) cf_2 2 rfl (by decide) (by decide) rfl (by decide) wf_X3_74 dX3_mostByRows_49 (hL 1 rfl) rfl ?_
        refine g_iload 1 dX3_mostByRows_52 rfl ?_
        refine g_iald ((A 11 i).toNat) (by omega) (by omega) rfl (by decide) dX3_mostByRows_54 (n2 (hL 14 rfl)) (fun h54_7 => ?_)
        refine g_top (y := A 14 (A 11 i).toNat) (by rw [gup_ne (by decide)]) ?_
        refine g_aload_n 2 dX3_mostByRows_55 rfl rfl ?_
        refine g_aload_n 3 dX3_mostByRows_56 rfl rfl ?_
        refine g_iload_n 4 dX3_mostByRows_57 rfl rfl ?_
        refine g_iload_n 5 dX3_mostByRows_58 rfl rfl ?_
        refine g_iconst dX3_mostByRows_59 ?_
        refine g_isub dX3_mostByRows_60 ?_
        refine g_top (y := 0) (by omega) ?_
        refine g_cS_i (My := mX3_mbr0) (gs := [_, _, _, _]) (c_mbr_0 (A := gup A 12 (A 11 i).toNat 1) hL (GVd_open hg) hn (fun j hj => by rw [gup_ne (by decide)]; exact hl j hj)) mfX3_mbr0 rfl wst_X3_mostByRows wm_X3_332 dX3_mostByRows_61 (Nat.le_of_ble_eq_true rfl) rfl (fun _ => Nat.le_of_ble_eq_true rfl) (Nat.le_of_ble_eq_true rfl) (Nat.le_of_ble_eq_true rfl) rfl rfl ?_
        rw [gup_ne (show 11 ≠ 12 by decide)]
        have hmr := mbR_rg (lst := A 11) (n := n) (d := 0) (A := gup A 12 (A 11 i).toNat 1) (by rw [gup_ne (by decide)]; exact hg.2.2.1); have h14 := hg.2.2.1 (A 11 i).toNat; have h12 := hg.1 (A 11 i).toNat
        refine g_iadd dX3_mostByRows_64 ?_
        refine g_st2 (ls2 := [(8, _), (7, _), (6, _), (0, _), (1, _), (2, _), (3, _), (4, _), (5, _)]) dX3_mostByRows_65 (by decide) (c1_ci (c1_ci (c1_cr (c1_cr (c1_ci (c1_ci (c1_ci (c1_ci c1_0)))))))) rfl ?_
        refine g_aload_n 3 dX3_mostByRows_67 rfl rfl ?_
        refine g_getfr2 (r := 12) cf_2 0 rfl (by decide) (by decide) rfl (by decide) wf_X3_59 dX3_mostByRows_68 (hL 1 rfl) rfl ?_
        refine g_iload 2 dX3_mostByRows_71 rfl ?_
        refine g_iload 1 dX3_mostByRows_73 rfl ?_
        refine g_iast ((A 11 i).toNat) (by omega) (by omega) (by omega) rfl (by decide) dX3_mostByRows_75 (n2 (hL 12 rfl)) ?_
        refine g_ls (A2 := A) rfl rfl (gup_back _ _ _ _) ?_
        refine g_iload 7 dX3_mostByRows_76 rfl ?_
        refine g_iload 0 dX3_mostByRows_78 rfl ?_
        refine g_max (by omega) (by omega) wm_X3_369 wst_J9_max_7cf53 wn_J9 wo_J9_max_7cf53 (Nat.le_of_ble_eq_true rfl) (Nat.le_of_ble_eq_true rfl) (by decide) dX3_mostByRows_80 ?_
        refine g_top (y := plR (fun i => A 14 (A 11 i).toNat + mbR (A 11) n 0 (gup A 12 (A 11 i).toNat 1)) (fun i => safeB A (A 11 i)) (i + 1)) (by simp only [plR]; rw [show safeB A (A 11 i) = true by assumption]; simp only [true_and]) ?_
        refine g_st2 (ls2 := [(4, _), (8, _), (7, _), (6, _), (0, _), (1, _), (2, _), (3, _), (5, _)]) dX3_mostByRows_83 (by decide) (c1_ci (c1_ci (c1_ci (c1_cr (c1_cr (c1_ci (c1_ci (c1_ci (c1_ci c1_0))))))))) rfl ?_
        refine g_inc (ls2 := [(5, _), (4, _), (8, _), (7, _), (6, _), (0, _), (1, _), (2, _), (3, _)]) 8 dX3_mostByRows_85 rfl (by decide) (c1_ci (c1_ci (c1_ci (c1_ci (c1_cr (c1_cr (c1_ci (c1_ci (c1_ci c1_0))))))))) rfl ?_
        refine g_goto (tgt := 12) dX3_mostByRows_88 (by decide) ?_
        refine g_sub [5, 6, 7, 8, 1, 0] (ls2 := [(0, _), (1, _), (2, _), (3, _), (4, _), (5, _)]) rfl ?_
        first | exact g_ls (by rfl) rfl rfl ih12 | exact g_ls (by simp only [plR]; rw [show safeB A (A 11 i) = false by assumption]; (try simp)) rfl rfl ih12
  exact g_ls (by rfl) rfl rfl hQ12

set_option maxHeartbeats 1000000 in
set_option maxRecDepth 20000 in
theorem c_mbr_1 {L : Nat → Nat} {A : Mem} (hL : LC L) (hg : GVd A) {n : Nat} (hn : n ≤ 16) (hl : ∀ i, i < n → 0 ≤ A 11 i ∧ A 11 i < 100) : Ct ((mX3_mostByRows 0)) [gr 1, gr 11, gi n, gi 1] L A (pr (some (gi (mbR (A 11) n 1 A))) L A) := by
  refine Ct_of (ls := [(0, _), (1, _), (2, _), (3, _)]) rfl (by decide) (fun _ => rfl) (fun _ => Nat.le_of_ble_eq_true rfl) ?_
  refine g_iload_n 3 dX3_mostByRows_0 rfl rfl ?_
  refine g_if_gt (tgt := 6) (by omega) dX3_mostByRows_1 (by decide) (fun h1_8 => ?_) (fun h1_8 => absurd h1_8 (by omega))
  refine g_iconst dX3_mostByRows_6 ?_
  refine g_st2 (ls2 := [(4, _), (0, _), (1, _), (2, _), (3, _)]) dX3_mostByRows_7 (by decide) (c1_cr (c1_cr (c1_ci (c1_ci c1_0)))) rfl ?_
  refine g_iconst dX3_mostByRows_9 ?_
  refine g_st2 (ls2 := [(5, _), (4, _), (0, _), (1, _), (2, _), (3, _)]) dX3_mostByRows_10 (by decide) (c1_ci (c1_cr (c1_cr (c1_ci (c1_ci c1_0))))) rfl ?_
  refine g_sub [2, 3, 4, 5, 1, 0] (ls2 := [(0, _), (1, _), (2, _), (3, _), (4, _), (5, _)]) rfl ?_
  have hQ12 : (fun i : Nat => GW ((mX3_mostByRows 0)) (pr (some (gi (mbR (A 11) n 1 A))) L A) 0 0 12 [(0, gr (1)), (1, gr (11)), (2, gi ((n : Int))), (3, gi (1)), (4, gi (plR (fun i => A 14 (A 11 i).toNat + mbR (A 11) n 0 (gup A 12 (A 11 i).toNat 1)) (fun i => safeB A (A 11 i)) i)), (5, gi ((i : Int)))] [] L (A)) 0 := by
    refine lp_up (Q := (fun i : Nat => GW ((mX3_mostByRows 0)) (pr (some (gi (mbR (A 11) n 1 A))) L A) 0 0 12 [(0, gr (1)), (1, gr (11)), (2, gi ((n : Int))), (3, gi (1)), (4, gi (plR (fun i => A 14 (A 11 i).toNat + mbR (A 11) n 0 (gup A 12 (A 11 i).toNat 1)) (fun i => safeB A (A 11 i)) i)), (5, gi ((i : Int)))] [] L (A))) (n := n) ?_ (fun i hi12 ih12 => ?_)
    · skip
      refine g_iload 5 dX3_mostByRows_12 rfl ?_
      refine g_iload_n 2 dX3_mostByRows_14 rfl rfl ?_
      refine g_icmp_ge (tgt := 91) (by omega) (by omega) dX3_mostByRows_15 (by decide) (fun h15_9 => ?_) (fun h15_9 => absurd h15_9 (by omega))
      refine g_iload 4 dX3_mostByRows_91 rfl ?_
      exact g_iret dX3_mostByRows_93 rfl (Nat.le_of_ble_eq_true rfl) (Nat.le_of_ble_eq_true rfl) (pr_i (rfl) (rfl))
    · skip
      have hpr := plR_rg (f := (fun i => A 14 (A 11 i).toNat + mbR (A 11) n 0 (gup A 12 (A 11 i).toNat 1))) (ok := (fun i => safeB A (A 11 i))) (M := 9999) (by omega) (fun c => by have := hg.2.2.1 (A 11 c).toNat; have := mbR_rg (lst := A 11) (n := n) (d := 0) (A := gup A 12 (A 11 c).toNat 1) (by rw [gup_ne (by decide)]; exact hg.2.2.1); show _ + _ ≤ _; omega) i
      refine g_iload 5 dX3_mostByRows_12 rfl ?_
      refine g_iload_n 2 dX3_mostByRows_14 rfl rfl ?_
      refine g_icmp_ge (tgt := 91) (by omega) (by omega) dX3_mostByRows_15 (by decide) (fun h15_10 => absurd h15_10 (by omega)) (fun h15_10 => ?_)
      refine g_iload 5 dX3_mostByRows_18 rfl ?_
      refine g_aload_n 1 dX3_mostByRows_20 rfl rfl ?_
      refine g_alen rfl (by decide) dX3_mostByRows_21 (n2 (hL 11 rfl)) ?_
      refine g_icmp_ge (tgt := 91) (by omega) (by omega) dX3_mostByRows_22 (by decide) (fun h22_11 => absurd h22_11 (by omega)) (fun h22_11 => ?_)
      refine g_aload_n 1 dX3_mostByRows_25 rfl rfl ?_
      refine g_iload 5 dX3_mostByRows_26 rfl ?_
      refine g_iald (i) (by omega) (by omega) rfl (by decide) dX3_mostByRows_28 (n2 (hL 11 rfl)) (fun h28_12 => ?_)
      refine g_st2 (ls2 := [(6, _), (0, _), (1, _), (2, _), (3, _), (4, _), (5, _)]) dX3_mostByRows_29 (by decide) (c1_cr (c1_cr (c1_ci (c1_ci (c1_ci (c1_ci c1_0)))))) rfl ?_
      have hci := hl i hi12
      refine g_aload_n 1 dX3_mostByRows_31 rfl rfl ?_
      refine g_iload 0 dX3_mostByRows_32 rfl ?_
      refine g_cV_i (My := mX1_canBeDugSafely) (gs := [_]) (c_X1_canBeDugSafely hL (x := A 11 i) hci) mfX1_canBeDugSafely cf_2 wi_X1_canBeDugSafely wsl_X1_canBeDugSafely wm_X3_385 dX3_mostByRows_34 (Nat.le_of_ble_eq_true rfl) rfl (by decide) (n2 (hL 1 rfl)) rfl (fun _ => Nat.le_of_ble_eq_true rfl) (Nat.le_of_ble_eq_true rfl) (Nat.le_of_ble_eq_true rfl) rfl rfl ?_
      refine g_ifb_eq (tgt := 85) dX3_mostByRows_37 (by decide) (fun h37_13 => ?_) (fun h37_13 => ?_)
      · skip
        refine g_inc (ls2 := [(5, _), (6, _), (0, _), (1, _), (2, _), (3, _), (4, _)]) 6 dX3_mostByRows_85 rfl (by decide) (c1_ci (c1_cr (c1_cr (c1_ci (c1_ci (c1_ci (c1_ci c1_0))))))) rfl ?_
        refine g_goto (tgt := 12) dX3_mostByRows_88 (by decide) ?_
        refine g_sub [2, 3, 4, 5, 6, 0] (ls2 := [(0, _), (1, _), (2, _), (3, _), (4, _), (5, _)]) rfl ?_
        first | exact g_ls (by rfl) rfl rfl ih12 | exact g_ls (by simp only [plR]; rw [show safeB A (A 11 i) = false by assumption]; (try simp)) rfl rfl ih12
      · skip
        refine g_aload_n 1 dX3_mostByRows_40 rfl rfl ?_
        refine g_iload 0 dX3_mostByRows_41 rfl ?_
        refine g_cV_i (My := mX1_openForNow) (gs := [_]) (c_X1_openForNow hL (x := A 11 i) hci) mfX1_openForNow cf_2 wi_X1_openForNow wsl_X1_openForNow wm_X3_388 dX3_mostByRows_43 (Nat.le_of_ble_eq_true rfl) rfl (by decide) (n2 (hL 1 rfl)) rfl (fun _ => Nat.le_of_ble_eq_true rfl) (Nat.le_of_ble_eq_true rfl) (Nat.le_of_ble_eq_true rfl) rfl rfl ?_
        refine g_st2 (ls2 := [(7, _), (6, _), (0, _), (1, _), (2, _), (3, _), (4, _), (5, _)]) dX3_mostByRows_46 (by decide) (c1_ci (c1_cr (c1_cr (c1_ci (c1_ci (c1_ci (c1_ci c1_0))))))) rfl ?_
        refine g_aload_n 2 dX3_mostByRows_48 rfl rfl ?_
        refine g_getfr2 (r := 14) cf_2 2 rfl (by decide) (by decide) rfl (by decide) wf_X3_74 dX3_mostByRows_49 (hL 1 rfl) rfl ?_
        refine g_iload 1 dX3_mostByRows_52 rfl ?_
        refine g_iald ((A 11 i).toNat) (by omega) (by omega) rfl (by decide) dX3_mostByRows_54 (n2 (hL 14 rfl)) (fun h54_14 => ?_)
        refine g_top (y := A 14 (A 11 i).toNat) (by rw [gup_ne (by decide)]) ?_
        refine g_aload_n 2 dX3_mostByRows_55 rfl rfl ?_
        refine g_aload_n 3 dX3_mostByRows_56 rfl rfl ?_
        refine g_iload_n 4 dX3_mostByRows_57 rfl rfl ?_
        refine g_iload_n 5 dX3_mostByRows_58 rfl rfl ?_
        refine g_iconst dX3_mostByRows_59 ?_
        refine g_isub dX3_mostByRows_60 ?_
        refine g_top (y := 0) (by omega) ?_
        refine g_cS_i (My := mX3_mbr0) (gs := [_, _, _, _]) (c_mbr_0 (A := gup A 12 (A 11 i).toNat 1) hL (GVd_open hg) hn (fun j hj => by rw [gup_ne (by decide)]; exact hl j hj)) mfX3_mbr0 rfl wst_X3_mostByRows wm_X3_332 dX3_mostByRows_61 (Nat.le_of_ble_eq_true rfl) rfl (fun _ => Nat.le_of_ble_eq_true rfl) (Nat.le_of_ble_eq_true rfl) (Nat.le_of_ble_eq_true rfl) rfl rfl ?_
        rw [gup_ne (show 11 ≠ 12 by decide)]
        have hmr := mbR_rg (lst := A 11) (n := n) (d := 0) (A := gup A 12 (A 11 i).toNat 1) (by rw [gup_ne (by decide)]; exact hg.2.2.1); have h14 := hg.2.2.1 (A 11 i).toNat; have h12 := hg.1 (A 11 i).toNat
        refine g_iadd dX3_mostByRows_64 ?_
        refine g_st2 (ls2 := [(8, _), (7, _), (6, _), (0, _), (1, _), (2, _), (3, _), (4, _), (5, _)]) dX3_mostByRows_65 (by decide) (c1_ci (c1_ci (c1_cr (c1_cr (c1_ci (c1_ci (c1_ci (c1_ci c1_0)))))))) rfl ?_
        refine g_aload_n 3 dX3_mostByRows_67 rfl rfl ?_
        refine g_getfr2 (r := 12) cf_2 0 rfl (by decide) (by decide) rfl (by decide) wf_X3_59 dX3_mostByRows_68 (hL 1 rfl) rfl ?_
        refine g_iload 2 dX3_mostByRows_71 rfl ?_
        refine g_iload 1 dX3_mostByRows_73 rfl ?_
        refine g_iast ((A 11 i).toNat) (by omega) (by omega) (by omega) rfl (by decide) dX3_mostByRows_75 (n2 (hL 12 rfl)) ?_
        refine g_ls (A2 := A) rfl rfl (gup_back _ _ _ _) ?_
        refine g_iload 7 dX3_mostByRows_76 rfl ?_
        refine g_iload 0 dX3_mostByRows_78 rfl ?_
        refine g_max (by omega) (by omega) wm_X3_369 wst_J9_max_7cf53 wn_J9 wo_J9_max_7cf53 (Nat.le_of_ble_eq_true rfl) (Nat.le_of_ble_eq_true rfl) (by decide) dX3_mostByRows_80 ?_
        refine g_top (y := plR (fun i => A 14 (A 11 i).toNat + mbR (A 11) n 0 (gup A 12 (A 11 i).toNat 1)) (fun i => safeB A (A 11 i)) (i + 1)) (by simp only [plR]; rw [show safeB A (A 11 i) = true by assumption]; simp only [true_and]) ?_
        refine g_st2 (ls2 := [(4, _), (8, _), (7, _), (6, _), (0, _), (1, _), (2, _), (3, _), (5, _)]) dX3_mostByRows_83 (by decide) (c1_ci (c1_ci (c1_ci (c1_cr (c1_cr (c1_ci (c1_ci (c1_ci (c1_ci c1_0))))))))) rfl ?_
        refine g_inc (ls2 := [(5, _), (4, _), (8, _), (7, _), (6, _), (0, _), (1, _), (2, _), (3, _)]) 8 dX3_mostByRows_85 rfl (by decide) (c1_ci (c1_ci (c1_ci (c1_ci (c1_cr (c1_cr (c1_ci (c1_ci (c1_ci c1_0))))))))) rfl ?_
        refine g_goto (tgt := 12) dX3_mostByRows_88 (by decide) ?_
        refine g_sub [5, 6, 7, 8, 1, 0] (ls2 := [(0, _), (1, _), (2, _), (3, _), (4, _), (5, _)]) rfl ?_
        first | exact g_ls (by rfl) rfl rfl ih12 | exact g_ls (by simp only [plR]; rw [show safeB A (A 11 i) = false by assumption]; (try simp)) rfl rfl ih12
  exact g_ls (by rfl) rfl rfl hQ12

set_option maxHeartbeats 1000000 in
set_option maxRecDepth 20000 in
theorem c_mbt_2 {L : Nat → Nat} {A : Mem} (hL : LC L) (hg : GVd A) {n : Nat} (hn : n ≤ 16) (hl : ∀ i, i < n → 0 ≤ A 11 i ∧ A 11 i < 100) : Ct ((mX3_mostByRows 2)) [gr 1, gr 11, gi n, gi 2] L A (pr (some (gi (mbR (A 11) n 2 A))) L A) := by
  refine Ct_of (ls := [(0, _), (1, _), (2, _), (3, _)]) rfl (by decide) (fun _ => rfl) (fun _ => Nat.le_of_ble_eq_true rfl) ?_
  refine g_iload_n 3 dX3_mostByRows_0 rfl rfl ?_
  refine g_if_gt (tgt := 6) (by omega) dX3_mostByRows_1 (by decide) (fun h1_1 => ?_) (fun h1_1 => absurd h1_1 (by omega))
  refine g_iconst dX3_mostByRows_6 ?_
  refine g_st2 (ls2 := [(4, _), (0, _), (1, _), (2, _), (3, _)]) dX3_mostByRows_7 (by decide) (c1_cr (c1_cr (c1_ci (c1_ci c1_0)))) rfl ?_
  refine g_iconst dX3_mostByRows_9 ?_
  refine g_st2 (ls2 := [(5, _), (4, _), (0, _), (1, _), (2, _), (3, _)]) dX3_mostByRows_10 (by decide) (c1_ci (c1_cr (c1_cr (c1_ci (c1_ci c1_0))))) rfl ?_
  refine g_sub [2, 3, 4, 5, 1, 0] (ls2 := [(0, _), (1, _), (2, _), (3, _), (4, _), (5, _)]) rfl ?_
  have hQ12 : (fun i : Nat => GW ((mX3_mostByRows 2)) (pr (some (gi (mbR (A 11) n 2 A))) L A) 0 0 12 [(0, gr (1)), (1, gr (11)), (2, gi ((n : Int))), (3, gi (2)), (4, gi (plR (fun i => A 14 (A 11 i).toNat + mbR (A 11) n 1 (gup A 12 (A 11 i).toNat 1)) (fun i => safeB A (A 11 i)) i)), (5, gi ((i : Int)))] [] L (A)) 0 := by
    refine lp_up (Q := (fun i : Nat => GW ((mX3_mostByRows 2)) (pr (some (gi (mbR (A 11) n 2 A))) L A) 0 0 12 [(0, gr (1)), (1, gr (11)), (2, gi ((n : Int))), (3, gi (2)), (4, gi (plR (fun i => A 14 (A 11 i).toNat + mbR (A 11) n 1 (gup A 12 (A 11 i).toNat 1)) (fun i => safeB A (A 11 i)) i)), (5, gi ((i : Int)))] [] L (A))) (n := n) ?_ (fun i hi12 ih12 => ?_)
    · skip
      refine g_iload 5 dX3_mostByRows_12 rfl ?_
      refine g_iload_n 2 dX3_mostByRows_14 rfl rfl ?_
      refine g_icmp_ge (tgt := 91) (by omega) (by omega) dX3_mostByRows_15 (by decide) (fun h15_2 => ?_) (fun h15_2 => absurd h15_2 (by omega))
      refine g_iload 4 dX3_mostByRows_91 rfl ?_
      exact g_iret dX3_mostByRows_93 rfl (Nat.le_of_ble_eq_true rfl) (Nat.le_of_ble_eq_true rfl) (pr_i (rfl) (rfl))
    · skip
      have hpr := plR_rg (f := (fun i => A 14 (A 11 i).toNat + mbR (A 11) n 1 (gup A 12 (A 11 i).toNat 1))) (ok := (fun i => safeB A (A 11 i))) (M := 9999) (by omega) (fun c => by have := hg.2.2.1 (A 11 c).toNat; have := mbR_rg (lst := A 11) (n := n) (d := 1) (A := gup A 12 (A 11 c).toNat 1) (by rw [gup_ne (by decide)]; exact hg.2.2.1); show _ + _ ≤ _; omega) i
      refine g_iload 5 dX3_mostByRows_12 rfl ?_
      refine g_iload_n 2 dX3_mostByRows_14 rfl rfl ?_
      refine g_icmp_ge (tgt := 91) (by omega) (by omega) dX3_mostByRows_15 (by decide) (fun h15_3 => absurd h15_3 (by omega)) (fun h15_3 => ?_)
      refine g_iload 5 dX3_mostByRows_18 rfl ?_
      refine g_aload_n 1 dX3_mostByRows_20 rfl rfl ?_
      refine g_alen rfl (by decide) dX3_mostByRows_21 (n2 (hL 11 rfl)) ?_
      refine g_icmp_ge (tgt := 91) (by omega) (by omega) dX3_mostByRows_22 (by decide) (fun h22_4 => absurd h22_4 (by omega)) (fun h22_4 => ?_)
      refine g_aload_n 1 dX3_mostByRows_25 rfl rfl ?_
      refine g_iload 5 dX3_mostByRows_26 rfl ?_
      refine g_iald (i) (by omega) (by omega) rfl (by decide) dX3_mostByRows_28 (n2 (hL 11 rfl)) (fun h28_5 => ?_)
      refine g_st2 (ls2 := [(6, _), (0, _), (1, _), (2, _), (3, _), (4, _), (5, _)]) dX3_mostByRows_29 (by decide) (c1_cr (c1_cr (c1_ci (c1_ci (c1_ci (c1_ci c1_0)))))) rfl ?_
      have hci := hl i hi12
      refine g_aload_n 1 dX3_mostByRows_31 rfl rfl ?_
      refine g_iload 0 dX3_mostByRows_32 rfl ?_
      refine g_cV_i (My := mX1_canBeDugSafely) (gs := [_]) (c_X1_canBeDugSafely hL (x := A 11 i) hci) mfX1_canBeDugSafely cf_2 wi_X1_canBeDugSafely wsl_X1_canBeDugSafely wm_X3_385 dX3_mostByRows_34 (Nat.le_of_ble_eq_true rfl) rfl (by decide) (n2 (hL 1 rfl)) rfl (fun _ => Nat.le_of_ble_eq_true rfl) (Nat.le_of_ble_eq_true rfl) (Nat.le_of_ble_eq_true rfl) rfl rfl ?_
      refine g_ifb_eq (tgt := 85) dX3_mostByRows_37 (by decide) (fun h37_6 => ?_) (fun h37_6 => ?_)
      · skip
        refine g_inc (ls2 := [(5, _), (6, _), (0, _), (1, _), (2, _), (3, _), (4, _)]) 6 dX3_mostByRows_85 rfl (by decide) (c1_ci (c1_cr (c1_cr (c1_ci (c1_ci (c1_ci (c1_ci c1_0))))))) rfl ?_
        refine g_goto (tgt := 12) dX3_mostByRows_88 (by decide) ?_
        refine g_sub [2, 3, 4, 5, 6, 0] (ls2 := [(0, _), (1, _), (2, _), (3, _), (4, _), (5, _)]) rfl ?_
        first | exact g_ls (by rfl) rfl rfl ih12 | exact g_ls (by simp only [plR]; rw [show safeB A (A 11 i) = false by assumption]; (try simp)) rfl rfl ih12
      · skip
        refine g_aload_n 1 dX3_mostByRows_40 rfl rfl ?_
        refine g_iload 0 dX3_mostByRows_41 rfl ?_
        refine g_cV_i (My := mX1_openForNow) (gs := [_]) (c_X1_openForNow hL (x := A 11 i) hci) mfX1_openForNow cf_2 wi_X1_openForNow wsl_X1_openForNow wm_X3_388 dX3_mostByRows_43 (Nat.le_of_ble_eq_true rfl) rfl (by decide) (n2 (hL 1 rfl)) rfl (fun _ => Nat.le_of_ble_eq_true rfl) (Nat.le_of_ble_eq_true rfl) (Nat.le_of_ble_eq_true rfl) rfl rfl ?_
        refine g_st2 (ls2 := [(7, _), (6, _), (0, _), (1, _), (2, _), (3, _), (4, _), (5, _)]) dX3_mostByRows_46 (by decide) (c1_ci (c1_cr (c1_cr (c1_ci (c1_ci (c1_ci (c1_ci c1_0))))))) rfl ?_
        refine g_aload_n 2 dX3_mostByRows_48 rfl rfl ?_
        refine g_getfr2 (r := 14) cf_2 2 rfl (by decide) (by decide) rfl (by decide) wf_X3_74 dX3_mostByRows_49 (hL 1 rfl) rfl ?_
        refine g_iload 1 dX3_mostByRows_52 rfl ?_
        refine g_iald ((A 11 i).toNat) (by omega) (by omega) rfl (by decide) dX3_mostByRows_54 (n2 (hL 14 rfl)) (fun h54_7 => ?_)
        refine g_top (y := A 14 (A 11 i).toNat) (by rw [gup_ne (by decide)]) ?_
        refine g_aload_n 2 dX3_mostByRows_55 rfl rfl ?_
        refine g_aload_n 3 dX3_mostByRows_56 rfl rfl ?_
        refine g_iload_n 4 dX3_mostByRows_57 rfl rfl ?_
        refine g_iload_n 5 dX3_mostByRows_58 rfl rfl ?_
        refine g_iconst dX3_mostByRows_59 ?_
        refine g_isub dX3_mostByRows_60 ?_
        refine g_top (y := 1) (by omega) ?_
        refine g_cS_i (My := (mX3_mostByRows 0)) (gs := [_, _, _, _]) (c_mbr_1 (A := gup A 12 (A 11 i).toNat 1) hL (GVd_open hg) hn (fun j hj => by rw [gup_ne (by decide)]; exact hl j hj)) (mfX3_mostByRows 0) rfl wst_X3_mostByRows wm_X3_332 dX3_mostByRows_61 (Nat.le_of_ble_eq_true rfl) rfl (fun _ => Nat.le_of_ble_eq_true rfl) (Nat.le_of_ble_eq_true rfl) (Nat.le_of_ble_eq_true rfl) rfl rfl ?_
        rw [gup_ne (show 11 ≠ 12 by decide)]
        have hmr := mbR_rg (lst := A 11) (n := n) (d := 1) (A := gup A 12 (A 11 i).toNat 1) (by rw [gup_ne (by decide)]; exact hg.2.2.1); have h14 := hg.2.2.1 (A 11 i).toNat; have h12 := hg.1 (A 11 i).toNat
        refine g_iadd dX3_mostByRows_64 ?_
        refine g_st2 (ls2 := [(8, _), (7, _), (6, _), (0, _), (1, _), (2, _), (3, _), (4, _), (5, _)]) dX3_mostByRows_65 (by decide) (c1_ci (c1_ci (c1_cr (c1_cr (c1_ci (c1_ci (c1_ci (c1_ci c1_0)))))))) rfl ?_
        refine g_aload_n 3 dX3_mostByRows_67 rfl rfl ?_
        refine g_getfr2 (r := 12) cf_2 0 rfl (by decide) (by decide) rfl (by decide) wf_X3_59 dX3_mostByRows_68 (hL 1 rfl) rfl ?_
        refine g_iload 2 dX3_mostByRows_71 rfl ?_
        refine g_iload 1 dX3_mostByRows_73 rfl ?_
        refine g_iast ((A 11 i).toNat) (by omega) (by omega) (by omega) rfl (by decide) dX3_mostByRows_75 (n2 (hL 12 rfl)) ?_
        refine g_ls (A2 := A) rfl rfl (gup_back _ _ _ _) ?_
        refine g_iload 7 dX3_mostByRows_76 rfl ?_
        refine g_iload 0 dX3_mostByRows_78 rfl ?_
        refine g_max (by omega) (by omega) wm_X3_369 wst_J9_max_7cf53 wn_J9 wo_J9_max_7cf53 (Nat.le_of_ble_eq_true rfl) (Nat.le_of_ble_eq_true rfl) (by decide) dX3_mostByRows_80 ?_
        refine g_top (y := plR (fun i => A 14 (A 11 i).toNat + mbR (A 11) n 1 (gup A 12 (A 11 i).toNat 1)) (fun i => safeB A (A 11 i)) (i + 1)) (by simp only [plR]; rw [show safeB A (A 11 i) = true by assumption]; simp only [true_and]) ?_
        refine g_st2 (ls2 := [(4, _), (8, _), (7, _), (6, _), (0, _), (1, _), (2, _), (3, _), (5, _)]) dX3_mostByRows_83 (by decide) (c1_ci (c1_ci (c1_ci (c1_cr (c1_cr (c1_ci (c1_ci (c1_ci (c1_ci c1_0))))))))) rfl ?_
        refine g_inc (ls2 := [(5, _), (4, _), (8, _), (7, _), (6, _), (0, _), (1, _), (2, _), (3, _)]) 8 dX3_mostByRows_85 rfl (by decide) (c1_ci (c1_ci (c1_ci (c1_ci (c1_cr (c1_cr (c1_ci (c1_ci (c1_ci c1_0))))))))) rfl ?_
        refine g_goto (tgt := 12) dX3_mostByRows_88 (by decide) ?_
        refine g_sub [5, 6, 7, 8, 1, 0] (ls2 := [(0, _), (1, _), (2, _), (3, _), (4, _), (5, _)]) rfl ?_
        first | exact g_ls (by rfl) rfl rfl ih12 | exact g_ls (by simp only [plR]; rw [show safeB A (A 11 i) = false by assumption]; (try simp)) rfl rfl ih12
  exact g_ls (by rfl) rfl rfl hQ12

set_option maxHeartbeats 1000000 in
set_option maxRecDepth 20000 in
theorem c_mbr_2 {L : Nat → Nat} {A : Mem} (hL : LC L) (hg : GVd A) {n : Nat} (hn : n ≤ 16) (hl : ∀ i, i < n → 0 ≤ A 11 i ∧ A 11 i < 100) : Ct ((mX3_mostByRows 1)) [gr 1, gr 11, gi n, gi 2] L A (pr (some (gi (mbR (A 11) n 2 A))) L A) := by
  refine Ct_of (ls := [(0, _), (1, _), (2, _), (3, _)]) rfl (by decide) (fun _ => rfl) (fun _ => Nat.le_of_ble_eq_true rfl) ?_
  refine g_iload_n 3 dX3_mostByRows_0 rfl rfl ?_
  refine g_if_gt (tgt := 6) (by omega) dX3_mostByRows_1 (by decide) (fun h1_8 => ?_) (fun h1_8 => absurd h1_8 (by omega))
  refine g_iconst dX3_mostByRows_6 ?_
  refine g_st2 (ls2 := [(4, _), (0, _), (1, _), (2, _), (3, _)]) dX3_mostByRows_7 (by decide) (c1_cr (c1_cr (c1_ci (c1_ci c1_0)))) rfl ?_
  refine g_iconst dX3_mostByRows_9 ?_
  refine g_st2 (ls2 := [(5, _), (4, _), (0, _), (1, _), (2, _), (3, _)]) dX3_mostByRows_10 (by decide) (c1_ci (c1_cr (c1_cr (c1_ci (c1_ci c1_0))))) rfl ?_
  refine g_sub [2, 3, 4, 5, 1, 0] (ls2 := [(0, _), (1, _), (2, _), (3, _), (4, _), (5, _)]) rfl ?_
  have hQ12 : (fun i : Nat => GW ((mX3_mostByRows 1)) (pr (some (gi (mbR (A 11) n 2 A))) L A) 0 0 12 [(0, gr (1)), (1, gr (11)), (2, gi ((n : Int))), (3, gi (2)), (4, gi (plR (fun i => A 14 (A 11 i).toNat + mbR (A 11) n 1 (gup A 12 (A 11 i).toNat 1)) (fun i => safeB A (A 11 i)) i)), (5, gi ((i : Int)))] [] L (A)) 0 := by
    refine lp_up (Q := (fun i : Nat => GW ((mX3_mostByRows 1)) (pr (some (gi (mbR (A 11) n 2 A))) L A) 0 0 12 [(0, gr (1)), (1, gr (11)), (2, gi ((n : Int))), (3, gi (2)), (4, gi (plR (fun i => A 14 (A 11 i).toNat + mbR (A 11) n 1 (gup A 12 (A 11 i).toNat 1)) (fun i => safeB A (A 11 i)) i)), (5, gi ((i : Int)))] [] L (A))) (n := n) ?_ (fun i hi12 ih12 => ?_)
    · skip
      refine g_iload 5 dX3_mostByRows_12 rfl ?_
      refine g_iload_n 2 dX3_mostByRows_14 rfl rfl ?_
      refine g_icmp_ge (tgt := 91) (by omega) (by omega) dX3_mostByRows_15 (by decide) (fun h15_9 => ?_) (fun h15_9 => absurd h15_9 (by omega))
      refine g_iload 4 dX3_mostByRows_91 rfl ?_
      exact g_iret dX3_mostByRows_93 rfl (Nat.le_of_ble_eq_true rfl) (Nat.le_of_ble_eq_true rfl) (pr_i (rfl) (rfl))
    · skip
      have hpr := plR_rg (f := (fun i => A 14 (A 11 i).toNat + mbR (A 11) n 1 (gup A 12 (A 11 i).toNat 1))) (ok := (fun i => safeB A (A 11 i))) (M := 9999) (by omega) (fun c => by have := hg.2.2.1 (A 11 c).toNat; have := mbR_rg (lst := A 11) (n := n) (d := 1) (A := gup A 12 (A 11 c).toNat 1) (by rw [gup_ne (by decide)]; exact hg.2.2.1); show _ + _ ≤ _; omega) i
      refine g_iload 5 dX3_mostByRows_12 rfl ?_
      refine g_iload_n 2 dX3_mostByRows_14 rfl rfl ?_
      refine g_icmp_ge (tgt := 91) (by omega) (by omega) dX3_mostByRows_15 (by decide) (fun h15_10 => absurd h15_10 (by omega)) (fun h15_10 => ?_)
      refine g_iload 5 dX3_mostByRows_18 rfl ?_
      refine g_aload_n 1 dX3_mostByRows_20 rfl rfl ?_
      refine g_alen rfl (by decide) dX3_mostByRows_21 (n2 (hL 11 rfl)) ?_
      refine g_icmp_ge (tgt := 91) (by omega) (by omega) dX3_mostByRows_22 (by decide) (fun h22_11 => absurd h22_11 (by omega)) (fun h22_11 => ?_)
      refine g_aload_n 1 dX3_mostByRows_25 rfl rfl ?_
      refine g_iload 5 dX3_mostByRows_26 rfl ?_
      refine g_iald (i) (by omega) (by omega) rfl (by decide) dX3_mostByRows_28 (n2 (hL 11 rfl)) (fun h28_12 => ?_)
      refine g_st2 (ls2 := [(6, _), (0, _), (1, _), (2, _), (3, _), (4, _), (5, _)]) dX3_mostByRows_29 (by decide) (c1_cr (c1_cr (c1_ci (c1_ci (c1_ci (c1_ci c1_0)))))) rfl ?_
      have hci := hl i hi12
      refine g_aload_n 1 dX3_mostByRows_31 rfl rfl ?_
      refine g_iload 0 dX3_mostByRows_32 rfl ?_
      refine g_cV_i (My := mX1_canBeDugSafely) (gs := [_]) (c_X1_canBeDugSafely hL (x := A 11 i) hci) mfX1_canBeDugSafely cf_2 wi_X1_canBeDugSafely wsl_X1_canBeDugSafely wm_X3_385 dX3_mostByRows_34 (Nat.le_of_ble_eq_true rfl) rfl (by decide) (n2 (hL 1 rfl)) rfl (fun _ => Nat.le_of_ble_eq_true rfl) (Nat.le_of_ble_eq_true rfl) (Nat.le_of_ble_eq_true rfl) rfl rfl ?_
      refine g_ifb_eq (tgt := 85) dX3_mostByRows_37 (by decide) (fun h37_13 => ?_) (fun h37_13 => ?_)
      · skip
        refine g_inc (ls2 := [(5, _), (6, _), (0, _), (1, _), (2, _), (3, _), (4, _)]) 6 dX3_mostByRows_85 rfl (by decide) (c1_ci (c1_cr (c1_cr (c1_ci (c1_ci (c1_ci (c1_ci c1_0))))))) rfl ?_
        refine g_goto (tgt := 12) dX3_mostByRows_88 (by decide) ?_
        refine g_sub [2, 3, 4, 5, 6, 0] (ls2 := [(0, _), (1, _), (2, _), (3, _), (4, _), (5, _)]) rfl ?_
        first | exact g_ls (by rfl) rfl rfl ih12 | exact g_ls (by simp only [plR]; rw [show safeB A (A 11 i) = false by assumption]; (try simp)) rfl rfl ih12
      · skip
        refine g_aload_n 1 dX3_mostByRows_40 rfl rfl ?_
        refine g_iload 0 dX3_mostByRows_41 rfl ?_
        refine g_cV_i (My := mX1_openForNow) (gs := [_]) (c_X1_openForNow hL (x := A 11 i) hci) mfX1_openForNow cf_2 wi_X1_openForNow wsl_X1_openForNow wm_X3_388 dX3_mostByRows_43 (Nat.le_of_ble_eq_true rfl) rfl (by decide) (n2 (hL 1 rfl)) rfl (fun _ => Nat.le_of_ble_eq_true rfl) (Nat.le_of_ble_eq_true rfl) (Nat.le_of_ble_eq_true rfl) rfl rfl ?_
        refine g_st2 (ls2 := [(7, _), (6, _), (0, _), (1, _), (2, _), (3, _), (4, _), (5, _)]) dX3_mostByRows_46 (by decide) (c1_ci (c1_cr (c1_cr (c1_ci (c1_ci (c1_ci (c1_ci c1_0))))))) rfl ?_
        refine g_aload_n 2 dX3_mostByRows_48 rfl rfl ?_
        refine g_getfr2 (r := 14) cf_2 2 rfl (by decide) (by decide) rfl (by decide) wf_X3_74 dX3_mostByRows_49 (hL 1 rfl) rfl ?_
        refine g_iload 1 dX3_mostByRows_52 rfl ?_
        refine g_iald ((A 11 i).toNat) (by omega) (by omega) rfl (by decide) dX3_mostByRows_54 (n2 (hL 14 rfl)) (fun h54_14 => ?_)
        refine g_top (y := A 14 (A 11 i).toNat) (by rw [gup_ne (by decide)]) ?_
        refine g_aload_n 2 dX3_mostByRows_55 rfl rfl ?_
        refine g_aload_n 3 dX3_mostByRows_56 rfl rfl ?_
        refine g_iload_n 4 dX3_mostByRows_57 rfl rfl ?_
        refine g_iload_n 5 dX3_mostByRows_58 rfl rfl ?_
        refine g_iconst dX3_mostByRows_59 ?_
        refine g_isub dX3_mostByRows_60 ?_
        refine g_top (y := 1) (by omega) ?_
        refine g_cS_i (My := (mX3_mostByRows 0)) (gs := [_, _, _, _]) (c_mbr_1 (A := gup A 12 (A 11 i).toNat 1) hL (GVd_open hg) hn (fun j hj => by rw [gup_ne (by decide)]; exact hl j hj)) (mfX3_mostByRows 0) rfl wst_X3_mostByRows wm_X3_332 dX3_mostByRows_61 (Nat.le_of_ble_eq_true rfl) rfl (fun _ => Nat.le_of_ble_eq_true rfl) (Nat.le_of_ble_eq_true rfl) (Nat.le_of_ble_eq_true rfl) rfl rfl ?_
        rw [gup_ne (show 11 ≠ 12 by decide)]
        have hmr := mbR_rg (lst := A 11) (n := n) (d := 1) (A := gup A 12 (A 11 i).toNat 1) (by rw [gup_ne (by decide)]; exact hg.2.2.1); have h14 := hg.2.2.1 (A 11 i).toNat; have h12 := hg.1 (A 11 i).toNat
        refine g_iadd dX3_mostByRows_64 ?_
        refine g_st2 (ls2 := [(8, _), (7, _), (6, _), (0, _), (1, _), (2, _), (3, _), (4, _), (5, _)]) dX3_mostByRows_65 (by decide) (c1_ci (c1_ci (c1_cr (c1_cr (c1_ci (c1_ci (c1_ci (c1_ci c1_0)))))))) rfl ?_
        refine g_aload_n 3 dX3_mostByRows_67 rfl rfl ?_
        refine g_getfr2 (r := 12) cf_2 0 rfl (by decide) (by decide) rfl (by decide) wf_X3_59 dX3_mostByRows_68 (hL 1 rfl) rfl ?_
        refine g_iload 2 dX3_mostByRows_71 rfl ?_
        refine g_iload 1 dX3_mostByRows_73 rfl ?_
        refine g_iast ((A 11 i).toNat) (by omega) (by omega) (by omega) rfl (by decide) dX3_mostByRows_75 (n2 (hL 12 rfl)) ?_
        refine g_ls (A2 := A) rfl rfl (gup_back _ _ _ _) ?_
        refine g_iload 7 dX3_mostByRows_76 rfl ?_
        refine g_iload 0 dX3_mostByRows_78 rfl ?_
        refine g_max (by omega) (by omega) wm_X3_369 wst_J9_max_7cf53 wn_J9 wo_J9_max_7cf53 (Nat.le_of_ble_eq_true rfl) (Nat.le_of_ble_eq_true rfl) (by decide) dX3_mostByRows_80 ?_
        refine g_top (y := plR (fun i => A 14 (A 11 i).toNat + mbR (A 11) n 1 (gup A 12 (A 11 i).toNat 1)) (fun i => safeB A (A 11 i)) (i + 1)) (by simp only [plR]; rw [show safeB A (A 11 i) = true by assumption]; simp only [true_and]) ?_
        refine g_st2 (ls2 := [(4, _), (8, _), (7, _), (6, _), (0, _), (1, _), (2, _), (3, _), (5, _)]) dX3_mostByRows_83 (by decide) (c1_ci (c1_ci (c1_ci (c1_cr (c1_cr (c1_ci (c1_ci (c1_ci (c1_ci c1_0))))))))) rfl ?_
        refine g_inc (ls2 := [(5, _), (4, _), (8, _), (7, _), (6, _), (0, _), (1, _), (2, _), (3, _)]) 8 dX3_mostByRows_85 rfl (by decide) (c1_ci (c1_ci (c1_ci (c1_ci (c1_cr (c1_cr (c1_ci (c1_ci (c1_ci c1_0))))))))) rfl ?_
        refine g_goto (tgt := 12) dX3_mostByRows_88 (by decide) ?_
        refine g_sub [5, 6, 7, 8, 1, 0] (ls2 := [(0, _), (1, _), (2, _), (3, _), (4, _), (5, _)]) rfl ?_
        first | exact g_ls (by rfl) rfl rfl ih12 | exact g_ls (by simp only [plR]; rw [show safeB A (A 11 i) = false by assumption]; (try simp)) rfl rfl ih12
  exact g_ls (by rfl) rfl rfl hQ12

set_option maxHeartbeats 1000000 in
set_option maxRecDepth 20000 in
theorem c_mbr_3 {L : Nat → Nat} {A : Mem} (hL : LC L) (hg : GVd A) {n : Nat} (hn : n ≤ 16) (hl : ∀ i, i < n → 0 ≤ A 11 i ∧ A 11 i < 100) : Ct ((mX3_mostByRows 2)) [gr 1, gr 11, gi n, gi 3] L A (pr (some (gi (mbR (A 11) n 3 A))) L A) := by
  refine Ct_of (ls := [(0, _), (1, _), (2, _), (3, _)]) rfl (by decide) (fun _ => rfl) (fun _ => Nat.le_of_ble_eq_true rfl) ?_
  refine g_iload_n 3 dX3_mostByRows_0 rfl rfl ?_
  refine g_if_gt (tgt := 6) (by omega) dX3_mostByRows_1 (by decide) (fun h1_1 => ?_) (fun h1_1 => absurd h1_1 (by omega))
  refine g_iconst dX3_mostByRows_6 ?_
  refine g_st2 (ls2 := [(4, _), (0, _), (1, _), (2, _), (3, _)]) dX3_mostByRows_7 (by decide) (c1_cr (c1_cr (c1_ci (c1_ci c1_0)))) rfl ?_
  refine g_iconst dX3_mostByRows_9 ?_
  refine g_st2 (ls2 := [(5, _), (4, _), (0, _), (1, _), (2, _), (3, _)]) dX3_mostByRows_10 (by decide) (c1_ci (c1_cr (c1_cr (c1_ci (c1_ci c1_0))))) rfl ?_
  refine g_sub [2, 3, 4, 5, 1, 0] (ls2 := [(0, _), (1, _), (2, _), (3, _), (4, _), (5, _)]) rfl ?_
  have hQ12 : (fun i : Nat => GW ((mX3_mostByRows 2)) (pr (some (gi (mbR (A 11) n 3 A))) L A) 0 0 12 [(0, gr (1)), (1, gr (11)), (2, gi ((n : Int))), (3, gi (3)), (4, gi (plR (fun i => A 14 (A 11 i).toNat + mbR (A 11) n 2 (gup A 12 (A 11 i).toNat 1)) (fun i => safeB A (A 11 i)) i)), (5, gi ((i : Int)))] [] L (A)) 0 := by
    refine lp_up (Q := (fun i : Nat => GW ((mX3_mostByRows 2)) (pr (some (gi (mbR (A 11) n 3 A))) L A) 0 0 12 [(0, gr (1)), (1, gr (11)), (2, gi ((n : Int))), (3, gi (3)), (4, gi (plR (fun i => A 14 (A 11 i).toNat + mbR (A 11) n 2 (gup A 12 (A 11 i).toNat 1)) (fun i => safeB A (A 11 i)) i)), (5, gi ((i : Int)))] [] L (A))) (n := n) ?_ (fun i hi12 ih12 => ?_)
    · skip
      refine g_iload 5 dX3_mostByRows_12 rfl ?_
      refine g_iload_n 2 dX3_mostByRows_14 rfl rfl ?_
      refine g_icmp_ge (tgt := 91) (by omega) (by omega) dX3_mostByRows_15 (by decide) (fun h15_2 => ?_) (fun h15_2 => absurd h15_2 (by omega))
      refine g_iload 4 dX3_mostByRows_91 rfl ?_
      exact g_iret dX3_mostByRows_93 rfl (Nat.le_of_ble_eq_true rfl) (Nat.le_of_ble_eq_true rfl) (pr_i (rfl) (rfl))
    · skip
      have hpr := plR_rg (f := (fun i => A 14 (A 11 i).toNat + mbR (A 11) n 2 (gup A 12 (A 11 i).toNat 1))) (ok := (fun i => safeB A (A 11 i))) (M := 9999) (by omega) (fun c => by have := hg.2.2.1 (A 11 c).toNat; have := mbR_rg (lst := A 11) (n := n) (d := 2) (A := gup A 12 (A 11 c).toNat 1) (by rw [gup_ne (by decide)]; exact hg.2.2.1); show _ + _ ≤ _; omega) i
      refine g_iload 5 dX3_mostByRows_12 rfl ?_
      refine g_iload_n 2 dX3_mostByRows_14 rfl rfl ?_
      refine g_icmp_ge (tgt := 91) (by omega) (by omega) dX3_mostByRows_15 (by decide) (fun h15_3 => absurd h15_3 (by omega)) (fun h15_3 => ?_)
      refine g_iload 5 dX3_mostByRows_18 rfl ?_
      refine g_aload_n 1 dX3_mostByRows_20 rfl rfl ?_
      refine g_alen rfl (by decide) dX3_mostByRows_21 (n2 (hL 11 rfl)) ?_
      refine g_icmp_ge (tgt := 91) (by omega) (by omega) dX3_mostByRows_22 (by decide) (fun h22_4 => absurd h22_4 (by omega)) (fun h22_4 => ?_)
      refine g_aload_n 1 dX3_mostByRows_25 rfl rfl ?_
      refine g_iload 5 dX3_mostByRows_26 rfl ?_
      refine g_iald (i) (by omega) (by omega) rfl (by decide) dX3_mostByRows_28 (n2 (hL 11 rfl)) (fun h28_5 => ?_)
      refine g_st2 (ls2 := [(6, _), (0, _), (1, _), (2, _), (3, _), (4, _), (5, _)]) dX3_mostByRows_29 (by decide) (c1_cr (c1_cr (c1_ci (c1_ci (c1_ci (c1_ci c1_0)))))) rfl ?_
      have hci := hl i hi12
      refine g_aload_n 1 dX3_mostByRows_31 rfl rfl ?_
      refine g_iload 0 dX3_mostByRows_32 rfl ?_
      refine g_cV_i (My := mX1_canBeDugSafely) (gs := [_]) (c_X1_canBeDugSafely hL (x := A 11 i) hci) mfX1_canBeDugSafely cf_2 wi_X1_canBeDugSafely wsl_X1_canBeDugSafely wm_X3_385 dX3_mostByRows_34 (Nat.le_of_ble_eq_true rfl) rfl (by decide) (n2 (hL 1 rfl)) rfl (fun _ => Nat.le_of_ble_eq_true rfl) (Nat.le_of_ble_eq_true rfl) (Nat.le_of_ble_eq_true rfl) rfl rfl ?_
      refine g_ifb_eq (tgt := 85) dX3_mostByRows_37 (by decide) (fun h37_6 => ?_) (fun h37_6 => ?_)
      · skip
        refine g_inc (ls2 := [(5, _), (6, _), (0, _), (1, _), (2, _), (3, _), (4, _)]) 6 dX3_mostByRows_85 rfl (by decide) (c1_ci (c1_cr (c1_cr (c1_ci (c1_ci (c1_ci (c1_ci c1_0))))))) rfl ?_
        refine g_goto (tgt := 12) dX3_mostByRows_88 (by decide) ?_
        refine g_sub [2, 3, 4, 5, 6, 0] (ls2 := [(0, _), (1, _), (2, _), (3, _), (4, _), (5, _)]) rfl ?_
        first | exact g_ls (by rfl) rfl rfl ih12 | exact g_ls (by simp only [plR]; rw [show safeB A (A 11 i) = false by assumption]; (try simp)) rfl rfl ih12
      · skip
        refine g_aload_n 1 dX3_mostByRows_40 rfl rfl ?_
        refine g_iload 0 dX3_mostByRows_41 rfl ?_
        refine g_cV_i (My := mX1_openForNow) (gs := [_]) (c_X1_openForNow hL (x := A 11 i) hci) mfX1_openForNow cf_2 wi_X1_openForNow wsl_X1_openForNow wm_X3_388 dX3_mostByRows_43 (Nat.le_of_ble_eq_true rfl) rfl (by decide) (n2 (hL 1 rfl)) rfl (fun _ => Nat.le_of_ble_eq_true rfl) (Nat.le_of_ble_eq_true rfl) (Nat.le_of_ble_eq_true rfl) rfl rfl ?_
        refine g_st2 (ls2 := [(7, _), (6, _), (0, _), (1, _), (2, _), (3, _), (4, _), (5, _)]) dX3_mostByRows_46 (by decide) (c1_ci (c1_cr (c1_cr (c1_ci (c1_ci (c1_ci (c1_ci c1_0))))))) rfl ?_
        refine g_aload_n 2 dX3_mostByRows_48 rfl rfl ?_
        refine g_getfr2 (r := 14) cf_2 2 rfl (by decide) (by decide) rfl (by decide) wf_X3_74 dX3_mostByRows_49 (hL 1 rfl) rfl ?_
        refine g_iload 1 dX3_mostByRows_52 rfl ?_
        refine g_iald ((A 11 i).toNat) (by omega) (by omega) rfl (by decide) dX3_mostByRows_54 (n2 (hL 14 rfl)) (fun h54_7 => ?_)
        refine g_top (y := A 14 (A 11 i).toNat) (by rw [gup_ne (by decide)]) ?_
        refine g_aload_n 2 dX3_mostByRows_55 rfl rfl ?_
        refine g_aload_n 3 dX3_mostByRows_56 rfl rfl ?_
        refine g_iload_n 4 dX3_mostByRows_57 rfl rfl ?_
        refine g_iload_n 5 dX3_mostByRows_58 rfl rfl ?_
        refine g_iconst dX3_mostByRows_59 ?_
        refine g_isub dX3_mostByRows_60 ?_
        refine g_top (y := 2) (by omega) ?_
        refine g_cS_i (My := (mX3_mostByRows 1)) (gs := [_, _, _, _]) (c_mbr_2 (A := gup A 12 (A 11 i).toNat 1) hL (GVd_open hg) hn (fun j hj => by rw [gup_ne (by decide)]; exact hl j hj)) (mfX3_mostByRows 1) rfl wst_X3_mostByRows wm_X3_332 dX3_mostByRows_61 (Nat.le_of_ble_eq_true rfl) rfl (fun _ => Nat.le_of_ble_eq_true rfl) (Nat.le_of_ble_eq_true rfl) (Nat.le_of_ble_eq_true rfl) rfl rfl ?_
        rw [gup_ne (show 11 ≠ 12 by decide)]
        have hmr := mbR_rg (lst := A 11) (n := n) (d := 2) (A := gup A 12 (A 11 i).toNat 1) (by rw [gup_ne (by decide)]; exact hg.2.2.1); have h14 := hg.2.2.1 (A 11 i).toNat; have h12 := hg.1 (A 11 i).toNat
        refine g_iadd dX3_mostByRows_64 ?_
        refine g_st2 (ls2 := [(8, _), (7, _), (6, _), (0, _), (1, _), (2, _), (3, _), (4, _), (5, _)]) dX3_mostByRows_65 (by decide) (c1_ci (c1_ci (c1_cr (c1_cr (c1_ci (c1_ci (c1_ci (c1_ci c1_0)))))))) rfl ?_
        refine g_aload_n 3 dX3_mostByRows_67 rfl rfl ?_
        refine g_getfr2 (r := 12) cf_2 0 rfl (by decide) (by decide) rfl (by decide) wf_X3_59 dX3_mostByRows_68 (hL 1 rfl) rfl ?_
        refine g_iload 2 dX3_mostByRows_71 rfl ?_
        refine g_iload 1 dX3_mostByRows_73 rfl ?_
        refine g_iast ((A 11 i).toNat) (by omega) (by omega) (by omega) rfl (by decide) dX3_mostByRows_75 (n2 (hL 12 rfl)) ?_
        refine g_ls (A2 := A) rfl rfl (gup_back _ _ _ _) ?_
        refine g_iload 7 dX3_mostByRows_76 rfl ?_
        refine g_iload 0 dX3_mostByRows_78 rfl ?_
        refine g_max (by omega) (by omega) wm_X3_369 wst_J9_max_7cf53 wn_J9 wo_J9_max_7cf53 (Nat.le_of_ble_eq_true rfl) (Nat.le_of_ble_eq_true rfl) (by decide) dX3_mostByRows_80 ?_
        refine g_top (y := plR (fun i => A 14 (A 11 i).toNat + mbR (A 11) n 2 (gup A 12 (A 11 i).toNat 1)) (fun i => safeB A (A 11 i)) (i + 1)) (by simp only [plR]; rw [show safeB A (A 11 i) = true by assumption]; simp only [true_and]) ?_
        refine g_st2 (ls2 := [(4, _), (8, _), (7, _), (6, _), (0, _), (1, _), (2, _), (3, _), (5, _)]) dX3_mostByRows_83 (by decide) (c1_ci (c1_ci (c1_ci (c1_cr (c1_cr (c1_ci (c1_ci (c1_ci (c1_ci c1_0))))))))) rfl ?_
        refine g_inc (ls2 := [(5, _), (4, _), (8, _), (7, _), (6, _), (0, _), (1, _), (2, _), (3, _)]) 8 dX3_mostByRows_85 rfl (by decide) (c1_ci (c1_ci (c1_ci (c1_ci (c1_cr (c1_cr (c1_ci (c1_ci (c1_ci c1_0))))))))) rfl ?_
        refine g_goto (tgt := 12) dX3_mostByRows_88 (by decide) ?_
        refine g_sub [5, 6, 7, 8, 1, 0] (ls2 := [(0, _), (1, _), (2, _), (3, _), (4, _), (5, _)]) rfl ?_
        first | exact g_ls (by rfl) rfl rfl ih12 | exact g_ls (by simp only [plR]; rw [show safeB A (A 11 i) = false by assumption]; (try simp)) rfl rfl ih12
  exact g_ls (by rfl) rfl rfl hQ12

theorem c_mbt {L : Nat → Nat} {A : Mem} (hL : LC L) (hg : GVd A) {n : Nat} (hn : n ≤ 16) (hl : ∀ i, i < n → 0 ≤ A 11 i ∧ A 11 i < 100) {w : Int} (hw : 0 ≤ w ∧ w ≤ 3) : Ct (mX3_mostByRows 2) [gr 1, gr 11, gi n, gi w] L A (pr (some (gi (mbR (A 11) n w.toNat A))) L A) := by
  rcases (show w = 0 ∨ w = 1 ∨ w = 2 ∨ w = 3 by omega) with rfl | rfl | rfl | rfl
  · exact c_mbt_0 hL hg hn hl
  · exact c_mbt_1 hL hg hn hl
  · exact c_mbt_2 hL hg hn hl
  · exact c_mbr_3 hL hg hn hl
theorem ldM_v (A : Mem) (f : Nat → Bool) (n : Nat) (i : Nat) (hi : i < ldN f n) : 0 ≤ ldM A f n 11 i ∧ ldM A f n 11 i < n := by
  induction n with
  | zero => exact absurd hi (by simp [ldN])
  | succ n ih =>
    simp only [ldN] at hi
    simp only [ldM]
    by_cases h : ldN f n < 16 ∧ f n = true
    · rw [if_pos h] at hi ⊢
      rw [gup_ap]
      by_cases e : i = ldN f n
      · rw [if_pos ⟨rfl, e⟩]; omega
      · rw [if_neg (fun q => e q.2)]
        have := ih (by omega)
        omega
    · rw [if_neg h] at hi ⊢
      have := ih hi
      omega

set_option maxHeartbeats 1000000 in
set_option maxRecDepth 20000 in
theorem c_X3_planAnew {L : Nat → Nat} {A : Mem} (hV : VC L A) {x w : Int} (hx : -2147483648 ≤ x ∧ x < 2147483648) (hw : -2147483648 ≤ w ∧ w < 2147483648) : Ct mX3_planAnew [gr 0, gi x, gi w] L A (exP [xIOE, xIAE] (plnE A x w) (some (gi (mbR (ldM A (ldF A x.toNat) 100 11) (ldN (ldF A x.toNat) 100) w.toNat (ldM A (ldF A x.toNat) 100)))) L (ldM A (ldF A x.toNat) 100) L A) := by
  have hL := vc_L hV
  have hnc := vc_nc hV; have hns := vc_ns hV; have hp0 := (vc_p hV).1
  refine Ct_of (ls := [(0, _), (1, _), (2, _)]) rfl (by decide) (fun _ => rfl) (fun _ => Nat.le_of_ble_eq_true rfl) ?_
  refine g_aload_n 0 dX3_planAnew_0 rfl rfl ?_
  refine g_iload_n 1 dX3_planAnew_1 rfl rfl ?_
  by_cases hs2 : 0 ≤ x ∧ x < A 2 2
  · skip
    obtain ⟨k, rfl⟩ : ∃ k : Nat, x = k := ⟨x.toNat, by omega⟩
    have hk : (k : Int) < A 2 2 := by omega
    refine g_cV_i (My := mX3_claimAt) (gs := [_]) (c_X3_claimAt hV hk) mfX3_claimAt cf_4 wi_X3_claimAt wsl_X3_claimAt wm_X3_112 dX3_planAnew_2 (Nat.le_of_ble_eq_true rfl) rfl (by decide) (n2 (hL 0 rfl)) rfl (fun _ => Nat.le_of_ble_eq_true rfl) (Nat.le_of_ble_eq_true rfl) (Nat.le_of_ble_eq_true rfl) rfl rfl ?_
    refine g_pop dX3_planAnew_5 (c1_r _) ?_
    refine g_iload_n 2 dX3_planAnew_6 rfl rfl ?_
    refine g_iconst dX3_planAnew_7 ?_
    refine g_iconst dX3_planAnew_8 ?_
    by_cases hs9 : 0 ≤ w ∧ w ≤ 3
    · skip
      refine g_cS_v (My := mX3_needRange) (gs := [_, _, _]) (c_X3_needRange (x := w) (y := 0) (z := 3) (by omega) (by omega) (by omega) hs9) mfX3_needRange rfl wst_X3_needRange wm_X3_55 dX3_planAnew_9 (Nat.le_of_ble_eq_true rfl) rfl (fun _ => Nat.le_of_ble_eq_true rfl) (Nat.le_of_ble_eq_true rfl) (Nat.le_of_ble_eq_true rfl) rfl rfl ?_
      refine g_aload_n 0 dX3_planAnew_12 rfl rfl ?_
      refine g_iload_n 1 dX3_planAnew_13 rfl rfl ?_
      refine g_cV_i (My := mX3_listDiggable) (gs := [_]) (c_X3_listDiggable hV hk) mfX3_listDiggable cf_4 wi_X3_listDiggable wsl_X3_listDiggable wm_X3_325 dX3_planAnew_14 (Nat.le_of_ble_eq_true rfl) rfl (by decide) (n2 (hL 0 rfl)) rfl (fun _ => Nat.le_of_ble_eq_true rfl) (Nat.le_of_ble_eq_true rfl) (Nat.le_of_ble_eq_true rfl) rfl rfl ?_
      refine g_st (ls2 := [(3, _), (0, _), (1, _), (2, _)]) dX3_planAnew_17 rfl (by decide) (c1_cr (c1_ci (c1_ci c1_0))) rfl ?_
      refine g_aload_n 1 dX3_planAnew_18 rfl rfl ?_
      refine g_getfr2 (r := 1) cf_4 0 rfl (by decide) (by decide) rfl (by decide) wf_X3_12 dX3_planAnew_19 (hL 0 rfl) rfl ?_
      refine g_aload_n 1 dX3_planAnew_22 rfl rfl ?_
      refine g_getfr2 (r := 11) cf_4 8 rfl (by decide) (by decide) rfl (by decide) wf_X3_48 dX3_planAnew_23 (hL 0 rfl) rfl ?_
      refine g_iload_n 0 dX3_planAnew_26 rfl rfl ?_
      refine g_iload_n 3 dX3_planAnew_27 rfl rfl ?_
      refine g_cS_i (My := (mX3_mostByRows 2)) (gs := [_, _, _, _]) (c_mbt (A := ldM A (ldF A k) 100) hL (GVd_cg (fun n _ _ => ldM_ne _ _ _ (by omega)) (vc_g hV)) (n := ldN (ldF A k) 100) (ldN_le _ _) (fun i hi => by have := ldM_v A (ldF A k) 100 i hi; omega) hs9) (mfX3_mostByRows 2) rfl wst_X3_mostByRows wm_X3_332 dX3_planAnew_28 (Nat.le_of_ble_eq_true rfl) rfl (fun _ => Nat.le_of_ble_eq_true rfl) (Nat.le_of_ble_eq_true rfl) (Nat.le_of_ble_eq_true rfl) rfl rfl ?_
      exact g_iret dX3_planAnew_31 rfl (Nat.le_of_ble_eq_true rfl) (Nat.le_of_ble_eq_true rfl) (ex_ok (by unfold plnE; grind) (congrArg (fun z => some (gi z)) (rfl)) rfl (rfl))
    · skip
      exact g_cS_t (My := mX3_needRange_x) (gs := [_, _, _]) (c_X3_needRange_x (x := w) (y := 0) (z := 3) (by omega) (by omega) (by omega) hs9) mfX3_needRange_x rfl wst_X3_needRange wm_X3_55 dX3_planAnew_9 (Nat.le_of_ble_eq_true rfl) rfl (fun _ => Nat.le_of_ble_eq_true rfl) (Nat.le_of_ble_eq_true rfl) (Nat.le_of_ble_eq_true rfl) rfl rfl rfl (ex_th 1 (by unfold plnE; grind) rfl)
  · skip
    exact g_cV_t (My := mX3_claimAt_x) (gs := [_]) (c_X3_claimAt_x hV hx hs2) mfX3_claimAt_x cf_4 wi_X3_claimAt wsl_X3_claimAt wm_X3_112 dX3_planAnew_2 (Nat.le_of_ble_eq_true rfl) rfl (by decide) (n2 (hL 0 rfl)) rfl (fun _ => Nat.le_of_ble_eq_true rfl) (Nat.le_of_ble_eq_true rfl) (Nat.le_of_ble_eq_true rfl) rfl rfl rfl (ex_th 0 (by unfold plnE; grind) rfl)

