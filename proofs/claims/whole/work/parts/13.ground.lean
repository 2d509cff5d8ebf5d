def cellB (x : Int) : Bool := decide (0 ≤ x ∧ x < 100)
def opB (A : Mem) (x : Int) : Bool := decide (0 ≤ x ∧ x < 100 ∧ A 12 x.toNat = 1)
def loB (A : Mem) (x : Int) : Bool := decide (0 ≤ x ∧ x < 100 ∧ A 12 x.toNat = 1 ∧ A 16 x.toNat = 0)
def digB (A : Mem) (x : Int) : Bool := decide (opB A x = false ∧ (opB A (x - 10) = true ∨ opB A (x + 10) = true ∨ (0 < x % 10 ∧ opB A (x - 1) = true) ∨ (x % 10 < 9 ∧ opB A (x + 1) = true)))
/-- how many of f 0, f 1, .. hold in a row, at most n -/
def rlen (f : Nat → Bool) : Nat → Nat
  | 0 => 0
  | n + 1 => if f 0 = true then rlen (fun i => f (i + 1)) n + 1 else 0
theorem rlen_le (f : Nat → Bool) (n : Nat) : rlen f n ≤ n := by
  induction n generalizing f with
  | zero => exact Nat.le_refl _
  | succ n ih => unfold rlen; split <;> have := ih (fun i => f (i + 1)) <;> omega
theorem rlen_eq {f : Nat → Bool} {n j : Nat} (hj : j ≤ n) (h : ∀ i, i < j → f i = true) (he : j = n ∨ f j = false) : rlen f n = j := by
  induction n generalizing f j with
  | zero => unfold rlen; omega
  | succ n ih =>
    unfold rlen
    cases j with
    | zero =>
      have h0 : ¬ f 0 = true := by
        rcases he with he | he
        · omega
        · rw [he]; decide
      rw [if_neg h0]
    | succ j =>
      have he' : j = n ∨ f (j + 1) = false := by
        rcases he with he | he
        · left; omega
        · right; exact he
      rw [if_pos (h 0 (by omega)), ih (f := fun i => f (i + 1)) (j := j) (by omega) (fun i hi => h (i + 1) (by omega)) he']

set_option maxRecDepth 20000 in
theorem c_X3_isCell {L : Nat → Nat} {A : Mem} {x : Int} (hx : -2147483648 ≤ x ∧ x < 2147483648) : Ct mX3_isCell [gi x] L A (pr (some (gi (b2 (cellB x)))) L A) := by
  refine Ct_of (ls := [(0, _)]) rfl (by decide) (fun _ => rfl) (fun _ => Nat.le_of_ble_eq_true rfl) ?_
  refine g_iload_n 0 dX3_isCell_0 rfl rfl ?_
  refine g_if_lt (tgt := 14) (by omega) dX3_isCell_1 (by decide) (fun h1_1 => ?_) (fun h1_1 => ?_)
  · skip
    refine g_iconst dX3_isCell_14 ?_
    exact g_zret dX3_isCell_15 rfl (Or.inl rfl) (Nat.le_of_ble_eq_true rfl) (Nat.le_of_ble_eq_true rfl) (pr_i (b2_0 (by simp only [cellB, decide_eq_true_eq, decide_eq_false_iff_not] at *; omega)) (rfl))
  · skip
    refine g_iload_n 0 dX3_isCell_4 rfl rfl ?_
    refine g_bipush dX3_isCell_5 (by decide) ?_
    refine g_icmp_ge (tgt := 14) (by omega) (by omega) dX3_isCell_7 (by decide) (fun h7_2 => ?_) (fun h7_2 => ?_)
    · skip
      refine g_iconst dX3_isCell_14 ?_
      exact g_zret dX3_isCell_15 rfl (Or.inl rfl) (Nat.le_of_ble_eq_true rfl) (Nat.le_of_ble_eq_true rfl) (pr_i (b2_0 (by simp only [cellB, decide_eq_true_eq, decide_eq_false_iff_not] at *; omega)) (rfl))
    · skip
      refine g_iconst dX3_isCell_10 ?_
      refine g_goto (tgt := 15) dX3_isCell_11 (by decide) ?_
      exact g_zret dX3_isCell_15 rfl (Or.inr rfl) (Nat.le_of_ble_eq_true rfl) (Nat.le_of_ble_eq_true rfl) (pr_i (b2_1 (by simp only [cellB, decide_eq_true_eq, decide_eq_false_iff_not] at *; omega)) (rfl))

set_option maxRecDepth 20000 in
theorem c_X3_oneIf {L : Nat → Nat} {A : Mem} (b : Bool) : Ct mX3_oneIf [gi (b2 b)] L A (pr (some (gi (b2 b))) L A) := by
  refine Ct_of (ls := [(0, _)]) rfl (by decide) (fun _ => rfl) (fun _ => Nat.le_of_ble_eq_true rfl) ?_
  refine g_iload_n 0 dX3_oneIf_0 rfl rfl ?_
  refine g_ifb_eq (tgt := 8) dX3_oneIf_1 (by decide) (fun h1_1 => ?_) (fun h1_1 => ?_)
  · skip
    refine g_iconst dX3_oneIf_8 ?_
    exact g_iret dX3_oneIf_9 rfl (Nat.le_of_ble_eq_true rfl) (Nat.le_of_ble_eq_true rfl) (pr_i (by simp_all [b2]) (rfl))
  · skip
    refine g_iconst dX3_oneIf_4 ?_
    refine g_goto (tgt := 9) dX3_oneIf_5 (by decide) ?_
    exact g_iret dX3_oneIf_9 rfl (Nat.le_of_ble_eq_true rfl) (Nat.le_of_ble_eq_true rfl) (pr_i (by simp_all [b2]) (rfl))

set_option maxRecDepth 20000 in
theorem c_X1_isOpen {L : Nat → Nat} {A : Mem} (hL : LC L) {x : Int} (hx : -2147483648 ≤ x ∧ x < 2147483648) : Ct mX1_isOpen [gr 1, gi x] L A (pr (some (gi (b2 (opB A x)))) L A) := by
  refine Ct_of (ls := [(0, _), (1, _)]) rfl (by decide) (fun _ => rfl) (fun _ => Nat.le_of_ble_eq_true rfl) ?_
  refine g_iload_n 1 dX1_isOpen_0 rfl rfl ?_
  refine g_cN_i (My := mX3_isCell) (gs := [_]) (c_X3_isCell hx) mfX3_isCell wst_X3_isCell (by decide : Cond.methodLinkNest RX1 37 yX3_isCell RX3 ∈ EVW) dX1_isOpen_1 (Nat.le_of_ble_eq_true rfl) rfl (fun _ => Nat.le_of_ble_eq_true rfl) (Nat.le_of_ble_eq_true rfl) (Nat.le_of_ble_eq_true rfl) rfl rfl ?_
  refine g_ifb_eq (tgt := 21) dX1_isOpen_4 (by decide) (fun h4_1 => ?_) (fun h4_1 => ?_)
  · skip
    refine g_iconst dX1_isOpen_21 ?_
    exact g_zret dX1_isOpen_22 rfl (Or.inl rfl) (Nat.le_of_ble_eq_true rfl) (Nat.le_of_ble_eq_true rfl) (pr_i (b2_0 (by simp only [opB, cellB, decide_eq_true_eq, decide_eq_false_iff_not] at *; omega)) (rfl))
  · skip
    simp only [cellB, decide_eq_true_eq] at *
    refine g_aload_n 0 dX1_isOpen_7 rfl rfl ?_
    refine g_getfr2 (r := 12) cf_2 0 rfl (by decide) (by decide) rfl (by decide) wf_X1_9 dX1_isOpen_8 (hL 1 rfl) rfl ?_
    refine g_iload_n 1 dX1_isOpen_11 rfl rfl ?_
    refine g_ia (by omega) (by omega) rfl (by decide) dX1_isOpen_12 (n2 (hL 12 rfl)) (fun h12_2 => ?_)
    refine g_iconst dX1_isOpen_13 ?_
    refine g_icmp_ne (tgt := 21) (by omega) (by omega) dX1_isOpen_14 (by decide) (fun h14_3 => ?_) (fun h14_3 => ?_)
    · skip
      refine g_iconst dX1_isOpen_21 ?_
      exact g_zret dX1_isOpen_22 rfl (Or.inl rfl) (Nat.le_of_ble_eq_true rfl) (Nat.le_of_ble_eq_true rfl) (pr_i (b2_0 (by simp only [opB, cellB, decide_eq_true_eq, decide_eq_false_iff_not] at *; omega)) (rfl))
    · skip
      refine g_iconst dX1_isOpen_17 ?_
      refine g_goto (tgt := 22) dX1_isOpen_18 (by decide) ?_
      exact g_zret dX1_isOpen_22 rfl (Or.inr rfl) (Nat.le_of_ble_eq_true rfl) (Nat.le_of_ble_eq_true rfl) (pr_i (b2_1 (by simp only [opB, cellB, decide_eq_true_eq, decide_eq_false_iff_not] at *; omega)) (rfl))

set_option maxRecDepth 20000 in
theorem c_X1_isLoose {L : Nat → Nat} {A : Mem} (hL : LC L) {x : Int} (hx : -2147483648 ≤ x ∧ x < 2147483648) : Ct mX1_isLoose [gr 1, gi x] L A (pr (some (gi (b2 (loB A x)))) L A) := by
  refine Ct_of (ls := [(0, _), (1, _)]) rfl (by decide) (fun _ => rfl) (fun _ => Nat.le_of_ble_eq_true rfl) ?_
  refine g_iload_n 1 dX1_isLoose_0 rfl rfl ?_
  refine g_if_lt (tgt := 33) (by omega) dX1_isLoose_1 (by decide) (fun h1_1 => ?_) (fun h1_1 => ?_)
  · skip
    refine g_iconst dX1_isLoose_33 ?_
    exact g_zret dX1_isLoose_34 rfl (Or.inl rfl) (Nat.le_of_ble_eq_true rfl) (Nat.le_of_ble_eq_true rfl) (pr_i (b2_0 (by simp only [loB, decide_eq_true_eq, decide_eq_false_iff_not] at *; omega)) (rfl))
  · skip
    refine g_iload_n 1 dX1_isLoose_4 rfl rfl ?_
    refine g_bipush dX1_isLoose_5 (by decide) ?_
    refine g_icmp_ge (tgt := 33) (by omega) (by omega) dX1_isLoose_7 (by decide) (fun h7_2 => ?_) (fun h7_2 => ?_)
    · skip
      refine g_iconst dX1_isLoose_33 ?_
      exact g_zret dX1_isLoose_34 rfl (Or.inl rfl) (Nat.le_of_ble_eq_true rfl) (Nat.le_of_ble_eq_true rfl) (pr_i (b2_0 (by simp only [loB, decide_eq_true_eq, decide_eq_false_iff_not] at *; omega)) (rfl))
    · skip
      refine g_aload_n 0 dX1_isLoose_10 rfl rfl ?_
      refine g_getfr2 (r := 12) cf_2 0 rfl (by decide) (by decide) rfl (by decide) wf_X1_9 dX1_isLoose_11 (hL 1 rfl) rfl ?_
      refine g_iload_n 1 dX1_isLoose_14 rfl rfl ?_
      refine g_ia (by omega) (by omega) rfl (by decide) dX1_isLoose_15 (n2 (hL 12 rfl)) (fun h15_3 => ?_)
      refine g_iconst dX1_isLoose_16 ?_
      refine g_icmp_ne (tgt := 33) (by omega) (by omega) dX1_isLoose_17 (by decide) (fun h17_4 => ?_) (fun h17_4 => ?_)
      · skip
        refine g_iconst dX1_isLoose_33 ?_
        exact g_zret dX1_isLoose_34 rfl (Or.inl rfl) (Nat.le_of_ble_eq_true rfl) (Nat.le_of_ble_eq_true rfl) (pr_i (b2_0 (by simp only [loB, decide_eq_true_eq, decide_eq_false_iff_not] at *; omega)) (rfl))
      · skip
        refine g_aload_n 0 dX1_isLoose_20 rfl rfl ?_
        refine g_getfr2 (r := 16) cf_2 4 rfl (by decide) (by decide) rfl (by decide) wf_X1_24 dX1_isLoose_21 (hL 1 rfl) rfl ?_
        refine g_iload_n 1 dX1_isLoose_24 rfl rfl ?_
        refine g_za (by omega) (by omega) rfl (by decide) dX1_isLoose_25 (n2 (hL 16 rfl)) (fun h25_5 => ?_)
        refine g_if_ne (tgt := 33) (by omega) dX1_isLoose_26 (by decide) (fun h26_6 => ?_) (fun h26_6 => ?_)
        · skip
          refine g_iconst dX1_isLoose_33 ?_
          exact g_zret dX1_isLoose_34 rfl (Or.inl rfl) (Nat.le_of_ble_eq_true rfl) (Nat.le_of_ble_eq_true rfl) (pr_i (b2_0 (by simp only [loB, decide_eq_true_eq, decide_eq_false_iff_not] at *; omega)) (rfl))
        · skip
          refine g_iconst dX1_isLoose_29 ?_
          refine g_goto (tgt := 34) dX1_isLoose_30 (by decide) ?_
          exact g_zret dX1_isLoose_34 rfl (Or.inr rfl) (Nat.le_of_ble_eq_true rfl) (Nat.le_of_ble_eq_true rfl) (pr_i (b2_1 (by simp only [loB, decide_eq_true_eq, decide_eq_false_iff_not] at *; omega)) (rfl))

set_option maxRecDepth 20000 in
theorem c_X1_canBeDug {L : Nat → Nat} {A : Mem} (hL : LC L) {x : Int} (hx : 0 ≤ x ∧ x < 100) : Ct mX1_canBeDug [gr 1, gi x] L A (pr (some (gi (b2 (digB A x)))) L A) := by
  refine Ct_of (ls := [(0, _), (1, _)]) rfl (by decide) (fun _ => rfl) (fun _ => Nat.le_of_ble_eq_true rfl) ?_
  refine g_aload_n 0 dX1_canBeDug_0 rfl rfl ?_
  refine g_iload_n 1 dX1_canBeDug_1 rfl rfl ?_
  refine g_cV_i (My := mX1_isOpen) (gs := [_]) (c_X1_isOpen hL (by omega) (x := x)) mfX1_isOpen cf_2 wi_X1_isOpen wsl_X1_isOpen wm_X1_41 dX1_canBeDug_2 (Nat.le_of_ble_eq_true rfl) rfl (by decide) (n2 (hL 1 rfl)) rfl (fun _ => Nat.le_of_ble_eq_true rfl) (Nat.le_of_ble_eq_true rfl) (Nat.le_of_ble_eq_true rfl) rfl rfl ?_
  refine g_ifb_eq (tgt := 10) dX1_canBeDug_5 (by decide) (fun h5_1 => ?_) (fun h5_1 => ?_)
  · skip
    refine g_iload_n 1 dX1_canBeDug_10 rfl rfl ?_
    refine g_bipush dX1_canBeDug_11 (by decide) ?_
    refine g_irem (by omega) (by omega) dX1_canBeDug_13 ?_
    refine g_st (ls2 := [(2, _), (0, _), (1, _)]) dX1_canBeDug_14 rfl (by decide) (c1_cr (c1_ci c1_0)) rfl ?_
    refine g_aload_n 1 dX1_canBeDug_15 rfl rfl ?_
    refine g_iload_n 2 dX1_canBeDug_16 rfl rfl ?_
    refine g_bipush dX1_canBeDug_17 (by decide) ?_
    refine g_isub dX1_canBeDug_19 ?_
    refine g_cV_i (My := mX1_isOpen) (gs := [_]) (c_X1_isOpen hL (by omega) (x := x - 10)) mfX1_isOpen cf_2 wi_X1_isOpen wsl_X1_isOpen wm_X1_41 dX1_canBeDug_20 (Nat.le_of_ble_eq_true rfl) rfl (by decide) (n2 (hL 1 rfl)) rfl (fun _ => Nat.le_of_ble_eq_true rfl) (Nat.le_of_ble_eq_true rfl) (Nat.le_of_ble_eq_true rfl) rfl rfl ?_
    refine g_ifb_ne (tgt := 67) dX1_canBeDug_23 (by decide) (fun h23_2 => ?_) (fun h23_2 => ?_)
    · skip
      refine g_iconst dX1_canBeDug_67 ?_
      refine g_goto (tgt := 72) dX1_canBeDug_68 (by decide) ?_
      exact g_zret dX1_canBeDug_72 rfl (Or.inr rfl) (Nat.le_of_ble_eq_true rfl) (Nat.le_of_ble_eq_true rfl) (pr_i (b2_1 (by grind [digB, b2])) (rfl))
    · skip
      refine g_aload_n 1 dX1_canBeDug_26 rfl rfl ?_
      refine g_iload_n 2 dX1_canBeDug_27 rfl rfl ?_
      refine g_bipush dX1_canBeDug_28 (by decide) ?_
      refine g_iadd dX1_canBeDug_30 ?_
      refine g_cV_i (My := mX1_isOpen) (gs := [_]) (c_X1_isOpen hL (by omega) (x := x + 10)) mfX1_isOpen cf_2 wi_X1_isOpen wsl_X1_isOpen wm_X1_41 dX1_canBeDug_31 (Nat.le_of_ble_eq_true rfl) rfl (by decide) (n2 (hL 1 rfl)) rfl (fun _ => Nat.le_of_ble_eq_true rfl) (Nat.le_of_ble_eq_true rfl) (Nat.le_of_ble_eq_true rfl) rfl rfl ?_
      refine g_ifb_ne (tgt := 67) dX1_canBeDug_34 (by decide) (fun h34_3 => ?_) (fun h34_3 => ?_)
      · skip
        refine g_iconst dX1_canBeDug_67 ?_
        refine g_goto (tgt := 72) dX1_canBeDug_68 (by decide) ?_
        exact g_zret dX1_canBeDug_72 rfl (Or.inr rfl) (Nat.le_of_ble_eq_true rfl) (Nat.le_of_ble_eq_true rfl) (pr_i (b2_1 (by grind [digB, b2])) (rfl))
      · skip
        refine g_iload_n 0 dX1_canBeDug_37 rfl rfl ?_
        refine g_if_le (tgt := 51) (by omega) dX1_canBeDug_38 (by decide) (fun h38_4 => ?_) (fun h38_4 => ?_)
        · skip
          refine g_iload_n 0 dX1_canBeDug_51 rfl rfl ?_
          refine g_bipush dX1_canBeDug_52 (by decide) ?_
          refine g_icmp_ge (tgt := 71) (by omega) (by omega) dX1_canBeDug_54 (by decide) (fun h54_5 => ?_) (fun h54_5 => ?_)
          · skip
            refine g_iconst dX1_canBeDug_71 ?_
            exact g_zret dX1_canBeDug_72 rfl (Or.inl rfl) (Nat.le_of_ble_eq_true rfl) (Nat.le_of_ble_eq_true rfl) (pr_i (b2_0 (by grind [digB, b2])) (rfl))
          · skip
            refine g_aload_n 1 dX1_canBeDug_57 rfl rfl ?_
            refine g_iload_n 2 dX1_canBeDug_58 rfl rfl ?_
            refine g_iconst dX1_canBeDug_59 ?_
            refine g_iadd dX1_canBeDug_60 ?_
            refine g_cV_i (My := mX1_isOpen) (gs := [_]) (c_X1_isOpen hL (by omega) (x := x + 1)) mfX1_isOpen cf_2 wi_X1_isOpen wsl_X1_isOpen wm_X1_41 dX1_canBeDug_61 (Nat.le_of_ble_eq_true rfl) rfl (by decide) (n2 (hL 1 rfl)) rfl (fun _ => Nat.le_of_ble_eq_true rfl) (Nat.le_of_ble_eq_true rfl) (Nat.le_of_ble_eq_true rfl) rfl rfl ?_
            refine g_ifb_eq (tgt := 71) dX1_canBeDug_64 (by decide) (fun h64_6 => ?_) (fun h64_6 => ?_)
            · skip
              refine g_iconst dX1_canBeDug_71 ?_
              exact g_zret dX1_canBeDug_72 rfl (Or.inl rfl) (Nat.le_of_ble_eq_true rfl) (Nat.le_of_ble_eq_true rfl) (pr_i (b2_0 (by grind [digB, b2])) (rfl))
            · skip
              refine g_iconst dX1_canBeDug_67 ?_
              refine g_goto (tgt := 72) dX1_canBeDug_68 (by decide) ?_
              exact g_zret dX1_canBeDug_72 rfl (Or.inr rfl) (Nat.le_of_ble_eq_true rfl) (Nat.le_of_ble_eq_true rfl) (pr_i (b2_1 (by grind [digB, b2])) (rfl))
        · skip
          refine g_aload_n 1 dX1_canBeDug_41 rfl rfl ?_
          refine g_iload_n 2 dX1_canBeDug_42 rfl rfl ?_
          refine g_iconst dX1_canBeDug_43 ?_
          refine g_isub dX1_canBeDug_44 ?_
          refine g_cV_i (My := mX1_isOpen) (gs := [_]) (c_X1_isOpen hL (by omega) (x := x - 1)) mfX1_isOpen cf_2 wi_X1_isOpen wsl_X1_isOpen wm_X1_41 dX1_canBeDug_45 (Nat.le_of_ble_eq_true rfl) rfl (by decide) (n2 (hL 1 rfl)) rfl (fun _ => Nat.le_of_ble_eq_true rfl) (Nat.le_of_ble_eq_true rfl) (Nat.le_of_ble_eq_true rfl) rfl rfl ?_
          refine g_ifb_ne (tgt := 67) dX1_canBeDug_48 (by decide) (fun h48_7 => ?_) (fun h48_7 => ?_)
          · skip
            refine g_iconst dX1_canBeDug_67 ?_
            refine g_goto (tgt := 72) dX1_canBeDug_68 (by decide) ?_
            exact g_zret dX1_canBeDug_72 rfl (Or.inr rfl) (Nat.le_of_ble_eq_true rfl) (Nat.le_of_ble_eq_true rfl) (pr_i (b2_1 (by grind [digB, b2])) (rfl))
          · skip
            refine g_iload_n 0 dX1_canBeDug_51 rfl rfl ?_
            refine g_bipush dX1_canBeDug_52 (by decide) ?_
            refine g_icmp_ge (tgt := 71) (by omega) (by omega) dX1_canBeDug_54 (by decide) (fun h54_8 => ?_) (fun h54_8 => ?_)
            · skip
              refine g_iconst dX1_canBeDug_71 ?_
              exact g_zret dX1_canBeDug_72 rfl (Or.inl rfl) (Nat.le_of_ble_eq_true rfl) (Nat.le_of_ble_eq_true rfl) (pr_i (b2_0 (by grind [digB, b2])) (rfl))
            · skip
              refine g_aload_n 1 dX1_canBeDug_57 rfl rfl ?_
              refine g_iload_n 2 dX1_canBeDug_58 rfl rfl ?_
              refine g_iconst dX1_canBeDug_59 ?_
              refine g_iadd dX1_canBeDug_60 ?_
              refine g_cV_i (My := mX1_isOpen) (gs := [_]) (c_X1_isOpen hL (by omega) (x := x + 1)) mfX1_isOpen cf_2 wi_X1_isOpen wsl_X1_isOpen wm_X1_41 dX1_canBeDug_61 (Nat.le_of_ble_eq_true rfl) rfl (by decide) (n2 (hL 1 rfl)) rfl (fun _ => Nat.le_of_ble_eq_true rfl) (Nat.le_of_ble_eq_true rfl) (Nat.le_of_ble_eq_true rfl) rfl rfl ?_
              refine g_ifb_eq (tgt := 71) dX1_canBeDug_64 (by decide) (fun h64_9 => ?_) (fun h64_9 => ?_)
              · skip
                refine g_iconst dX1_canBeDug_71 ?_
                exact g_zret dX1_canBeDug_72 rfl (Or.inl rfl) (Nat.le_of_ble_eq_true rfl) (Nat.le_of_ble_eq_true rfl) (pr_i (b2_0 (by grind [digB, b2])) (rfl))
              · skip
                refine g_iconst dX1_canBeDug_67 ?_
                refine g_goto (tgt := 72) dX1_canBeDug_68 (by decide) ?_
                exact g_zret dX1_canBeDug_72 rfl (Or.inr rfl) (Nat.le_of_ble_eq_true rfl) (Nat.le_of_ble_eq_true rfl) (pr_i (b2_1 (by grind [digB, b2])) (rfl))
  · skip
    refine g_iconst dX1_canBeDug_8 ?_
    exact g_zret dX1_canBeDug_9 rfl (Or.inl rfl) (Nat.le_of_ble_eq_true rfl) (Nat.le_of_ble_eq_true rfl) (pr_i (b2_0 (by grind [digB, b2])) (rfl))

set_option maxRecDepth 20000 in
theorem c_X1_openForNow {L : Nat → Nat} {A : Mem} (hL : LC L) {x : Int} (hx : 0 ≤ x ∧ x < 100) : Ct mX1_openForNow [gr 1, gi x] L A (pr (some (gi (A 12 x.toNat))) L (gup A 12 x.toNat 1)) := by
  refine Ct_of (ls := [(0, _), (1, _)]) rfl (by decide) (fun _ => rfl) (fun _ => Nat.le_of_ble_eq_true rfl) ?_
  refine g_aload_n 0 dX1_openForNow_0 rfl rfl ?_
  refine g_getfr2 (r := 12) cf_2 0 rfl (by decide) (by decide) rfl (by decide) wf_X1_9 dX1_openForNow_1 (hL 1 rfl) rfl ?_
  refine g_iload_n 1 dX1_openForNow_4 rfl rfl ?_
  refine g_ia (by omega) (by omega) rfl (by decide) dX1_openForNow_5 (n2 (hL 12 rfl)) (fun h5_1 => ?_)
  refine g_st (ls2 := [(2, _), (0, _), (1, _)]) dX1_openForNow_6 rfl (by decide) (c1_cr (c1_ci c1_0)) rfl ?_
  refine g_aload_n 1 dX1_openForNow_7 rfl rfl ?_
  refine g_getfr2 (r := 12) cf_2 0 rfl (by decide) (by decide) rfl (by decide) wf_X1_9 dX1_openForNow_8 (hL 1 rfl) rfl ?_
  refine g_iload_n 2 dX1_openForNow_11 rfl rfl ?_
  refine g_iconst dX1_openForNow_12 ?_
  refine g_is (by omega) (by omega) (by omega) rfl (by decide) dX1_openForNow_13 (n2 (hL 12 rfl)) ?_
  refine g_iload_n 0 dX1_openForNow_14 rfl rfl ?_
  exact g_iret dX1_openForNow_15 rfl (Nat.le_of_ble_eq_true rfl) (Nat.le_of_ble_eq_true rfl) (pr_i (rfl) (rfl))

def hcB (A : Mem) (x : Int) : Bool := decide (0 ≤ x ∧ x < 100 ∧ 0 < A 14 x.toNat)
def boreC (A : Mem) (x : Int) : Int := b2 (hcB A x) + b2 (hcB A (x - 10)) + b2 (hcB A (x + 10)) + b2 (decide (0 < x % 10 ∧ hcB A (x - 1) = true)) + b2 (decide (x % 10 < 9 ∧ hcB A (x + 1) = true))
def trapC (A : Mem) (k : Int) : Nat → Int
  | 0 => 0
  | i + 1 => trapC A k i + b2 (decide (A 17 i = k))
theorem trapC_rg (A : Mem) (k : Int) (n : Nat) : 0 ≤ trapC A k n ∧ trapC A k n ≤ n := by
  induction n with
  | zero => simp [trapC]
  | succ n ih => have := b2_rg (decide (A 17 n = k)); simp only [trapC]; omega
def lbC (A : Mem) (c s : Int) (n : Nat) : Nat := rlen (fun i => loB A (c + ((i : Int) + 1) * s)) n
def rowC (A : Mem) (c : Int) : Int := (lbC A c (-1) (c % 10).toNat : Int) + 1 + (lbC A c 1 (9 - c % 10).toNat : Int)
def colC (A : Mem) (c : Int) : Int := (lbC A c (-10) (c / 10).toNat : Int) + 1 + (lbC A c 10 (9 - c / 10).toNat : Int)
theorem lbC_le (A : Mem) (c s : Int) (n : Nat) : lbC A c s n ≤ n := rlen_le _ _
def safeB (A : Mem) (x : Int) : Bool := decide (digB A x = true ∧ rowC A x ≤ 3 ∧ colC A x ≤ 3)
/-- n cells from c on, s apart, are rubble then -/
def bury (A : Mem) (c s : Int) : Nat → Mem
  | 0 => A
  | n + 1 => gup (bury A c s n) 12 (c + n * s).toNat 2
section GT
theorem g_top {M : MD} {P : Pst} {kc ks pc : Nat} {ls : List (Nat × GV)} {st : List GV} {L : Nat → Nat} {A : Mem} {x y : Int} (h : x = y) (k : GW M P kc ks pc ls (gi y :: st) L A) : GW M P kc ks pc ls (gi x :: st) L A := h ▸ k
end GT

set_option maxRecDepth 20000 in
theorem c_X1_hasCarats {L : Nat → Nat} {A : Mem} (hL : LC L) {x : Int} (hx : -2147483648 ≤ x ∧ x < 2147483648) : Ct mX1_hasCarats [gr 1, gi x] L A (pr (some (gi (b2 (hcB A x)))) L A) := by
  refine Ct_of (ls := [(0, _), (1, _)]) rfl (by decide) (fun _ => rfl) (fun _ => Nat.le_of_ble_eq_true rfl) ?_
  refine g_iload_n 1 dX1_hasCarats_0 rfl rfl ?_
  refine g_cN_i (My := mX3_isCell) (gs := [_]) (c_X3_isCell hx) mfX3_isCell wst_X3_isCell (by decide : Cond.methodLinkNest RX1 37 yX3_isCell RX3 ∈ EVW) dX1_hasCarats_1 (Nat.le_of_ble_eq_true rfl) rfl (fun _ => Nat.le_of_ble_eq_true rfl) (Nat.le_of_ble_eq_true rfl) (Nat.le_of_ble_eq_true rfl) rfl rfl ?_
  refine g_ifb_eq (tgt := 20) dX1_hasCarats_4 (by decide) (fun h4_1 => ?_) (fun h4_1 => ?_)
  · skip
    refine g_iconst dX1_hasCarats_20 ?_
    exact g_zret dX1_hasCarats_21 rfl (Or.inl rfl) (Nat.le_of_ble_eq_true rfl) (Nat.le_of_ble_eq_true rfl) (pr_i (b2_0 (by grind [hcB, b2, cellB])) (rfl))
  · skip
    simp only [cellB, decide_eq_true_eq] at *
    refine g_aload_n 0 dX1_hasCarats_7 rfl rfl ?_
    refine g_getfr2 (r := 14) cf_2 2 rfl (by decide) (by decide) rfl (by decide) wf_X1_18 dX1_hasCarats_8 (hL 1 rfl) rfl ?_
    refine g_iload_n 1 dX1_hasCarats_11 rfl rfl ?_
    refine g_ia (by omega) (by omega) rfl (by decide) dX1_hasCarats_12 (n2 (hL 14 rfl)) (fun h12_2 => ?_)
    refine g_if_le (tgt := 20) (by omega) dX1_hasCarats_13 (by decide) (fun h13_3 => ?_) (fun h13_3 => ?_)
    · skip
      refine g_iconst dX1_hasCarats_20 ?_
      exact g_zret dX1_hasCarats_21 rfl (Or.inl rfl) (Nat.le_of_ble_eq_true rfl) (Nat.le_of_ble_eq_true rfl) (pr_i (b2_0 (by grind [hcB, b2, cellB])) (rfl))
    · skip
      refine g_iconst dX1_hasCarats_16 ?_
      refine g_goto (tgt := 21) dX1_hasCarats_17 (by decide) ?_
      exact g_zret dX1_hasCarats_21 rfl (Or.inr rfl) (Nat.le_of_ble_eq_true rfl) (Nat.le_of_ble_eq_true rfl) (pr_i (b2_1 (by grind [hcB, b2, cellB])) (rfl))

set_option maxRecDepth 20000 in
theorem c_X1_caratsAround {L : Nat → Nat} {A : Mem} (hL : LC L) {x : Int} (hx : 0 ≤ x ∧ x < 100) : Ct mX1_caratsAround [gr 1, gi x] L A (pr (some (gi (boreC A x))) L A) := by
  refine Ct_of (ls := [(0, _), (1, _)]) rfl (by decide) (fun _ => rfl) (fun _ => Nat.le_of_ble_eq_true rfl) ?_
  refine g_iload_n 1 dX1_caratsAround_0 rfl rfl ?_
  refine g_bipush dX1_caratsAround_1 (by decide) ?_
  refine g_irem (by omega) (by omega) dX1_caratsAround_3 ?_
  refine g_st (ls2 := [(2, _), (0, _), (1, _)]) dX1_caratsAround_4 rfl (by decide) (c1_cr (c1_ci c1_0)) rfl ?_
  refine g_aload_n 1 dX1_caratsAround_5 rfl rfl ?_
  refine g_iload_n 2 dX1_caratsAround_6 rfl rfl ?_
  refine g_cV_i (My := mX1_hasCarats) (gs := [_]) (c_X1_hasCarats hL (by omega) (x := x)) mfX1_hasCarats cf_2 wi_X1_hasCarats wsl_X1_hasCarats wm_X1_54 dX1_caratsAround_7 (Nat.le_of_ble_eq_true rfl) rfl (by decide) (n2 (hL 1 rfl)) rfl (fun _ => Nat.le_of_ble_eq_true rfl) (Nat.le_of_ble_eq_true rfl) (Nat.le_of_ble_eq_true rfl) rfl rfl ?_
  refine g_cN_i (My := mX3_oneIf) (gs := [_]) (c_X3_oneIf _) mfX3_oneIf wst_X3_oneIf (by decide : Cond.methodLinkNest RX1 57 yX3_oneIf RX3 ∈ EVW) dX1_caratsAround_10 (Nat.le_of_ble_eq_true rfl) rfl (fun _ => Nat.le_of_ble_eq_true rfl) (Nat.le_of_ble_eq_true rfl) (Nat.le_of_ble_eq_true rfl) rfl rfl ?_
  refine g_aload_n 1 dX1_caratsAround_13 rfl rfl ?_
  refine g_iload_n 2 dX1_caratsAround_14 rfl rfl ?_
  refine g_bipush dX1_caratsAround_15 (by decide) ?_
  refine g_isub dX1_caratsAround_17 ?_
  refine g_cV_i (My := mX1_hasCarats) (gs := [_]) (c_X1_hasCarats hL (by omega) (x := x - 10)) mfX1_hasCarats cf_2 wi_X1_hasCarats wsl_X1_hasCarats wm_X1_54 dX1_caratsAround_18 (Nat.le_of_ble_eq_true rfl) rfl (by decide) (n2 (hL 1 rfl)) rfl (fun _ => Nat.le_of_ble_eq_true rfl) (Nat.le_of_ble_eq_true rfl) (Nat.le_of_ble_eq_true rfl) rfl rfl ?_
  refine g_cN_i (My := mX3_oneIf) (gs := [_]) (c_X3_oneIf _) mfX3_oneIf wst_X3_oneIf (by decide : Cond.methodLinkNest RX1 57 yX3_oneIf RX3 ∈ EVW) dX1_caratsAround_21 (Nat.le_of_ble_eq_true rfl) rfl (fun _ => Nat.le_of_ble_eq_true rfl) (Nat.le_of_ble_eq_true rfl) (Nat.le_of_ble_eq_true rfl) rfl rfl ?_
  refine g_iadd dX1_caratsAround_24 ?_
  refine g_aload_n 1 dX1_caratsAround_25 rfl rfl ?_
  refine g_iload_n 2 dX1_caratsAround_26 rfl rfl ?_
  refine g_bipush dX1_caratsAround_27 (by decide) ?_
  refine g_iadd dX1_caratsAround_29 ?_
  refine g_cV_i (My := mX1_hasCarats) (gs := [_]) (c_X1_hasCarats hL (by omega) (x := x + 10)) mfX1_hasCarats cf_2 wi_X1_hasCarats wsl_X1_hasCarats wm_X1_54 dX1_caratsAround_30 (Nat.le_of_ble_eq_true rfl) rfl (by decide) (n2 (hL 1 rfl)) rfl (fun _ => Nat.le_of_ble_eq_true rfl) (Nat.le_of_ble_eq_true rfl) (Nat.le_of_ble_eq_true rfl) rfl rfl ?_
  refine g_cN_i (My := mX3_oneIf) (gs := [_]) (c_X3_oneIf _) mfX3_oneIf wst_X3_oneIf (by decide : Cond.methodLinkNest RX1 57 yX3_oneIf RX3 ∈ EVW) dX1_caratsAround_33 (Nat.le_of_ble_eq_true rfl) rfl (fun _ => Nat.le_of_ble_eq_true rfl) (Nat.le_of_ble_eq_true rfl) (Nat.le_of_ble_eq_true rfl) rfl rfl ?_
  refine g_iadd dX1_caratsAround_36 ?_
  refine g_iload_n 0 dX1_caratsAround_37 rfl rfl ?_
  refine g_if_le (tgt := 55) (by omega) dX1_caratsAround_38 (by decide) (fun h38_1 => ?_) (fun h38_1 => ?_)
  · skip
    refine g_iconst dX1_caratsAround_55 ?_
    refine g_top (y := b2 (decide (0 < x % 10 ∧ hcB A (x - 1) = true))) (by grind [b2]) ?_
    refine g_cN_i (My := mX3_oneIf) (gs := [_]) (c_X3_oneIf _) mfX3_oneIf wst_X3_oneIf (by decide : Cond.methodLinkNest RX1 57 yX3_oneIf RX3 ∈ EVW) dX1_caratsAround_56 (Nat.le_of_ble_eq_true rfl) rfl (fun _ => Nat.le_of_ble_eq_true rfl) (Nat.le_of_ble_eq_true rfl) (Nat.le_of_ble_eq_true rfl) rfl rfl ?_
    refine g_iadd dX1_caratsAround_59 ?_
    refine g_iload_n 0 dX1_caratsAround_60 rfl rfl ?_
    refine g_bipush dX1_caratsAround_61 (by decide) ?_
    refine g_icmp_ge (tgt := 80) (by omega) (by omega) dX1_caratsAround_63 (by decide) (fun h63_2 => ?_) (fun h63_2 => ?_)
    · skip
      refine g_iconst dX1_caratsAround_80 ?_
      refine g_top (y := b2 (decide (x % 10 < 9 ∧ hcB A (x + 1) = true))) (by grind [b2]) ?_
      refine g_cN_i (My := mX3_oneIf) (gs := [_]) (c_X3_oneIf _) mfX3_oneIf wst_X3_oneIf (by decide : Cond.methodLinkNest RX1 57 yX3_oneIf RX3 ∈ EVW) dX1_caratsAround_81 (Nat.le_of_ble_eq_true rfl) rfl (fun _ => Nat.le_of_ble_eq_true rfl) (Nat.le_of_ble_eq_true rfl) (Nat.le_of_ble_eq_true rfl) rfl rfl ?_
      refine g_iadd dX1_caratsAround_84 ?_
      exact g_iret dX1_caratsAround_85 rfl (Nat.le_of_ble_eq_true rfl) (Nat.le_of_ble_eq_true rfl) (pr_i (rfl) (rfl))
    · skip
      refine g_aload_n 1 dX1_caratsAround_66 rfl rfl ?_
      refine g_iload_n 2 dX1_caratsAround_67 rfl rfl ?_
      refine g_iconst dX1_caratsAround_68 ?_
      refine g_iadd dX1_caratsAround_69 ?_
      refine g_cV_i (My := mX1_hasCarats) (gs := [_]) (c_X1_hasCarats hL (by omega) (x := x + 1)) mfX1_hasCarats cf_2 wi_X1_hasCarats wsl_X1_hasCarats wm_X1_54 dX1_caratsAround_70 (Nat.le_of_ble_eq_true rfl) rfl (by decide) (n2 (hL 1 rfl)) rfl (fun _ => Nat.le_of_ble_eq_true rfl) (Nat.le_of_ble_eq_true rfl) (Nat.le_of_ble_eq_true rfl) rfl rfl ?_
      refine g_ifb_eq (tgt := 80) dX1_caratsAround_73 (by decide) (fun h73_3 => ?_) (fun h73_3 => ?_)
      · skip
        refine g_iconst dX1_caratsAround_80 ?_
        refine g_top (y := b2 (decide (x % 10 < 9 ∧ hcB A (x + 1) = true))) (by grind [b2]) ?_
        refine g_cN_i (My := mX3_oneIf) (gs := [_]) (c_X3_oneIf _) mfX3_oneIf wst_X3_oneIf (by decide : Cond.methodLinkNest RX1 57 yX3_oneIf RX3 ∈ EVW) dX1_caratsAround_81 (Nat.le_of_ble_eq_true rfl) rfl (fun _ => Nat.le_of_ble_eq_true rfl) (Nat.le_of_ble_eq_true rfl) (Nat.le_of_ble_eq_true rfl) rfl rfl ?_
        refine g_iadd dX1_caratsAround_84 ?_
        exact g_iret dX1_caratsAround_85 rfl (Nat.le_of_ble_eq_true rfl) (Nat.le_of_ble_eq_true rfl) (pr_i (rfl) (rfl))
      · skip
        refine g_iconst dX1_caratsAround_76 ?_
        refine g_goto (tgt := 81) dX1_caratsAround_77 (by decide) ?_
        refine g_top (y := b2 (decide (x % 10 < 9 ∧ hcB A (x + 1) = true))) (by grind [b2]) ?_
        refine g_cN_i (My := mX3_oneIf) (gs := [_]) (c_X3_oneIf _) mfX3_oneIf wst_X3_oneIf (by decide : Cond.methodLinkNest RX1 57 yX3_oneIf RX3 ∈ EVW) dX1_caratsAround_81 (Nat.le_of_ble_eq_true rfl) rfl (fun _ => Nat.le_of_ble_eq_true rfl) (Nat.le_of_ble_eq_true rfl) (Nat.le_of_ble_eq_true rfl) rfl rfl ?_
        refine g_iadd dX1_caratsAround_84 ?_
        exact g_iret dX1_caratsAround_85 rfl (Nat.le_of_ble_eq_true rfl) (Nat.le_of_ble_eq_true rfl) (pr_i (rfl) (rfl))
  · skip
    refine g_aload_n 1 dX1_caratsAround_41 rfl rfl ?_
    refine g_iload_n 2 dX1_caratsAround_42 rfl rfl ?_
    refine g_iconst dX1_caratsAround_43 ?_
    refine g_isub dX1_caratsAround_44 ?_
    refine g_cV_i (My := mX1_hasCarats) (gs := [_]) (c_X1_hasCarats hL (by omega) (x := x - 1)) mfX1_hasCarats cf_2 wi_X1_hasCarats wsl_X1_hasCarats wm_X1_54 dX1_caratsAround_45 (Nat.le_of_ble_eq_true rfl) rfl (by decide) (n2 (hL 1 rfl)) rfl (fun _ => Nat.le_of_ble_eq_true rfl) (Nat.le_of_ble_eq_true rfl) (Nat.le_of_ble_eq_true rfl) rfl rfl ?_
    refine g_ifb_eq (tgt := 55) dX1_caratsAround_48 (by decide) (fun h48_4 => ?_) (fun h48_4 => ?_)
    · skip
      refine g_iconst dX1_caratsAround_55 ?_
      refine g_top (y := b2 (decide (0 < x % 10 ∧ hcB A (x - 1) = true))) (by grind [b2]) ?_
      refine g_cN_i (My := mX3_oneIf) (gs := [_]) (c_X3_oneIf _) mfX3_oneIf wst_X3_oneIf (by decide : Cond.methodLinkNest RX1 57 yX3_oneIf RX3 ∈ EVW) dX1_caratsAround_56 (Nat.le_of_ble_eq_true rfl) rfl (fun _ => Nat.le_of_ble_eq_true rfl) (Nat.le_of_ble_eq_true rfl) (Nat.le_of_ble_eq_true rfl) rfl rfl ?_
      refine g_iadd dX1_caratsAround_59 ?_
      refine g_iload_n 0 dX1_caratsAround_60 rfl rfl ?_
      refine g_bipush dX1_caratsAround_61 (by decide) ?_
      refine g_icmp_ge (tgt := 80) (by omega) (by omega) dX1_caratsAround_63 (by decide) (fun h63_5 => ?_) (fun h63_5 => ?_)
      · skip
        refine g_iconst dX1_caratsAround_80 ?_
        refine g_top (y := b2 (decide (x % 10 < 9 ∧ hcB A (x + 1) = true))) (by grind [b2]) ?_
        refine g_cN_i (My := mX3_oneIf) (gs := [_]) (c_X3_oneIf _) mfX3_oneIf wst_X3_oneIf (by decide : Cond.methodLinkNest RX1 57 yX3_oneIf RX3 ∈ EVW) dX1_caratsAround_81 (Nat.le_of_ble_eq_true rfl) rfl (fun _ => Nat.le_of_ble_eq_true rfl) (Nat.le_of_ble_eq_true rfl) (Nat.le_of_ble_eq_true rfl) rfl rfl ?_
        refine g_iadd dX1_caratsAround_84 ?_
        exact g_iret dX1_caratsAround_85 rfl (Nat.le_of_ble_eq_true rfl) (Nat.le_of_ble_eq_true rfl) (pr_i (rfl) (rfl))
      · skip
        refine g_aload_n 1 dX1_caratsAround_66 rfl rfl ?_
        refine g_iload_n 2 dX1_caratsAround_67 rfl rfl ?_
        refine g_iconst dX1_caratsAround_68 ?_
        refine g_iadd dX1_caratsAround_69 ?_
        refine g_cV_i (My := mX1_hasCarats) (gs := [_]) (c_X1_hasCarats hL (by omega) (x := x + 1)) mfX1_hasCarats cf_2 wi_X1_hasCarats wsl_X1_hasCarats wm_X1_54 dX1_caratsAround_70 (Nat.le_of_ble_eq_true rfl) rfl (by decide) (n2 (hL 1 rfl)) rfl (fun _ => Nat.le_of_ble_eq_true rfl) (Nat.le_of_ble_eq_true rfl) (Nat.le_of_ble_eq_true rfl) rfl rfl ?_
        refine g_ifb_eq (tgt := 80) dX1_caratsAround_73 (by decide) (fun h73_6 => ?_) (fun h73_6 => ?_)
        · skip
          refine g_iconst dX1_caratsAround_80 ?_
          refine g_top (y := b2 (decide (x % 10 < 9 ∧ hcB A (x + 1) = true))) (by grind [b2]) ?_
          refine g_cN_i (My := mX3_oneIf) (gs := [_]) (c_X3_oneIf _) mfX3_oneIf wst_X3_oneIf (by decide : Cond.methodLinkNest RX1 57 yX3_oneIf RX3 ∈ EVW) dX1_caratsAround_81 (Nat.le_of_ble_eq_true rfl) rfl (fun _ => Nat.le_of_ble_eq_true rfl) (Nat.le_of_ble_eq_true rfl) (Nat.le_of_ble_eq_true rfl) rfl rfl ?_
          refine g_iadd dX1_caratsAround_84 ?_
          exact g_iret dX1_caratsAround_85 rfl (Nat.le_of_ble_eq_true rfl) (Nat.le_of_ble_eq_true rfl) (pr_i (rfl) (rfl))
        · skip
          refine g_iconst dX1_caratsAround_76 ?_
          refine g_goto (tgt := 81) dX1_caratsAround_77 (by decide) ?_
          refine g_top (y := b2 (decide (x % 10 < 9 ∧ hcB A (x + 1) = true))) (by grind [b2]) ?_
          refine g_cN_i (My := mX3_oneIf) (gs := [_]) (c_X3_oneIf _) mfX3_oneIf wst_X3_oneIf (by decide : Cond.methodLinkNest RX1 57 yX3_oneIf RX3 ∈ EVW) dX1_caratsAround_81 (Nat.le_of_ble_eq_true rfl) rfl (fun _ => Nat.le_of_ble_eq_true rfl) (Nat.le_of_ble_eq_true rfl) (Nat.le_of_ble_eq_true rfl) rfl rfl ?_
          refine g_iadd dX1_caratsAround_84 ?_
          exact g_iret dX1_caratsAround_85 rfl (Nat.le_of_ble_eq_true rfl) (Nat.le_of_ble_eq_true rfl) (pr_i (rfl) (rfl))
    · skip
      refine g_iconst dX1_caratsAround_51 ?_
      refine g_goto (tgt := 56) dX1_caratsAround_52 (by decide) ?_
      refine g_top (y := b2 (decide (0 < x % 10 ∧ hcB A (x - 1) = true))) (by grind [b2]) ?_
      refine g_cN_i (My := mX3_oneIf) (gs := [_]) (c_X3_oneIf _) mfX3_oneIf wst_X3_oneIf (by decide : Cond.methodLinkNest RX1 57 yX3_oneIf RX3 ∈ EVW) dX1_caratsAround_56 (Nat.le_of_ble_eq_true rfl) rfl (fun _ => Nat.le_of_ble_eq_true rfl) (Nat.le_of_ble_eq_true rfl) (Nat.le_of_ble_eq_true rfl) rfl rfl ?_
      refine g_iadd dX1_caratsAround_59 ?_
      refine g_iload_n 0 dX1_caratsAround_60 rfl rfl ?_
      refine g_bipush dX1_caratsAround_61 (by decide) ?_
      refine g_icmp_ge (tgt := 80) (by omega) (by omega) dX1_caratsAround_63 (by decide) (fun h63_7 => ?_) (fun h63_7 => ?_)
      · skip
        refine g_iconst dX1_caratsAround_80 ?_
        refine g_top (y := b2 (decide (x % 10 < 9 ∧ hcB A (x + 1) = true))) (by grind [b2]) ?_
        refine g_cN_i (My := mX3_oneIf) (gs := [_]) (c_X3_oneIf _) mfX3_oneIf wst_X3_oneIf (by decide : Cond.methodLinkNest RX1 57 yX3_oneIf RX3 ∈ EVW) dX1_caratsAround_81 (Nat.le_of_ble_eq_true rfl) rfl (fun _ => Nat.le_of_ble_eq_true rfl) (Nat.le_of_ble_eq_true rfl) (Nat.le_of_ble_eq_true rfl) rfl rfl ?_
        refine g_iadd dX1_caratsAround_84 ?_
        exact g_iret dX1_caratsAround_85 rfl (Nat.le_of_ble_eq_true rfl) (Nat.le_of_ble_eq_true rfl) (pr_i (rfl) (rfl))
      · skip
        refine g_aload_n 1 dX1_caratsAround_66 rfl rfl ?_
        refine g_iload_n 2 dX1_caratsAround_67 rfl rfl ?_
        refine g_iconst dX1_caratsAround_68 ?_
        refine g_iadd dX1_caratsAround_69 ?_
        refine g_cV_i (My := mX1_hasCarats) (gs := [_]) (c_X1_hasCarats hL (by omega) (x := x + 1)) mfX1_hasCarats cf_2 wi_X1_hasCarats wsl_X1_hasCarats wm_X1_54 dX1_caratsAround_70 (Nat.le_of_ble_eq_true rfl) rfl (by decide) (n2 (hL 1 rfl)) rfl (fun _ => Nat.le_of_ble_eq_true rfl) (Nat.le_of_ble_eq_true rfl) (Nat.le_of_ble_eq_true rfl) rfl rfl ?_
        refine g_ifb_eq (tgt := 80) dX1_caratsAround_73 (by decide) (fun h73_8 => ?_) (fun h73_8 => ?_)
        · skip
          refine g_iconst dX1_caratsAround_80 ?_
          refine g_top (y := b2 (decide (x % 10 < 9 ∧ hcB A (x + 1) = true))) (by grind [b2]) ?_
          refine g_cN_i (My := mX3_oneIf) (gs := [_]) (c_X3_oneIf _) mfX3_oneIf wst_X3_oneIf (by decide : Cond.methodLinkNest RX1 57 yX3_oneIf RX3 ∈ EVW) dX1_caratsAround_81 (Nat.le_of_ble_eq_true rfl) rfl (fun _ => Nat.le_of_ble_eq_true rfl) (Nat.le_of_ble_eq_true rfl) (Nat.le_of_ble_eq_true rfl) rfl rfl ?_
          refine g_iadd dX1_caratsAround_84 ?_
          exact g_iret dX1_caratsAround_85 rfl (Nat.le_of_ble_eq_true rfl) (Nat.le_of_ble_eq_true rfl) (pr_i (rfl) (rfl))
        · skip
          refine g_iconst dX1_caratsAround_76 ?_
          refine g_goto (tgt := 81) dX1_caratsAround_77 (by decide) ?_
          refine g_top (y := b2 (decide (x % 10 < 9 ∧ hcB A (x + 1) = true))) (by grind [b2]) ?_
          refine g_cN_i (My := mX3_oneIf) (gs := [_]) (c_X3_oneIf _) mfX3_oneIf wst_X3_oneIf (by decide : Cond.methodLinkNest RX1 57 yX3_oneIf RX3 ∈ EVW) dX1_caratsAround_81 (Nat.le_of_ble_eq_true rfl) rfl (fun _ => Nat.le_of_ble_eq_true rfl) (Nat.le_of_ble_eq_true rfl) (Nat.le_of_ble_eq_true rfl) rfl rfl ?_
          refine g_iadd dX1_caratsAround_84 ?_
          exact g_iret dX1_caratsAround_85 rfl (Nat.le_of_ble_eq_true rfl) (Nat.le_of_ble_eq_true rfl) (pr_i (rfl) (rfl))

set_option maxRecDepth 20000 in
theorem c_X1_trapsOf {L : Nat → Nat} {A : Mem} (hL : LC L) {k : Int} (hk : -2147483648 ≤ k ∧ k < 2147483648) : Ct mX1_trapsOf [gr 1, gi k] L A (pr (some (gi (trapC A k 100))) L A) := by
  refine Ct_of (ls := [(0, _), (1, _)]) rfl (by decide) (fun _ => rfl) (fun _ => Nat.le_of_ble_eq_true rfl) ?_
  refine g_iconst dX1_trapsOf_0 ?_
  refine g_st (ls2 := [(2, _), (0, _), (1, _)]) dX1_trapsOf_1 rfl (by decide) (c1_cr (c1_ci c1_0)) rfl ?_
  refine g_iconst dX1_trapsOf_2 ?_
  refine g_st (ls2 := [(3, _), (2, _), (0, _), (1, _)]) dX1_trapsOf_3 rfl (by decide) (c1_ci (c1_cr (c1_ci c1_0))) rfl ?_
  refine g_sub [2, 3, 1, 0] (ls2 := [(0, _), (1, _), (2, _), (3, _)]) rfl ?_
  have hQ4 : (fun i : Nat => GW mX1_trapsOf (pr (some (gi (trapC A k 100))) L A) 0 0 4 [(0, gr (1)), (1, gi (k)), (2, gi (trapC A k i)), (3, gi ((i : Int)))] [] L (A)) 0 := by
    refine lp_up (Q := (fun i : Nat => GW mX1_trapsOf (pr (some (gi (trapC A k 100))) L A) 0 0 4 [(0, gr (1)), (1, gi (k)), (2, gi (trapC A k i)), (3, gi ((i : Int)))] [] L (A))) (n := 100) ?_ (fun i hi4 ih4 => ?_)
    · skip
      refine g_iload_n 3 dX1_trapsOf_4 rfl rfl ?_
      refine g_bipush dX1_trapsOf_5 (by decide) ?_
      refine g_icmp_ge (tgt := 37) (by omega) (by omega) dX1_trapsOf_7 (by decide) (fun h7_1 => ?_) (fun h7_1 => absurd h7_1 (by omega))
      refine g_iload_n 2 dX1_trapsOf_37 rfl rfl ?_
      exact g_iret dX1_trapsOf_38 rfl (Nat.le_of_ble_eq_true rfl) (Nat.le_of_ble_eq_true rfl) (pr_i (rfl) (rfl))
    · skip
      refine g_iload_n 3 dX1_trapsOf_4 rfl rfl ?_
      refine g_bipush dX1_trapsOf_5 (by decide) ?_
      refine g_icmp_ge (tgt := 37) (by omega) (by omega) dX1_trapsOf_7 (by decide) (fun h7_2 => absurd h7_2 (by omega)) (fun h7_2 => ?_)
      refine g_iload_n 2 dX1_trapsOf_10 rfl rfl ?_
      refine g_aload_n 0 dX1_trapsOf_11 rfl rfl ?_
      refine g_getfr2 (r := 17) cf_2 5 rfl (by decide) (by decide) rfl (by decide) wf_X1_28 dX1_trapsOf_12 (hL 1 rfl) rfl ?_
      refine g_iload_n 3 dX1_trapsOf_15 rfl rfl ?_
      refine g_iald (i) (by omega) (by omega) rfl (by decide) dX1_trapsOf_16 (n2 (hL 17 rfl)) (fun h16_3 => ?_)
      refine g_iload_n 1 dX1_trapsOf_17 rfl rfl ?_
      refine g_icmp_ne (tgt := 25) (by omega) (by omega) dX1_trapsOf_18 (by decide) (fun h18_4 => ?_) (fun h18_4 => ?_)
      · skip
        refine g_iconst dX1_trapsOf_25 ?_
        refine g_top (y := b2 (decide (A 17 i = k))) (by grind [b2]) ?_
        refine g_cN_i (My := mX3_oneIf) (gs := [_]) (c_X3_oneIf (decide (A 17 i = k))) mfX3_oneIf wst_X3_oneIf (by decide : Cond.methodLinkNest RX1 57 yX3_oneIf RX3 ∈ EVW) dX1_trapsOf_26 (Nat.le_of_ble_eq_true rfl) rfl (fun _ => Nat.le_of_ble_eq_true rfl) (Nat.le_of_ble_eq_true rfl) (Nat.le_of_ble_eq_true rfl) rfl rfl ?_
        refine g_iadd dX1_trapsOf_29 ?_
        refine g_st (ls2 := [(2, _), (0, _), (1, _), (3, _)]) dX1_trapsOf_30 rfl (by decide) (c1_cr (c1_ci (c1_ci (c1_ci c1_0)))) rfl ?_
        refine g_inc (ls2 := [(3, _), (2, _), (0, _), (1, _)]) 3 dX1_trapsOf_31 rfl (by decide) (c1_ci (c1_cr (c1_ci (c1_ci c1_0)))) rfl ?_
        refine g_goto (tgt := 4) dX1_trapsOf_34 (by decide) ?_
        refine g_sub [2, 3, 1, 0] (ls2 := [(0, _), (1, _), (2, _), (3, _)]) rfl ?_
        exact g_ls (by simp only [trapC]; rfl) rfl rfl ih4
      · skip
        refine g_iconst dX1_trapsOf_21 ?_
        refine g_goto (tgt := 26) dX1_trapsOf_22 (by decide) ?_
        refine g_top (y := b2 (decide (A 17 i = k))) (by grind [b2]) ?_
        refine g_cN_i (My := mX3_oneIf) (gs := [_]) (c_X3_oneIf (decide (A 17 i = k))) mfX3_oneIf wst_X3_oneIf (by decide : Cond.methodLinkNest RX1 57 yX3_oneIf RX3 ∈ EVW) dX1_trapsOf_26 (Nat.le_of_ble_eq_true rfl) rfl (fun _ => Nat.le_of_ble_eq_true rfl) (Nat.le_of_ble_eq_true rfl) (Nat.le_of_ble_eq_true rfl) rfl rfl ?_
        refine g_iadd dX1_trapsOf_29 ?_
        refine g_st (ls2 := [(2, _), (0, _), (1, _), (3, _)]) dX1_trapsOf_30 rfl (by decide) (c1_cr (c1_ci (c1_ci (c1_ci c1_0)))) rfl ?_
        refine g_inc (ls2 := [(3, _), (2, _), (0, _), (1, _)]) 3 dX1_trapsOf_31 rfl (by decide) (c1_ci (c1_cr (c1_ci (c1_ci c1_0)))) rfl ?_
        refine g_goto (tgt := 4) dX1_trapsOf_34 (by decide) ?_
        refine g_sub [2, 3, 1, 0] (ls2 := [(0, _), (1, _), (2, _), (3, _)]) rfl ?_
        exact g_ls (by simp only [trapC]; rfl) rfl rfl ih4
  exact g_ls (by rfl) rfl rfl hQ4

set_option maxRecDepth 20000 in
theorem c_X1_looseBeside {L : Nat → Nat} {A : Mem} (hL : LC L) {c s : Int} {n : Nat} (hc : 0 ≤ c ∧ c < 100) (hs : s = 1 ∨ s = -1 ∨ s = 10 ∨ s = -10) (hn : n ≤ 10) : Ct mX1_looseBeside [gr 1, gi c, gi s, gi n] L A (pr (some (gi (lbC A c s n))) L A) := by
  refine Ct_of (ls := [(0, _), (1, _), (2, _), (3, _)]) rfl (by decide) (fun _ => rfl) (fun _ => Nat.le_of_ble_eq_true rfl) ?_
  refine g_iconst dX1_looseBeside_0 ?_
  refine g_st2 (ls2 := [(4, _), (0, _), (1, _), (2, _), (3, _)]) dX1_looseBeside_1 (by decide) (c1_cr (c1_ci (c1_ci (c1_ci c1_0)))) rfl ?_
  refine g_sub [1, 2, 3, 4, 0] (ls2 := [(0, _), (1, _), (2, _), (3, _), (4, _)]) rfl ?_
  have hQ3 : (fun i : Nat => (∀ q, q < i → loB A (c + ((q : Int) + 1) * s) = true) → GW mX1_looseBeside (pr (some (gi (lbC A c s n))) L A) 0 0 3 [(0, gr (1)), (1, gi (c)), (2, gi (s)), (3, gi ((n : Int))), (4, gi ((i : Int)))] [] L (A)) 0 := by
    refine lp_up (Q := (fun i : Nat => (∀ q, q < i → loB A (c + ((q : Int) + 1) * s) = true) → GW mX1_looseBeside (pr (some (gi (lbC A c s n))) L A) 0 0 3 [(0, gr (1)), (1, gi (c)), (2, gi (s)), (3, gi ((n : Int))), (4, gi ((i : Int)))] [] L (A))) (n := n) ?_ (fun i hi3 ih3 => ?_)
    · skip
      intro hall
      refine g_iload 4 dX1_looseBeside_3 rfl ?_
      refine g_iload_n 3 dX1_looseBeside_5 rfl rfl ?_
      refine g_icmp_ge (tgt := 30) (by omega) (by omega) dX1_looseBeside_6 (by decide) (fun h6_1 => ?_) (fun h6_1 => absurd h6_1 (by omega))
      refine g_iload 4 dX1_looseBeside_30 rfl ?_
      exact g_iret dX1_looseBeside_32 rfl (Nat.le_of_ble_eq_true rfl) (Nat.le_of_ble_eq_true rfl) (pr_i (by rw [lbC, rlen_eq (Nat.le_refl n) hall (Or.inl rfl)]) (rfl))
    · skip
      intro hall
      refine g_iload 4 dX1_looseBeside_3 rfl ?_
      refine g_iload_n 3 dX1_looseBeside_5 rfl rfl ?_
      refine g_icmp_ge (tgt := 30) (by omega) (by omega) dX1_looseBeside_6 (by decide) (fun h6_2 => absurd h6_2 (by omega)) (fun h6_2 => ?_)
      refine g_aload_n 0 dX1_looseBeside_9 rfl rfl ?_
      refine g_iload_n 1 dX1_looseBeside_10 rfl rfl ?_
      refine g_iload 4 dX1_looseBeside_11 rfl ?_
      refine g_iconst dX1_looseBeside_13 ?_
      refine g_iadd dX1_looseBeside_14 ?_
      refine g_iload_n 2 dX1_looseBeside_15 rfl rfl ?_
      refine g_imul dX1_looseBeside_16 ?_
      refine g_iadd dX1_looseBeside_17 ?_
      have hm : -1000 ≤ ((i : Int) + 1) * s ∧ ((i : Int) + 1) * s ≤ 1000 := by rcases hs with rfl | rfl | rfl | rfl <;> omega
      refine g_cV_i (My := mX1_isLoose) (gs := [_]) (c_X1_isLoose hL (x := c + ((i : Int) + 1) * s) (by omega)) mfX1_isLoose cf_2 wi_X1_isLoose wsl_X1_isLoose wm_X1_65 dX1_looseBeside_18 (Nat.le_of_ble_eq_true rfl) rfl (by decide) (n2 (hL 1 rfl)) rfl (fun _ => Nat.le_of_ble_eq_true rfl) (Nat.le_of_ble_eq_true rfl) (Nat.le_of_ble_eq_true rfl) rfl rfl ?_
      refine g_ifb_eq (tgt := 30) dX1_looseBeside_21 (by decide) (fun h21_3 => ?_) (fun h21_3 => ?_)
      · skip
        refine g_iload 4 dX1_looseBeside_30 rfl ?_
        exact g_iret dX1_looseBeside_32 rfl (Nat.le_of_ble_eq_true rfl) (Nat.le_of_ble_eq_true rfl) (pr_i (by rw [lbC, rlen_eq (Nat.le_of_lt hi3) hall (Or.inr (by assumption))]) (rfl))
      · skip
        refine g_inc (ls2 := [(4, _), (0, _), (1, _), (2, _), (3, _)]) 4 dX1_looseBeside_24 rfl (by decide) (c1_cr (c1_ci (c1_ci (c1_ci (c1_ci c1_0))))) rfl ?_
        refine g_goto (tgt := 3) dX1_looseBeside_27 (by decide) ?_
        refine g_sub [1, 2, 3, 4, 0] (ls2 := [(0, _), (1, _), (2, _), (3, _), (4, _)]) rfl ?_
        exact g_ls (by simp) rfl rfl (ih3 (fun q hq => by rcases Nat.lt_or_ge q i with h9 | h9; exact hall q h9; rw [show q = i by omega]; assumption))
  exact g_ls (by rfl) rfl rfl (hQ3 (fun q hq => absurd hq (by omega)))

set_option maxRecDepth 20000 in
theorem c_X1_looseInRow {L : Nat → Nat} {A : Mem} (hL : LC L) {x : Int} (hx : 0 ≤ x ∧ x < 100) : Ct mX1_looseInRow [gr 1, gi x] L A (pr (some (gi (rowC A x))) L A) := by
  refine Ct_of (ls := [(0, _), (1, _)]) rfl (by decide) (fun _ => rfl) (fun _ => Nat.le_of_ble_eq_true rfl) ?_
  refine g_aload_n 0 dX1_looseInRow_0 rfl rfl ?_
  refine g_iload_n 1 dX1_looseInRow_1 rfl rfl ?_
  refine g_iconst dX1_looseInRow_2 ?_
  refine g_iload_n 1 dX1_looseInRow_3 rfl rfl ?_
  refine g_bipush dX1_looseInRow_4 (by decide) ?_
  refine g_irem (by omega) (by omega) dX1_looseInRow_6 ?_
  refine g_top (y := ((x % 10).toNat : Int)) (by omega) ?_
  refine g_cV_i (My := mX1_looseBeside) (gs := [_, _, _]) (c_X1_looseBeside hL (c := x) (s := -1) (n := (x % 10).toNat) (by omega) (by decide) (by omega)) mfX1_looseBeside cf_2 wi_X1_looseBeside wsl_X1_looseBeside wm_X1_61 dX1_looseInRow_7 (Nat.le_of_ble_eq_true rfl) rfl (by decide) (n2 (hL 1 rfl)) rfl (fun _ => Nat.le_of_ble_eq_true rfl) (Nat.le_of_ble_eq_true rfl) (Nat.le_of_ble_eq_true rfl) rfl rfl ?_
  refine g_iconst dX1_looseInRow_10 ?_
  refine g_iadd dX1_looseInRow_11 ?_
  refine g_aload_n 0 dX1_looseInRow_12 rfl rfl ?_
  refine g_iload_n 1 dX1_looseInRow_13 rfl rfl ?_
  refine g_iconst dX1_looseInRow_14 ?_
  refine g_bipush dX1_looseInRow_15 (by decide) ?_
  refine g_iload_n 1 dX1_looseInRow_17 rfl rfl ?_
  refine g_bipush dX1_looseInRow_18 (by decide) ?_
  refine g_irem (by omega) (by omega) dX1_looseInRow_20 ?_
  refine g_isub dX1_looseInRow_21 ?_
  refine g_top (y := ((9 - x % 10).toNat : Int)) (by omega) ?_
  refine g_cV_i (My := mX1_looseBeside) (gs := [_, _, _]) (c_X1_looseBeside hL (c := x) (s := 1) (n := (9 - x % 10).toNat) (by omega) (by decide) (by omega)) mfX1_looseBeside cf_2 wi_X1_looseBeside wsl_X1_looseBeside wm_X1_61 dX1_looseInRow_22 (Nat.le_of_ble_eq_true rfl) rfl (by decide) (n2 (hL 1 rfl)) rfl (fun _ => Nat.le_of_ble_eq_true rfl) (Nat.le_of_ble_eq_true rfl) (Nat.le_of_ble_eq_true rfl) rfl rfl ?_
  refine g_iadd dX1_looseInRow_25 ?_
  exact g_iret dX1_looseInRow_26 rfl (Nat.le_of_ble_eq_true rfl) (Nat.le_of_ble_eq_true rfl) (pr_i (rfl) (rfl))

set_option maxRecDepth 20000 in
theorem c_X1_looseInColumn {L : Nat → Nat} {A : Mem} (hL : LC L) {x : Int} (hx : 0 ≤ x ∧ x < 100) : Ct mX1_looseInColumn [gr 1, gi x] L A (pr (some (gi (colC A x))) L A) := by
  refine Ct_of (ls := [(0, _), (1, _)]) rfl (by decide) (fun _ => rfl) (fun _ => Nat.le_of_ble_eq_true rfl) ?_
  refine g_aload_n 0 dX1_looseInColumn_0 rfl rfl ?_
  refine g_iload_n 1 dX1_looseInColumn_1 rfl rfl ?_
  refine g_bipush dX1_looseInColumn_2 (by decide) ?_
  refine g_iload_n 1 dX1_looseInColumn_4 rfl rfl ?_
  refine g_bipush dX1_looseInColumn_5 (by decide) ?_
  refine g_idiv (by omega) (by omega) dX1_looseInColumn_7 ?_
  refine g_top (y := ((x / 10).toNat : Int)) (by omega) ?_
  refine g_cV_i (My := mX1_looseBeside) (gs := [_, _, _]) (c_X1_looseBeside hL (c := x) (s := -10) (n := (x / 10).toNat) (by omega) (by decide) (by omega)) mfX1_looseBeside cf_2 wi_X1_looseBeside wsl_X1_looseBeside wm_X1_61 dX1_looseInColumn_8 (Nat.le_of_ble_eq_true rfl) rfl (by decide) (n2 (hL 1 rfl)) rfl (fun _ => Nat.le_of_ble_eq_true rfl) (Nat.le_of_ble_eq_true rfl) (Nat.le_of_ble_eq_true rfl) rfl rfl ?_
  refine g_iconst dX1_looseInColumn_11 ?_
  refine g_iadd dX1_looseInColumn_12 ?_
  refine g_aload_n 0 dX1_looseInColumn_13 rfl rfl ?_
  refine g_iload_n 1 dX1_looseInColumn_14 rfl rfl ?_
  refine g_bipush dX1_looseInColumn_15 (by decide) ?_
  refine g_bipush dX1_looseInColumn_17 (by decide) ?_
  refine g_iload_n 1 dX1_looseInColumn_19 rfl rfl ?_
  refine g_bipush dX1_looseInColumn_20 (by decide) ?_
  refine g_idiv (by omega) (by omega) dX1_looseInColumn_22 ?_
  refine g_isub dX1_looseInColumn_23 ?_
  refine g_top (y := ((9 - x / 10).toNat : Int)) (by omega) ?_
  refine g_cV_i (My := mX1_looseBeside) (gs := [_, _, _]) (c_X1_looseBeside hL (c := x) (s := 10) (n := (9 - x / 10).toNat) (by omega) (by decide) (by omega)) mfX1_looseBeside cf_2 wi_X1_looseBeside wsl_X1_looseBeside wm_X1_61 dX1_looseInColumn_24 (Nat.le_of_ble_eq_true rfl) rfl (by decide) (n2 (hL 1 rfl)) rfl (fun _ => Nat.le_of_ble_eq_true rfl) (Nat.le_of_ble_eq_true rfl) (Nat.le_of_ble_eq_true rfl) rfl rfl ?_
  refine g_iadd dX1_looseInColumn_27 ?_
  exact g_iret dX1_looseInColumn_28 rfl (Nat.le_of_ble_eq_true rfl) (Nat.le_of_ble_eq_true rfl) (pr_i (rfl) (rfl))

set_option maxRecDepth 20000 in
theorem c_X1_canBeDugSafely {L : Nat → Nat} {A : Mem} (hL : LC L) {x : Int} (hx : 0 ≤ x ∧ x < 100) : Ct mX1_canBeDugSafely [gr 1, gi x] L A (pr (some (gi (b2 (safeB A x)))) L A) := by
  have hr1 := lbC_le A x (-1) (x % 10).toNat; have hr2 := lbC_le A x 1 (9 - x % 10).toNat; have hr3 := lbC_le A x (-10) (x / 10).toNat; have hr4 := lbC_le A x 10 (9 - x / 10).toNat; have hrc : rowC A x = (lbC A x (-1) (x % 10).toNat : Int) + 1 + (lbC A x 1 (9 - x % 10).toNat : Int) := rfl; have hcc : colC A x = (lbC A x (-10) (x / 10).toNat : Int) + 1 + (lbC A x 10 (9 - x / 10).toNat : Int) := rfl
  refine Ct_of (ls := [(0, _), (1, _)]) rfl (by decide) (fun _ => rfl) (fun _ => Nat.le_of_ble_eq_true rfl) ?_
  refine g_aload_n 0 dX1_canBeDugSafely_0 rfl rfl ?_
  refine g_iload_n 1 dX1_canBeDugSafely_1 rfl rfl ?_
  refine g_cV_i (My := mX1_canBeDug) (gs := [_]) (c_X1_canBeDug hL hx) mfX1_canBeDug cf_2 wi_X1_canBeDug wsl_X1_canBeDug wm_X1_44 dX1_canBeDugSafely_2 (Nat.le_of_ble_eq_true rfl) rfl (by decide) (n2 (hL 1 rfl)) rfl (fun _ => Nat.le_of_ble_eq_true rfl) (Nat.le_of_ble_eq_true rfl) (Nat.le_of_ble_eq_true rfl) rfl rfl ?_
  refine g_ifb_eq (tgt := 30) dX1_canBeDugSafely_5 (by decide) (fun h5_1 => ?_) (fun h5_1 => ?_)
  · skip
    refine g_iconst dX1_canBeDugSafely_30 ?_
    exact g_zret dX1_canBeDugSafely_31 rfl (Or.inl rfl) (Nat.le_of_ble_eq_true rfl) (Nat.le_of_ble_eq_true rfl) (pr_i (b2_0 (by grind [safeB, b2])) (rfl))
  · skip
    refine g_aload_n 0 dX1_canBeDugSafely_8 rfl rfl ?_
    refine g_iload_n 1 dX1_canBeDugSafely_9 rfl rfl ?_
    refine g_cV_i (My := mX1_looseInRow) (gs := [_]) (c_X1_looseInRow hL hx) mfX1_looseInRow cf_2 wi_X1_looseInRow wsl_X1_looseInRow wm_X1_47 dX1_canBeDugSafely_10 (Nat.le_of_ble_eq_true rfl) rfl (by decide) (n2 (hL 1 rfl)) rfl (fun _ => Nat.le_of_ble_eq_true rfl) (Nat.le_of_ble_eq_true rfl) (Nat.le_of_ble_eq_true rfl) rfl rfl ?_
    refine g_iconst dX1_canBeDugSafely_13 ?_
    refine g_icmp_gt (tgt := 30) (by omega) (by omega) dX1_canBeDugSafely_14 (by decide) (fun h14_2 => ?_) (fun h14_2 => ?_)
    · skip
      refine g_iconst dX1_canBeDugSafely_30 ?_
      exact g_zret dX1_canBeDugSafely_31 rfl (Or.inl rfl) (Nat.le_of_ble_eq_true rfl) (Nat.le_of_ble_eq_true rfl) (pr_i (b2_0 (by grind [safeB, b2])) (rfl))
    · skip
      refine g_aload_n 0 dX1_canBeDugSafely_17 rfl rfl ?_
      refine g_iload_n 1 dX1_canBeDugSafely_18 rfl rfl ?_
      refine g_cV_i (My := mX1_looseInColumn) (gs := [_]) (c_X1_looseInColumn hL hx) mfX1_looseInColumn cf_2 wi_X1_looseInColumn wsl_X1_looseInColumn wm_X1_51 dX1_canBeDugSafely_19 (Nat.le_of_ble_eq_true rfl) rfl (by decide) (n2 (hL 1 rfl)) rfl (fun _ => Nat.le_of_ble_eq_true rfl) (Nat.le_of_ble_eq_true rfl) (Nat.le_of_ble_eq_true rfl) rfl rfl ?_
      refine g_iconst dX1_canBeDugSafely_22 ?_
      refine g_icmp_gt (tgt := 30) (by omega) (by omega) dX1_canBeDugSafely_23 (by decide) (fun h23_3 => ?_) (fun h23_3 => ?_)
      · skip
        refine g_iconst dX1_canBeDugSafely_30 ?_
        exact g_zret dX1_canBeDugSafely_31 rfl (Or.inl rfl) (Nat.le_of_ble_eq_true rfl) (Nat.le_of_ble_eq_true rfl) (pr_i (b2_0 (by grind [safeB, b2])) (rfl))
      · skip
        refine g_iconst dX1_canBeDugSafely_26 ?_
        refine g_goto (tgt := 31) dX1_canBeDugSafely_27 (by decide) ?_
        exact g_zret dX1_canBeDugSafely_31 rfl (Or.inr rfl) (Nat.le_of_ble_eq_true rfl) (Nat.le_of_ble_eq_true rfl) (pr_i (b2_1 (by grind [safeB, b2])) (rfl))

set_option maxRecDepth 20000 in
theorem c_X1_bury {L : Nat → Nat} {A : Mem} (hL : LC L) {c s : Int} {n : Nat} (hn : n ≤ 100) (hr : ∀ i : Nat, i < n → 0 ≤ c + i * s ∧ c + i * s < 100) : Ct mX1_bury [gr 1, gi c, gi s, gi n] L A (pr none L (bury A c s n)) := by
  refine Ct_of (ls := [(0, _), (1, _), (2, _), (3, _)]) rfl (by decide) (fun _ => rfl) (fun _ => Nat.le_of_ble_eq_true rfl) ?_
  refine g_iconst dX1_bury_0 ?_
  refine g_st2 (ls2 := [(4, _), (0, _), (1, _), (2, _), (3, _)]) dX1_bury_1 (by decide) (c1_cr (c1_ci (c1_ci (c1_ci c1_0)))) rfl ?_
  refine g_sub [1, 2, 3, 4, 0] (ls2 := [(0, _), (1, _), (2, _), (3, _), (4, _)]) rfl ?_
  have hQ3 : (fun i : Nat => GW mX1_bury (pr none L (bury A c s n)) 0 0 3 [(0, gr (1)), (1, gi (c)), (2, gi (s)), (3, gi ((n : Int))), (4, gi ((i : Int)))] [] L (bury A c s i)) 0 := by
    refine lp_up (Q := (fun i : Nat => GW mX1_bury (pr none L (bury A c s n)) 0 0 3 [(0, gr (1)), (1, gi (c)), (2, gi (s)), (3, gi ((n : Int))), (4, gi ((i : Int)))] [] L (bury A c s i))) (n := n) ?_ (fun i hi3 ih3 => ?_)
    · skip
      refine g_iload 4 dX1_bury_3 rfl ?_
      refine g_iload_n 3 dX1_bury_5 rfl rfl ?_
      refine g_icmp_ge (tgt := 39) (by omega) (by omega) dX1_bury_6 (by decide) (fun h6_1 => ?_) (fun h6_1 => absurd h6_1 (by omega))
      exact g_vret dX1_bury_39 rfl (Nat.le_of_ble_eq_true rfl) (Nat.le_of_ble_eq_true rfl) (pr_v (rfl))
    · skip
      refine g_iload 4 dX1_bury_3 rfl ?_
      refine g_iload_n 3 dX1_bury_5 rfl rfl ?_
      refine g_icmp_ge (tgt := 39) (by omega) (by omega) dX1_bury_6 (by decide) (fun h6_2 => absurd h6_2 (by omega)) (fun h6_2 => ?_)
      refine g_iload_n 1 dX1_bury_9 rfl rfl ?_
      refine g_iload 4 dX1_bury_10 rfl ?_
      refine g_iload_n 2 dX1_bury_12 rfl rfl ?_
      refine g_imul dX1_bury_13 ?_
      refine g_iadd dX1_bury_14 ?_
      refine g_st2 (ls2 := [(5, _), (0, _), (1, _), (2, _), (3, _), (4, _)]) dX1_bury_15 (by decide) (c1_cr (c1_ci (c1_ci (c1_ci (c1_ci c1_0))))) rfl ?_
      refine g_iload 0 dX1_bury_17 rfl ?_
      refine g_cN_i (My := mX3_isCell) (gs := [_]) (c_X3_isCell (x := c + i * s) (by have := hr i hi3; omega)) mfX3_isCell wst_X3_isCell (by decide : Cond.methodLinkNest RX1 37 yX3_isCell RX3 ∈ EVW) dX1_bury_19 (Nat.le_of_ble_eq_true rfl) rfl (fun _ => Nat.le_of_ble_eq_true rfl) (Nat.le_of_ble_eq_true rfl) (Nat.le_of_ble_eq_true rfl) rfl rfl ?_
      refine g_ifb_eq (tgt := 33) dX1_bury_22 (by decide) (fun h22_3 => absurd h22_3 (by have := hr i hi3; simp only [cellB, decide_eq_false_iff_not]; omega)) (fun h22_3 => ?_)
      have hri := hr i hi3
      refine g_aload_n 1 dX1_bury_25 rfl rfl ?_
      refine g_getfr2 (r := 12) cf_2 0 rfl (by decide) (by decide) rfl (by decide) wf_X1_9 dX1_bury_26 (hL 1 rfl) rfl ?_
      refine g_iload 0 dX1_bury_29 rfl ?_
      refine g_iconst dX1_bury_31 ?_
      refine g_is (by omega) (by omega) (by omega) rfl (by decide) dX1_bury_32 (n2 (hL 12 rfl)) ?_
      refine g_inc (ls2 := [(4, _), (5, _), (0, _), (1, _), (2, _), (3, _)]) 5 dX1_bury_33 rfl (by decide) (c1_ci (c1_cr (c1_ci (c1_ci (c1_ci (c1_ci c1_0)))))) rfl ?_
      refine g_goto (tgt := 3) dX1_bury_36 (by decide) ?_
      refine g_sub [2, 3, 4, 5, 0] (ls2 := [(0, _), (1, _), (2, _), (3, _), (4, _)]) rfl ?_
      exact g_ls (by simp) rfl rfl ih3
  exact g_ls (by rfl) rfl rfl hQ3

def fallC (A : Mem) (x : Int) : Mem :=
  if 3 < colC A x then bury (if 3 < rowC A x then bury A (x - lbC A x (-1) (x % 10).toNat) 1 (rowC A x).toNat else A) (x - lbC A x (-10) (x / 10).toNat * 10) 10 (colC A x).toNat
  else (if 3 < rowC A x then bury A (x - lbC A x (-1) (x % 10).toNat) 1 (rowC A x).toNat else A)

set_option maxRecDepth 20000 in
theorem c_X1_fall {L : Nat → Nat} {A : Mem} (hL : LC L) {x : Int} (hx : 0 ≤ x ∧ x < 100) : Ct mX1_fall [gr 1, gi x] L A (pr none L (fallC A x)) := by
  have hr1 := lbC_le A x (-1) (x % 10).toNat; have hr2 := lbC_le A x 1 (9 - x % 10).toNat; have hr3 := lbC_le A x (-10) (x / 10).toNat; have hr4 := lbC_le A x 10 (9 - x / 10).toNat; have hrc : rowC A x = (lbC A x (-1) (x % 10).toNat : Int) + 1 + (lbC A x 1 (9 - x % 10).toNat : Int) := rfl; have hcc : colC A x = (lbC A x (-10) (x / 10).toNat : Int) + 1 + (lbC A x 10 (9 - x / 10).toNat : Int) := rfl
  refine Ct_of (ls := [(0, _), (1, _)]) rfl (by decide) (fun _ => rfl) (fun _ => Nat.le_of_ble_eq_true rfl) ?_
  refine g_aload_n 0 dX1_fall_0 rfl rfl ?_
  refine g_iload_n 1 dX1_fall_1 rfl rfl ?_
  refine g_cV_i (My := mX1_looseInRow) (gs := [_]) (c_X1_looseInRow hL hx) mfX1_looseInRow cf_2 wi_X1_looseInRow wsl_X1_looseInRow wm_X1_47 dX1_fall_2 (Nat.le_of_ble_eq_true rfl) rfl (by decide) (n2 (hL 1 rfl)) rfl (fun _ => Nat.le_of_ble_eq_true rfl) (Nat.le_of_ble_eq_true rfl) (Nat.le_of_ble_eq_true rfl) rfl rfl ?_
  refine g_st (ls2 := [(2, _), (0, _), (1, _)]) dX1_fall_5 rfl (by decide) (c1_cr (c1_ci c1_0)) rfl ?_
  refine g_aload_n 1 dX1_fall_6 rfl rfl ?_
  refine g_iload_n 2 dX1_fall_7 rfl rfl ?_
  refine g_cV_i (My := mX1_looseInColumn) (gs := [_]) (c_X1_looseInColumn hL hx) mfX1_looseInColumn cf_2 wi_X1_looseInColumn wsl_X1_looseInColumn wm_X1_51 dX1_fall_8 (Nat.le_of_ble_eq_true rfl) rfl (by decide) (n2 (hL 1 rfl)) rfl (fun _ => Nat.le_of_ble_eq_true rfl) (Nat.le_of_ble_eq_true rfl) (Nat.le_of_ble_eq_true rfl) rfl rfl ?_
  refine g_st (ls2 := [(3, _), (2, _), (0, _), (1, _)]) dX1_fall_11 rfl (by decide) (c1_ci (c1_cr (c1_ci c1_0))) rfl ?_
  refine g_iload_n 3 dX1_fall_12 rfl rfl ?_
  refine g_aload_n 2 dX1_fall_13 rfl rfl ?_
  refine g_iload_n 3 dX1_fall_14 rfl rfl ?_
  refine g_iconst dX1_fall_15 ?_
  refine g_iload_n 3 dX1_fall_16 rfl rfl ?_
  refine g_bipush dX1_fall_17 (by decide) ?_
  refine g_irem (by omega) (by omega) dX1_fall_19 ?_
  refine g_top (y := ((x % 10).toNat : Int)) (by omega) ?_
  refine g_cV_i (My := mX1_looseBeside) (gs := [_, _, _]) (c_X1_looseBeside hL (c := x) (s := -1) (n := (x % 10).toNat) (by omega) (by decide) (by omega)) mfX1_looseBeside cf_2 wi_X1_looseBeside wsl_X1_looseBeside wm_X1_61 dX1_fall_20 (Nat.le_of_ble_eq_true rfl) rfl (by decide) (n2 (hL 1 rfl)) rfl (fun _ => Nat.le_of_ble_eq_true rfl) (Nat.le_of_ble_eq_true rfl) (Nat.le_of_ble_eq_true rfl) rfl rfl ?_
  refine g_isub dX1_fall_23 ?_
  refine g_st2 (ls2 := [(4, _), (3, _), (2, _), (0, _), (1, _)]) dX1_fall_24 (by decide) (c1_ci (c1_ci (c1_cr (c1_ci c1_0)))) rfl ?_
  refine g_iload_n 4 dX1_fall_26 rfl rfl ?_
  refine g_aload_n 3 dX1_fall_27 rfl rfl ?_
  refine g_iload_n 4 dX1_fall_28 rfl rfl ?_
  refine g_bipush dX1_fall_29 (by decide) ?_
  refine g_iload_n 4 dX1_fall_31 rfl rfl ?_
  refine g_bipush dX1_fall_32 (by decide) ?_
  refine g_idiv (by omega) (by omega) dX1_fall_34 ?_
  refine g_top (y := ((x / 10).toNat : Int)) (by omega) ?_
  refine g_cV_i (My := mX1_looseBeside) (gs := [_, _, _]) (c_X1_looseBeside hL (c := x) (s := -10) (n := (x / 10).toNat) (by omega) (by decide) (by omega)) mfX1_looseBeside cf_2 wi_X1_looseBeside wsl_X1_looseBeside wm_X1_61 dX1_fall_35 (Nat.le_of_ble_eq_true rfl) rfl (by decide) (n2 (hL 1 rfl)) rfl (fun _ => Nat.le_of_ble_eq_true rfl) (Nat.le_of_ble_eq_true rfl) (Nat.le_of_ble_eq_true rfl) rfl rfl ?_
  refine g_bipush dX1_fall_38 (by decide) ?_
  refine g_imul dX1_fall_40 ?_
  refine g_isub dX1_fall_41 ?_
  refine g_st2 (ls2 := [(5, _), (4, _), (3, _), (2, _), (0, _), (1, _)]) dX1_fall_42 (by decide) (c1_ci (c1_ci (c1_ci (c1_cr (c1_ci c1_0))))) rfl ?_
  refine g_iload_n 3 dX1_fall_44 rfl rfl ?_
  refine g_iconst dX1_fall_45 ?_
  refine g_icmp_le (tgt := 57) (by omega) (by omega) dX1_fall_46 (by decide) (fun h46_1 => ?_) (fun h46_1 => ?_)
  · skip
    refine g_iload_n 2 dX1_fall_57 rfl rfl ?_
    refine g_iconst dX1_fall_58 ?_
    refine g_icmp_le (tgt := 71) (by omega) (by omega) dX1_fall_59 (by decide) (fun h59_2 => ?_) (fun h59_2 => ?_)
    · skip
      exact g_vret dX1_fall_71 rfl (Nat.le_of_ble_eq_true rfl) (Nat.le_of_ble_eq_true rfl) (pr_v (by unfold fallC; split <;> split <;> first | rfl | omega))
    · skip
      refine g_aload_n 4 dX1_fall_62 rfl rfl ?_
      refine g_iload 0 dX1_fall_63 rfl ?_
      refine g_bipush dX1_fall_65 (by decide) ?_
      refine g_iload_n 2 dX1_fall_67 rfl rfl ?_
      refine g_top (y := ((colC A x).toNat : Int)) (by omega) ?_
      refine g_cV_v (My := mX1_bury) (gs := [_, _, _]) (c_X1_bury hL (n := (colC A x).toNat) (by omega) (fun i hi => by omega)) mfX1_bury cf_2 wi_X1_bury wsl_X1_bury wm_X1_68 dX1_fall_68 (Nat.le_of_ble_eq_true rfl) rfl (by decide) (n2 (hL 1 rfl)) rfl (fun _ => Nat.le_of_ble_eq_true rfl) (Nat.le_of_ble_eq_true rfl) (Nat.le_of_ble_eq_true rfl) rfl rfl ?_
      exact g_vret dX1_fall_71 rfl (Nat.le_of_ble_eq_true rfl) (Nat.le_of_ble_eq_true rfl) (pr_v (by unfold fallC; split <;> split <;> first | rfl | omega))
  · skip
    refine g_aload_n 4 dX1_fall_49 rfl rfl ?_
    refine g_iload 1 dX1_fall_50 rfl ?_
    refine g_iconst dX1_fall_52 ?_
    refine g_iload_n 3 dX1_fall_53 rfl rfl ?_
    refine g_top (y := ((rowC A x).toNat : Int)) (by omega) ?_
    refine g_cV_v (My := mX1_bury) (gs := [_, _, _]) (c_X1_bury hL (n := (rowC A x).toNat) (by omega) (fun i hi => by omega)) mfX1_bury cf_2 wi_X1_bury wsl_X1_bury wm_X1_68 dX1_fall_54 (Nat.le_of_ble_eq_true rfl) rfl (by decide) (n2 (hL 1 rfl)) rfl (fun _ => Nat.le_of_ble_eq_true rfl) (Nat.le_of_ble_eq_true rfl) (Nat.le_of_ble_eq_true rfl) rfl rfl ?_
    refine g_iload_n 2 dX1_fall_57 rfl rfl ?_
    refine g_iconst dX1_fall_58 ?_
    refine g_icmp_le (tgt := 71) (by omega) (by omega) dX1_fall_59 (by decide) (fun h59_3 => ?_) (fun h59_3 => ?_)
    · skip
      exact g_vret dX1_fall_71 rfl (Nat.le_of_ble_eq_true rfl) (Nat.le_of_ble_eq_true rfl) (pr_v (by unfold fallC; split <;> split <;> first | rfl | omega))
    · skip
      refine g_aload_n 4 dX1_fall_62 rfl rfl ?_
      refine g_iload 0 dX1_fall_63 rfl ?_
      refine g_bipush dX1_fall_65 (by decide) ?_
      refine g_iload_n 2 dX1_fall_67 rfl rfl ?_
      refine g_top (y := ((colC A x).toNat : Int)) (by omega) ?_
      refine g_cV_v (My := mX1_bury) (gs := [_, _, _]) (c_X1_bury hL (n := (colC A x).toNat) (by omega) (fun i hi => by omega)) mfX1_bury cf_2 wi_X1_bury wsl_X1_bury wm_X1_68 dX1_fall_68 (Nat.le_of_ble_eq_true rfl) rfl (by decide) (n2 (hL 1 rfl)) rfl (fun _ => Nat.le_of_ble_eq_true rfl) (Nat.le_of_ble_eq_true rfl) (Nat.le_of_ble_eq_true rfl) rfl rfl ?_
      exact g_vret dX1_fall_71 rfl (Nat.le_of_ble_eq_true rfl) (Nat.le_of_ble_eq_true rfl) (pr_v (by unfold fallC; split <;> split <;> first | rfl | omega))

