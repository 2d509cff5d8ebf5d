theorem rlen_cg {f g : Nat → Bool} {n : Nat} (h : ∀ i, i < n → f i = g i) : rlen f n = rlen g n := by
  induction n generalizing f g with
  | zero => rfl
  | succ n ih =>
    unfold rlen
    rw [h 0 (by omega), ih (f := fun i => f (i + 1)) (g := fun i => g (i + 1)) (fun i hi => h (i + 1) (by omega))]
theorem loB_gup {B : Mem} {c : Nat} {v x : Int} (h : x ≠ c) : loB (gup B 12 c v) x = loB B x := by
  unfold loB
  rw [gup_ne (show 16 ≠ 12 by decide), gup_ap]
  by_cases h1 : x.toNat = c
  · have : ¬ (0 ≤ x ∧ x < 100) := by omega
    rw [decide_eq_false (by omega), decide_eq_false (by omega)]
  · rw [if_neg (by omega)]
theorem lbC_gup {B : Mem} {c s v : Int} {n : Nat} (hc : 0 ≤ c ∧ c < 100) (hs : s = 1 ∨ s = -1 ∨ s = 10 ∨ s = -10) : lbC (gup B 12 c.toNat v) c s n = lbC B c s n := by
  unfold lbC
  refine rlen_cg (fun i hi => loB_gup ?_)
  rcases hs with rfl | rfl | rfl | rfl <;> omega
theorem rowC_gup {B : Mem} {c v : Int} (hc : 0 ≤ c ∧ c < 100) : rowC (gup B 12 c.toNat v) c = rowC B c := by
  unfold rowC; rw [lbC_gup hc (by omega), lbC_gup hc (by omega)]
theorem colC_gup {B : Mem} {c v : Int} (hc : 0 ≤ c ∧ c < 100) : colC (gup B 12 c.toNat v) c = colC B c := by
  unfold colC; rw [lbC_gup hc (by omega), lbC_gup hc (by omega)]
theorem loB_cg {A B : Mem} (h1 : A 12 = B 12) (h2 : A 16 = B 16) (x : Int) : loB A x = loB B x := by unfold loB; rw [h1, h2]
theorem lbC_cg {A B : Mem} (h1 : A 12 = B 12) (h2 : A 16 = B 16) (c s : Int) (n : Nat) : lbC A c s n = lbC B c s n := by unfold lbC; exact rlen_cg (fun i _ => loB_cg h1 h2 _)
theorem rowC_cg {A B : Mem} (h1 : A 12 = B 12) (h2 : A 16 = B 16) (c : Int) : rowC A c = rowC B c := by unfold rowC; rw [lbC_cg h1 h2, lbC_cg h1 h2]
theorem colC_cg {A B : Mem} (h1 : A 12 = B 12) (h2 : A 16 = B 16) (c : Int) : colC A c = colC B c := by unfold colC; rw [lbC_cg h1 h2, lbC_cg h1 h2]
theorem gup_back (A : Mem) (n k : Nat) (v : Int) : gup (gup A n k v) n k (A n k) = A := by
  funext m j
  rw [gup_ap, gup_ap]
  split
  · rename_i h; rw [h.1, h.2]
  · rfl
/-- the most of the first n that may be had -/
def plR (f : Nat → Int) (ok : Nat → Bool) : Nat → Int
  | 0 => 0
  | n + 1 => if ok n = true ∧ plR f ok n < f n then f n else plR f ok n
def plOk (B : Mem) (k : Int) (c : Nat) : Bool := decide (safeB B c = true ∧ hldC B c = k)
/-- the most carats that d digs of a plan bring, rows of cells all tried -/
def plN : Nat → Mem → Int → Int
  | 0, _, _ => 0
  | d + 1, B, k => plR (fun c => B 14 c + plN d (gup B 12 c 1) k) (plOk B k) 100
theorem plR_rg {f : Nat → Int} {ok : Nat → Bool} {M : Int} (hM : 0 ≤ M) (h : ∀ c, f c ≤ M) (n : Nat) : 0 ≤ plR f ok n ∧ plR f ok n ≤ M := by
  induction n with
  | zero => exact ⟨Int.le_refl _, hM⟩
  | succ n ih => simp only [plR]; have := h n; split <;> omega
theorem plN_rg {d : Nat} {B : Mem} {k : Int} (h : ∀ c, 0 ≤ B 14 c ∧ B 14 c ≤ 999) : 0 ≤ plN d B k ∧ plN d B k ≤ 999 * d := by
  induction d generalizing B with
  | zero => exact ⟨Int.le_refl _, Int.le_refl _⟩
  | succ d ih =>
    simp only [plN]
    have := plR_rg (f := fun c => B 14 c + plN d (gup B 12 c 1) k) (ok := plOk B k) (M := 999 * ((d : Int) + 1)) (by omega) (fun c => by have := h c; have := @ih (gup B 12 c 1) (by rw [gup_ne (by omega)]; exact h); show _ + _ ≤ _; omega) 100
    omega
/-- opened on trial, on both sides -/
theorem keep_try {L : Nat → Nat} {B A : Mem} {c : Nat} (hV : VC L B) (hR : Rel B A) : VC L (gup B 12 c 1) ∧ Rel (gup B 12 c 1) (gup A 23 c 1) := by
  obtain ⟨b1, b2, b3, b4, b5, b6, b7, b8, b9, b10, b11, b12, b13, b14, b15⟩ := rb_of hR
  have f : ∀ n, n ≠ 12 → gup B 12 c 1 n = B n := fun n q => gup_ne q
  have fA : ∀ n, n ≠ 23 → gup A 23 c 1 n = A n := fun n q => gup_ne q
  refine ⟨vc_low hV (fun n q => f n (by omega)) ?_ (PVd_cg (f 0 (by omega)) (fun n _ _ => f n (by omega)) (vc_p hV)), rel_low hR (fun n q => f n (by omega)) (fun n q => fA n (by omega)) ?_⟩
  · obtain ⟨g1, g2, g3, g4, g5, g6⟩ := vc_g hV
    unfold GVd
    rw [f 13 (by omega), f 14 (by omega), f 15 (by omega), f 16 (by omega), f 17 (by omega)]
    exact ⟨fun j => by rw [gup_ap]; have := g1 j; split <;> omega, g2, g3, g4, g5, g6⟩
  · have es : (fun s => gup B 12 c 1 (200 + 3 * s) 4) = fun s => B (200 + 3 * s) 4 := by funext s; rw [f _ (by omega)]
    unfold RB
    rw [es, fA 20 (by omega), fA 24 (by omega), fA 25 (by omega), fA 26 (by omega), fA 27 (by omega), fA 28 (by omega), fA 40 (by omega), fA 41 (by omega), fA 42 (by omega), fA 55 (by omega), f 0 (by omega), f 2 (by omega), f 3 (by omega), f 13 (by omega), f 14 (by omega), f 15 (by omega), f 16 (by omega), f 17 (by omega), f 7 (by omega), f 6 (by omega), f 8 (by omega), f 9 (by omega)]
    exact ⟨b1, b2, b3, gup_cg b4, b5, b6, b7, b8, b9, b10, b11, b12, b13, b14, b15⟩

set_option maxHeartbeats 1000000 in
set_option maxRecDepth 20000 in
theorem c_X4_canPlan {L : Nat → Nat} {A B : Mem} (hM : LM L) (hV : VC L B) (hR : Rel B A) {k c : Int} (hk : -2147483648 ≤ k ∧ k < 2147483648) (hc : 0 ≤ c ∧ c < 100) : Ct mX4_canPlan [gr 20, gi k, gi c] L A (pr (some (gi (b2 (decide (safeB B c = true ∧ hldC B c = k))))) L A) := by
  have hnc := vc_nc hV; have hns := vc_ns hV; have hp0 := (vc_p hV).1
  have rnow := rl_now hR; have rnc := rl_nc hR; have rns := rl_ns hR
  have hg := vc_g hV; have hpv := vc_p hV
  have r12 := congrFun (rl_st hR) c.toNat; have r14 := congrFun (rl_ca hR) c.toNat; have r15 := congrFun (rl_de hR) c.toNat; have r13 := rl_to hR c.toNat; have r16 := congrFun (rl_pr hR) c.toNat; have r17 := congrFun (rl_tr hR) c.toNat
  have g12 := hg.1 c.toNat; have g13 := hg.2.1 c.toNat; have g14 := hg.2.2.1 c.toNat; have g15 := hg.2.2.2.1 c.toNat; have g16 := hg.2.2.2.2.1 c.toNat; have g17 := hg.2.2.2.2.2 c.toNat
  have hhr := hldC_rg hV c; have hrc := rc_rg B hc
  have hdb := digB_eq B c; rw [opB_in hc] at hdb
  refine Ct_of (ls := [(0, _), (1, _), (2, _)]) rfl (by decide) (fun _ => rfl) (fun _ => Nat.le_of_ble_eq_true rfl) ?_
  refine g_aload_n 0 dX4_canPlan_0 rfl rfl ?_
  refine g_getfr2 (r := 23) cf_5 2 rfl (by decide) (by decide) rfl (by decide) wf_X4_7 dX4_canPlan_1 (hM 20 rfl) rfl ?_
  refine g_iload_n 2 dX4_canPlan_4 rfl rfl ?_
  refine g_iald (c.toNat) (by omega) (by omega) rfl (by decide) dX4_canPlan_5 (n2 (hM 23 rfl)) (fun h5_1 => ?_)
  refine g_iconst dX4_canPlan_6 ?_
  refine g_icmp_eq (tgt := 27) (by omega) (by omega) dX4_canPlan_7 (by decide) (fun h7_2 => ?_) (fun h7_2 => ?_)
  · skip
    refine g_iconst dX4_canPlan_27 ?_
    exact g_zret dX4_canPlan_28 rfl (Or.inl rfl) (Nat.le_of_ble_eq_true rfl) (Nat.le_of_ble_eq_true rfl) (pr_i (b2_0 (by unfold safeB; simp only [decide_eq_true_eq, decide_eq_false_iff_not] at *; grind)) (rfl))
  · skip
    refine g_aload_n 0 dX4_canPlan_10 rfl rfl ?_
    refine g_iload_n 2 dX4_canPlan_11 rfl rfl ?_
    refine g_cV_i (My := mX4_isBesideOpen) (gs := [_]) (c_X4_isBesideOpen hM hV hR hc) mfX4_isBesideOpen cf_5 wi_X4_isBesideOpen wsl_X4_isBesideOpen wm_X4_182 dX4_canPlan_12 (Nat.le_of_ble_eq_true rfl) rfl (by decide) (n2 (hM 20 rfl)) rfl (fun _ => Nat.le_of_ble_eq_true rfl) (Nat.le_of_ble_eq_true rfl) (Nat.le_of_ble_eq_true rfl) rfl rfl ?_
    refine g_ifb_eq (tgt := 27) dX4_canPlan_15 (by decide) (fun h15_3 => ?_) (fun h15_3 => ?_)
    · skip
      refine g_iconst dX4_canPlan_27 ?_
      exact g_zret dX4_canPlan_28 rfl (Or.inl rfl) (Nat.le_of_ble_eq_true rfl) (Nat.le_of_ble_eq_true rfl) (pr_i (b2_0 (by unfold safeB; simp only [decide_eq_true_eq, decide_eq_false_iff_not] at *; grind)) (rfl))
    · skip
      refine g_aload_n 0 dX4_canPlan_18 rfl rfl ?_
      refine g_iload_n 2 dX4_canPlan_19 rfl rfl ?_
      refine g_cV_i (My := mX4_holder) (gs := [_]) (c_X4_holder hM hV hR hc) mfX4_holder cf_5 wi_X4_holder wsl_X4_holder wm_X4_175 dX4_canPlan_20 (Nat.le_of_ble_eq_true rfl) rfl (by decide) (n2 (hM 20 rfl)) rfl (fun _ => Nat.le_of_ble_eq_true rfl) (Nat.le_of_ble_eq_true rfl) (Nat.le_of_ble_eq_true rfl) rfl rfl ?_
      refine g_iload_n 1 dX4_canPlan_23 rfl rfl ?_
      refine g_icmp_eq (tgt := 29) (by omega) (by omega) dX4_canPlan_24 (by decide) (fun h24_4 => ?_) (fun h24_4 => ?_)
      · skip
        refine g_aload_n 0 dX4_canPlan_29 rfl rfl ?_
        refine g_getfr2 (r := 23) cf_5 2 rfl (by decide) (by decide) rfl (by decide) wf_X4_7 dX4_canPlan_30 (hM 20 rfl) rfl ?_
        refine g_iload_n 2 dX4_canPlan_33 rfl rfl ?_
        refine g_iald (c.toNat) (by omega) (by omega) rfl (by decide) dX4_canPlan_34 (n2 (hM 23 rfl)) (fun h34_5 => ?_)
        refine g_st (ls2 := [(3, _), (0, _), (1, _), (2, _)]) dX4_canPlan_35 rfl (by decide) (c1_cr (c1_ci (c1_ci c1_0))) rfl ?_
        refine g_aload_n 1 dX4_canPlan_36 rfl rfl ?_
        refine g_getfr2 (r := 23) cf_5 2 rfl (by decide) (by decide) rfl (by decide) wf_X4_7 dX4_canPlan_37 (hM 20 rfl) rfl ?_
        refine g_iload_n 3 dX4_canPlan_40 rfl rfl ?_
        refine g_iconst dX4_canPlan_41 ?_
        refine g_iast (c.toNat) (by omega) (by omega) (by omega) rfl (by decide) dX4_canPlan_42 (n2 (hM 23 rfl)) ?_
        refine g_aload_n 1 dX4_canPlan_43 rfl rfl ?_
        refine g_iload_n 3 dX4_canPlan_44 rfl rfl ?_
        refine g_cV_i (My := mX4_isFall) (gs := [_]) (c_X4_isFall (A := gup A 23 c.toNat 1) hM (fun z => by rw [gup_ne (by decide), rl_pr hR]; have := hg.2.2.2.2.1 z; omega) hc) mfX4_isFall cf_5 wi_X4_isFall wsl_X4_isFall wm_X4_245 dX4_canPlan_45 (Nat.le_of_ble_eq_true rfl) rfl (by decide) (n2 (hM 20 rfl)) rfl (fun _ => Nat.le_of_ble_eq_true rfl) (Nat.le_of_ble_eq_true rfl) (Nat.le_of_ble_eq_true rfl) rfl rfl ?_
        have w1 : rowC (vw (gup A 23 c.toNat 1)) c = rowC B c := by rw [← rowC_gup (B := B) (v := 1) hc]; exact rowC_cg (by funext j; show gup A 23 c.toNat 1 23 j = _; rw [gup_ap, gup_ap, rl_st hR]; simp) (by show gup A 23 c.toNat 1 27 = _; rw [gup_ne (by decide), gup_ne (by decide), rl_pr hR]) _
        have w2 : colC (vw (gup A 23 c.toNat 1)) c = colC B c := by rw [← colC_gup (B := B) (v := 1) hc]; exact colC_cg (by funext j; show gup A 23 c.toNat 1 23 j = _; rw [gup_ap, gup_ap, rl_st hR]; simp) (by show gup A 23 c.toNat 1 27 = _; rw [gup_ne (by decide), gup_ne (by decide), rl_pr hR]) _
        rw [w1, w2]
        refine g_st2 (ls2 := [(4, _), (3, _), (0, _), (1, _), (2, _)]) dX4_canPlan_48 (by decide) (c1_ci (c1_cr (c1_ci (c1_ci c1_0)))) rfl ?_
        refine g_aload_n 2 dX4_canPlan_50 rfl rfl ?_
        refine g_getfr2 (r := 23) cf_5 2 rfl (by decide) (by decide) rfl (by decide) wf_X4_7 dX4_canPlan_51 (hM 20 rfl) rfl ?_
        refine g_iload_n 4 dX4_canPlan_54 rfl rfl ?_
        refine g_iload_n 1 dX4_canPlan_55 rfl rfl ?_
        refine g_iast (c.toNat) (by omega) (by omega) (by omega) rfl (by decide) dX4_canPlan_56 (n2 (hM 23 rfl)) ?_
        refine g_ls (A2 := A) rfl rfl (gup_back _ _ _ _) ?_
        refine g_iload 0 dX4_canPlan_57 rfl ?_
        refine g_ifb_ne (tgt := 66) dX4_canPlan_59 (by decide) (fun h59_6 => ?_) (fun h59_6 => ?_)
        · skip
          refine g_iconst dX4_canPlan_66 ?_
          exact g_zret dX4_canPlan_67 rfl (Or.inl rfl) (Nat.le_of_ble_eq_true rfl) (Nat.le_of_ble_eq_true rfl) (pr_i (b2_0 (by unfold safeB; simp only [decide_eq_true_eq, decide_eq_false_iff_not] at *; grind)) (rfl))
        · skip
          refine g_iconst dX4_canPlan_62 ?_
          refine g_goto (tgt := 67) dX4_canPlan_63 (by decide) ?_
          exact g_zret dX4_canPlan_67 rfl (Or.inr rfl) (Nat.le_of_ble_eq_true rfl) (Nat.le_of_ble_eq_true rfl) (pr_i (b2_1 (by unfold safeB; simp only [decide_eq_true_eq, decide_eq_false_iff_not] at *; grind)) (rfl))
      · skip
        refine g_iconst dX4_canPlan_27 ?_
        exact g_zret dX4_canPlan_28 rfl (Or.inl rfl) (Nat.le_of_ble_eq_true rfl) (Nat.le_of_ble_eq_true rfl) (pr_i (b2_0 (by unfold safeB; simp only [decide_eq_true_eq, decide_eq_false_iff_not] at *; grind)) (rfl))

set_option maxHeartbeats 1000000 in
set_option maxRecDepth 20000 in
theorem c_X4_digsOne {L : Nat → Nat} {A B : Mem} (hM : LM L) (hV : VC L B) (hR : Rel B A) {k : Int} (hk : -2147483648 ≤ k ∧ k < 2147483648) : Ct mX4_digsOne [gr 20, gi k] L A (pr (some (gi (plN 1 B k))) L A) := by
  have hnc := vc_nc hV; have hns := vc_ns hV; have hp0 := (vc_p hV).1
  have rnow := rl_now hR; have rnc := rl_nc hR; have rns := rl_ns hR
  have hg := vc_g hV; have hpv := vc_p hV
  refine Ct_of (ls := [(0, _), (1, _)]) rfl (by decide) (fun _ => rfl) (fun _ => Nat.le_of_ble_eq_true rfl) ?_
  refine g_iconst dX4_digsOne_0 ?_
  refine g_st (ls2 := [(2, _), (0, _), (1, _)]) dX4_digsOne_1 rfl (by decide) (c1_cr (c1_ci c1_0)) rfl ?_
  refine g_iconst dX4_digsOne_2 ?_
  refine g_st (ls2 := [(3, _), (2, _), (0, _), (1, _)]) dX4_digsOne_3 rfl (by decide) (c1_ci (c1_cr (c1_ci c1_0))) rfl ?_
  refine g_sub [2, 3, 1, 0] (ls2 := [(0, _), (1, _), (2, _), (3, _)]) rfl ?_
  have hQ4 : (fun i : Nat => GW mX4_digsOne (pr (some (gi (plN 1 B k))) L A) 0 0 4 [(0, gr (20)), (1, gi (k)), (2, gi (plR (fun c => B 14 c + plN 0 (gup B 12 c 1) k) (plOk B k) i)), (3, gi ((i : Int)))] [] L (A)) 0 := by
    refine lp_up (Q := (fun i : Nat => GW mX4_digsOne (pr (some (gi (plN 1 B k))) L A) 0 0 4 [(0, gr (20)), (1, gi (k)), (2, gi (plR (fun c => B 14 c + plN 0 (gup B 12 c 1) k) (plOk B k) i)), (3, gi ((i : Int)))] [] L (A))) (n := 100) ?_ (fun i hi4 ih4 => ?_)
    · skip
      refine g_iload_n 3 dX4_digsOne_4 rfl rfl ?_
      refine g_bipush dX4_digsOne_5 (by decide) ?_
      refine g_icmp_ge (tgt := 42) (by omega) (by omega) dX4_digsOne_7 (by decide) (fun h7_1 => ?_) (fun h7_1 => absurd h7_1 (by omega))
      refine g_iload_n 2 dX4_digsOne_42 rfl rfl ?_
      exact g_iret dX4_digsOne_43 rfl (Nat.le_of_ble_eq_true rfl) (Nat.le_of_ble_eq_true rfl) (pr_i (rfl) (rfl))
    · skip
      have hpr := plR_rg (f := (fun c => B 14 c + plN 0 (gup B 12 c 1) k)) (ok := plOk B k) (M := 999) (by omega) (fun c => by have := hg.2.2.1 c; show _ + 0 ≤ _; omega) i
      have r14 := congrFun (rl_ca hR) i
      have hz : ((fun c => B 14 c + plN 0 (gup B 12 c 1) k)) i = B 14 i + 0 := rfl
      refine g_iload_n 3 dX4_digsOne_4 rfl rfl ?_
      refine g_bipush dX4_digsOne_5 (by decide) ?_
      refine g_icmp_ge (tgt := 42) (by omega) (by omega) dX4_digsOne_7 (by decide) (fun h7_2 => absurd h7_2 (by omega)) (fun h7_2 => ?_)
      refine g_aload_n 0 dX4_digsOne_10 rfl rfl ?_
      refine g_getfr2 (r := 24) cf_5 3 rfl (by decide) (by decide) rfl (by decide) wf_X4_13 dX4_digsOne_11 (hM 20 rfl) rfl ?_
      refine g_iload_n 3 dX4_digsOne_14 rfl rfl ?_
      refine g_iald (i) (by omega) (by omega) rfl (by decide) dX4_digsOne_15 (n2 (hM 24 rfl)) (fun h15_3 => ?_)
      refine g_iload_n 2 dX4_digsOne_16 rfl rfl ?_
      refine g_icmp_le (tgt := 36) (by omega) (by omega) dX4_digsOne_17 (by decide) (fun h17_4 => ?_) (fun h17_4 => ?_)
      · skip
        refine g_inc (ls2 := [(3, _), (0, _), (1, _), (2, _)]) 3 dX4_digsOne_36 rfl (by decide) (c1_cr (c1_ci (c1_ci (c1_ci c1_0)))) rfl ?_
        refine g_goto (tgt := 4) dX4_digsOne_39 (by decide) ?_
        refine g_sub [1, 2, 3, 0] (ls2 := [(0, _), (1, _), (2, _), (3, _)]) rfl ?_
        exact g_ls (by simp only [plR, plOk]; simp only [decide_eq_true_eq, decide_eq_false_iff_not] at *; grind) rfl rfl ih4
      · skip
        refine g_aload_n 0 dX4_digsOne_20 rfl rfl ?_
        refine g_iload_n 1 dX4_digsOne_21 rfl rfl ?_
        refine g_iload_n 3 dX4_digsOne_22 rfl rfl ?_
        refine g_cV_i (My := mX4_canPlan) (gs := [_, _]) (c_X4_canPlan hM hV hR hk (c := (i : Int)) (by omega)) mfX4_canPlan cf_5 wi_X4_canPlan wsl_X4_canPlan wm_X4_248 dX4_digsOne_23 (Nat.le_of_ble_eq_true rfl) rfl (by decide) (n2 (hM 20 rfl)) rfl (fun _ => Nat.le_of_ble_eq_true rfl) (Nat.le_of_ble_eq_true rfl) (Nat.le_of_ble_eq_true rfl) rfl rfl ?_
        refine g_ifb_eq (tgt := 36) dX4_digsOne_26 (by decide) (fun h26_5 => ?_) (fun h26_5 => ?_)
        · skip
          refine g_inc (ls2 := [(3, _), (0, _), (1, _), (2, _)]) 3 dX4_digsOne_36 rfl (by decide) (c1_cr (c1_ci (c1_ci (c1_ci c1_0)))) rfl ?_
          refine g_goto (tgt := 4) dX4_digsOne_39 (by decide) ?_
          refine g_sub [1, 2, 3, 0] (ls2 := [(0, _), (1, _), (2, _), (3, _)]) rfl ?_
          exact g_ls (by simp only [plR, plOk]; simp only [decide_eq_true_eq, decide_eq_false_iff_not] at *; grind) rfl rfl ih4
        · skip
          refine g_aload_n 0 dX4_digsOne_29 rfl rfl ?_
          refine g_getfr2 (r := 24) cf_5 3 rfl (by decide) (by decide) rfl (by decide) wf_X4_13 dX4_digsOne_30 (hM 20 rfl) rfl ?_
          refine g_iload_n 3 dX4_digsOne_33 rfl rfl ?_
          refine g_iald (i) (by omega) (by omega) rfl (by decide) dX4_digsOne_34 (n2 (hM 24 rfl)) (fun h34_6 => ?_)
          refine g_st (ls2 := [(2, _), (0, _), (1, _), (3, _)]) dX4_digsOne_35 rfl (by decide) (c1_cr (c1_ci (c1_ci (c1_ci c1_0)))) rfl ?_
          refine g_inc (ls2 := [(3, _), (2, _), (0, _), (1, _)]) 3 dX4_digsOne_36 rfl (by decide) (c1_ci (c1_cr (c1_ci (c1_ci c1_0)))) rfl ?_
          refine g_goto (tgt := 4) dX4_digsOne_39 (by decide) ?_
          refine g_sub [2, 3, 1, 0] (ls2 := [(0, _), (1, _), (2, _), (3, _)]) rfl ?_
          exact g_ls (by simp only [plR, plOk]; simp only [decide_eq_true_eq, decide_eq_false_iff_not] at *; grind) rfl rfl ih4
  exact g_ls (by rfl) rfl rfl hQ4

set_option maxHeartbeats 1000000 in
set_option maxRecDepth 20000 in
theorem c_X4_digsTwo {L : Nat → Nat} {A B : Mem} (hM : LM L) (hV : VC L B) (hR : Rel B A) {k : Int} (hk : -2147483648 ≤ k ∧ k < 2147483648) : Ct mX4_digsTwo [gr 20, gi k] L A (pr (some (gi (plN 2 B k))) L A) := by
  have hnc := vc_nc hV; have hns := vc_ns hV; have hp0 := (vc_p hV).1
  have rnow := rl_now hR; have rnc := rl_nc hR; have rns := rl_ns hR
  have hg := vc_g hV; have hpv := vc_p hV
  refine Ct_of (ls := [(0, _), (1, _)]) rfl (by decide) (fun _ => rfl) (fun _ => Nat.le_of_ble_eq_true rfl) ?_
  refine g_iconst dX4_digsTwo_0 ?_
  refine g_st (ls2 := [(2, _), (0, _), (1, _)]) dX4_digsTwo_1 rfl (by decide) (c1_cr (c1_ci c1_0)) rfl ?_
  refine g_iconst dX4_digsTwo_2 ?_
  refine g_st (ls2 := [(3, _), (2, _), (0, _), (1, _)]) dX4_digsTwo_3 rfl (by decide) (c1_ci (c1_cr (c1_ci c1_0))) rfl ?_
  refine g_sub [2, 3, 1, 0] (ls2 := [(0, _), (1, _), (2, _), (3, _)]) rfl ?_
  have hQ4 : (fun i : Nat => GW mX4_digsTwo (pr (some (gi (plN 2 B k))) L A) 0 0 4 [(0, gr (20)), (1, gi (k)), (2, gi (plR (fun c => B 14 c + plN 1 (gup B 12 c 1) k) (plOk B k) i)), (3, gi ((i : Int)))] [] L (A)) 0 := by
    refine lp_up (Q := (fun i : Nat => GW mX4_digsTwo (pr (some (gi (plN 2 B k))) L A) 0 0 4 [(0, gr (20)), (1, gi (k)), (2, gi (plR (fun c => B 14 c + plN 1 (gup B 12 c 1) k) (plOk B k) i)), (3, gi ((i : Int)))] [] L (A))) (n := 100) ?_ (fun i hi4 ih4 => ?_)
    · skip
      refine g_iload_n 3 dX4_digsTwo_4 rfl rfl ?_
      refine g_bipush dX4_digsTwo_5 (by decide) ?_
      refine g_icmp_ge (tgt := 75) (by omega) (by omega) dX4_digsTwo_7 (by decide) (fun h7_1 => ?_) (fun h7_1 => absurd h7_1 (by omega))
      refine g_iload_n 2 dX4_digsTwo_75 rfl rfl ?_
      exact g_iret dX4_digsTwo_76 rfl (Nat.le_of_ble_eq_true rfl) (Nat.le_of_ble_eq_true rfl) (pr_i (rfl) (rfl))
    · skip
      have hpr := plR_rg (f := (fun c => B 14 c + plN 1 (gup B 12 c 1) k)) (ok := plOk B k) (M := 9999) (by omega) (fun c => by have := hg.2.2.1 c; have := plN_rg (d := 1) (B := gup B 12 c 1) (k := k) (by rw [gup_ne (by decide)]; exact hg.2.2.1); show _ + _ ≤ _; omega) i
      have r14 := congrFun (rl_ca hR) i; have g14 := hg.2.2.1 i
      have hz : ((fun c => B 14 c + plN 1 (gup B 12 c 1) k)) i = B 14 i + plN 1 (gup B 12 i 1) k := rfl
      refine g_iload_n 3 dX4_digsTwo_4 rfl rfl ?_
      refine g_bipush dX4_digsTwo_5 (by decide) ?_
      refine g_icmp_ge (tgt := 75) (by omega) (by omega) dX4_digsTwo_7 (by decide) (fun h7_2 => absurd h7_2 (by omega)) (fun h7_2 => ?_)
      refine g_aload_n 0 dX4_digsTwo_10 rfl rfl ?_
      refine g_iload_n 1 dX4_digsTwo_11 rfl rfl ?_
      refine g_iload_n 3 dX4_digsTwo_12 rfl rfl ?_
      refine g_cV_i (My := mX4_canPlan) (gs := [_, _]) (c_X4_canPlan hM hV hR hk (c := (i : Int)) (by omega)) mfX4_canPlan cf_5 wi_X4_canPlan wsl_X4_canPlan wm_X4_248 dX4_digsTwo_13 (Nat.le_of_ble_eq_true rfl) rfl (by decide) (n2 (hM 20 rfl)) rfl (fun _ => Nat.le_of_ble_eq_true rfl) (Nat.le_of_ble_eq_true rfl) (Nat.le_of_ble_eq_true rfl) rfl rfl ?_
      refine g_ifb_eq (tgt := 69) dX4_digsTwo_16 (by decide) (fun h16_3 => ?_) (fun h16_3 => ?_)
      · skip
        refine g_inc (ls2 := [(3, _), (0, _), (1, _), (2, _)]) 3 dX4_digsTwo_69 rfl (by decide) (c1_cr (c1_ci (c1_ci (c1_ci c1_0)))) rfl ?_
        refine g_goto (tgt := 4) dX4_digsTwo_72 (by decide) ?_
        refine g_sub [1, 2, 3, 0] (ls2 := [(0, _), (1, _), (2, _), (3, _)]) rfl ?_
        exact g_ls (by simp only [plR, plOk]; simp only [decide_eq_true_eq, decide_eq_false_iff_not] at *; grind) rfl rfl ih4
      · skip
        refine g_aload_n 0 dX4_digsTwo_19 rfl rfl ?_
        refine g_getfr2 (r := 23) cf_5 2 rfl (by decide) (by decide) rfl (by decide) wf_X4_7 dX4_digsTwo_20 (hM 20 rfl) rfl ?_
        refine g_iload_n 3 dX4_digsTwo_23 rfl rfl ?_
        refine g_iald (i) (by omega) (by omega) rfl (by decide) dX4_digsTwo_24 (n2 (hM 23 rfl)) (fun h24_4 => ?_)
        refine g_st2 (ls2 := [(4, _), (0, _), (1, _), (2, _), (3, _)]) dX4_digsTwo_25 (by decide) (c1_cr (c1_ci (c1_ci (c1_ci c1_0)))) rfl ?_
        refine g_aload_n 1 dX4_digsTwo_27 rfl rfl ?_
        refine g_getfr2 (r := 23) cf_5 2 rfl (by decide) (by decide) rfl (by decide) wf_X4_7 dX4_digsTwo_28 (hM 20 rfl) rfl ?_
        refine g_iload_n 4 dX4_digsTwo_31 rfl rfl ?_
        refine g_iconst dX4_digsTwo_32 ?_
        refine g_iast (i) (by omega) (by omega) (by omega) rfl (by decide) dX4_digsTwo_33 (n2 (hM 23 rfl)) ?_
        refine g_aload_n 1 dX4_digsTwo_34 rfl rfl ?_
        refine g_getfr2 (r := 24) cf_5 3 rfl (by decide) (by decide) rfl (by decide) wf_X4_13 dX4_digsTwo_35 (hM 20 rfl) rfl ?_
        refine g_iload_n 4 dX4_digsTwo_38 rfl rfl ?_
        refine g_iald (i) (by omega) (by omega) rfl (by decide) dX4_digsTwo_39 (n2 (hM 24 rfl)) (fun h39_5 => ?_)
        refine g_top (y := A 24 i) (by rw [gup_ne (by decide)]) ?_
        refine g_aload_n 1 dX4_digsTwo_40 rfl rfl ?_
        refine g_iload_n 2 dX4_digsTwo_41 rfl rfl ?_
        refine g_cV_i (My := mX4_digsOne) (gs := [_]) (c_X4_digsOne hM (keep_try (c := i) hV hR).1 (keep_try (c := i) hV hR).2 hk) mfX4_digsOne cf_5 wi_X4_digsOne wsl_X4_digsOne wm_X4_251 dX4_digsTwo_42 (Nat.le_of_ble_eq_true rfl) rfl (by decide) (n2 (hM 20 rfl)) rfl (fun _ => Nat.le_of_ble_eq_true rfl) (Nat.le_of_ble_eq_true rfl) (Nat.le_of_ble_eq_true rfl) rfl rfl ?_
        have hpl := plN_rg (d := 1) (B := gup B 12 i 1) (k := k) (by rw [gup_ne (by decide)]; exact hg.2.2.1)
        refine g_iadd dX4_digsTwo_45 ?_
        refine g_st2 (ls2 := [(5, _), (4, _), (0, _), (1, _), (2, _), (3, _)]) dX4_digsTwo_46 (by decide) (c1_ci (c1_cr (c1_ci (c1_ci (c1_ci c1_0))))) rfl ?_
        refine g_aload_n 2 dX4_digsTwo_48 rfl rfl ?_
        refine g_getfr2 (r := 23) cf_5 2 rfl (by decide) (by decide) rfl (by decide) wf_X4_7 dX4_digsTwo_49 (hM 20 rfl) rfl ?_
        refine g_iload_n 5 dX4_digsTwo_52 rfl rfl ?_
        refine g_iload 1 dX4_digsTwo_53 rfl ?_
        refine g_iast (i) (by omega) (by omega) (by omega) rfl (by decide) dX4_digsTwo_55 (n2 (hM 23 rfl)) ?_
        refine g_ls (A2 := A) rfl rfl (gup_back _ _ _ _) ?_
        refine g_iload 0 dX4_digsTwo_56 rfl ?_
        refine g_iload_n 4 dX4_digsTwo_58 rfl rfl ?_
        refine g_icmp_le (tgt := 67) (by omega) (by omega) dX4_digsTwo_59 (by decide) (fun h59_6 => ?_) (fun h59_6 => ?_)
        · skip
          refine g_iload_n 4 dX4_digsTwo_67 rfl rfl ?_
          refine g_st (ls2 := [(2, _), (5, _), (4, _), (0, _), (1, _), (3, _)]) dX4_digsTwo_68 rfl (by decide) (c1_ci (c1_ci (c1_cr (c1_ci (c1_ci (c1_ci c1_0)))))) rfl ?_
          refine g_inc (ls2 := [(3, _), (2, _), (5, _), (4, _), (0, _), (1, _)]) 5 dX4_digsTwo_69 rfl (by decide) (c1_ci (c1_ci (c1_ci (c1_cr (c1_ci (c1_ci c1_0)))))) rfl ?_
          refine g_goto (tgt := 4) dX4_digsTwo_72 (by decide) ?_
          refine g_sub [4, 5, 1, 0] (ls2 := [(0, _), (1, _), (2, _), (3, _)]) rfl ?_
          exact g_ls (by simp only [plR, plOk]; simp only [decide_eq_true_eq, decide_eq_false_iff_not] at *; grind) rfl rfl ih4
        · skip
          refine g_iload 0 dX4_digsTwo_62 rfl ?_
          refine g_goto (tgt := 68) dX4_digsTwo_64 (by decide) ?_
          refine g_st (ls2 := [(2, _), (5, _), (4, _), (0, _), (1, _), (3, _)]) dX4_digsTwo_68 rfl (by decide) (c1_ci (c1_ci (c1_cr (c1_ci (c1_ci (c1_ci c1_0)))))) rfl ?_
          refine g_inc (ls2 := [(3, _), (2, _), (5, _), (4, _), (0, _), (1, _)]) 5 dX4_digsTwo_69 rfl (by decide) (c1_ci (c1_ci (c1_ci (c1_cr (c1_ci (c1_ci c1_0)))))) rfl ?_
          refine g_goto (tgt := 4) dX4_digsTwo_72 (by decide) ?_
          refine g_sub [4, 5, 1, 0] (ls2 := [(0, _), (1, _), (2, _), (3, _)]) rfl ?_
          exact g_ls (by simp only [plR, plOk]; simp only [decide_eq_true_eq, decide_eq_false_iff_not] at *; grind) rfl rfl ih4
  exact g_ls (by rfl) rfl rfl hQ4

set_option maxHeartbeats 1000000 in
set_option maxRecDepth 20000 in
theorem c_X4_digsThree {L : Nat → Nat} {A B : Mem} (hM : LM L) (hV : VC L B) (hR : Rel B A) {k : Int} (hk : -2147483648 ≤ k ∧ k < 2147483648) : Ct mX4_digsThree [gr 20, gi k] L A (pr (some (gi (plN 3 B k))) L A) := by
  have hnc := vc_nc hV; have hns := vc_ns hV; have hp0 := (vc_p hV).1
  have rnow := rl_now hR; have rnc := rl_nc hR; have rns := rl_ns hR
  have hg := vc_g hV; have hpv := vc_p hV
  refine Ct_of (ls := [(0, _), (1, _)]) rfl (by decide) (fun _ => rfl) (fun _ => Nat.le_of_ble_eq_true rfl) ?_
  refine g_iconst dX4_digsThree_0 ?_
  refine g_st (ls2 := [(2, _), (0, _), (1, _)]) dX4_digsThree_1 rfl (by decide) (c1_cr (c1_ci c1_0)) rfl ?_
  refine g_iconst dX4_digsThree_2 ?_
  refine g_st (ls2 := [(3, _), (2, _), (0, _), (1, _)]) dX4_digsThree_3 rfl (by decide) (c1_ci (c1_cr (c1_ci c1_0))) rfl ?_
  refine g_sub [2, 3, 1, 0] (ls2 := [(0, _), (1, _), (2, _), (3, _)]) rfl ?_
  have hQ4 : (fun i : Nat => GW mX4_digsThree (pr (some (gi (plN 3 B k))) L A) 0 0 4 [(0, gr (20)), (1, gi (k)), (2, gi (plR (fun c => B 14 c + plN 2 (gup B 12 c 1) k) (plOk B k) i)), (3, gi ((i : Int)))] [] L (A)) 0 := by
    refine lp_up (Q := (fun i : Nat => GW mX4_digsThree (pr (some (gi (plN 3 B k))) L A) 0 0 4 [(0, gr (20)), (1, gi (k)), (2, gi (plR (fun c => B 14 c + plN 2 (gup B 12 c 1) k) (plOk B k) i)), (3, gi ((i : Int)))] [] L (A))) (n := 100) ?_ (fun i hi4 ih4 => ?_)
    · skip
      refine g_iload_n 3 dX4_digsThree_4 rfl rfl ?_
      refine g_bipush dX4_digsThree_5 (by decide) ?_
      refine g_icmp_ge (tgt := 75) (by omega) (by omega) dX4_digsThree_7 (by decide) (fun h7_1 => ?_) (fun h7_1 => absurd h7_1 (by omega))
      refine g_iload_n 2 dX4_digsThree_75 rfl rfl ?_
      exact g_iret dX4_digsThree_76 rfl (Nat.le_of_ble_eq_true rfl) (Nat.le_of_ble_eq_true rfl) (pr_i (rfl) (rfl))
    · skip
      have hpr := plR_rg (f := (fun c => B 14 c + plN 2 (gup B 12 c 1) k)) (ok := plOk B k) (M := 9999) (by omega) (fun c => by have := hg.2.2.1 c; have := plN_rg (d := 2) (B := gup B 12 c 1) (k := k) (by rw [gup_ne (by decide)]; exact hg.2.2.1); show _ + _ ≤ _; omega) i
      have r14 := congrFun (rl_ca hR) i; have g14 := hg.2.2.1 i
      have hz : ((fun c => B 14 c + plN 2 (gup B 12 c 1) k)) i = B 14 i + plN 2 (gup B 12 i 1) k := rfl
      refine g_iload_n 3 dX4_digsThree_4 rfl rfl ?_
      refine g_bipush dX4_digsThree_5 (by decide) ?_
      refine g_icmp_ge (tgt := 75) (by omega) (by omega) dX4_digsThree_7 (by decide) (fun h7_2 => absurd h7_2 (by omega)) (fun h7_2 => ?_)
      refine g_aload_n 0 dX4_digsThree_10 rfl rfl ?_
      refine g_iload_n 1 dX4_digsThree_11 rfl rfl ?_
      refine g_iload_n 3 dX4_digsThree_12 rfl rfl ?_
      refine g_cV_i (My := mX4_canPlan) (gs := [_, _]) (c_X4_canPlan hM hV hR hk (c := (i : Int)) (by omega)) mfX4_canPlan cf_5 wi_X4_canPlan wsl_X4_canPlan wm_X4_248 dX4_digsThree_13 (Nat.le_of_ble_eq_true rfl) rfl (by decide) (n2 (hM 20 rfl)) rfl (fun _ => Nat.le_of_ble_eq_true rfl) (Nat.le_of_ble_eq_true rfl) (Nat.le_of_ble_eq_true rfl) rfl rfl ?_
      refine g_ifb_eq (tgt := 69) dX4_digsThree_16 (by decide) (fun h16_3 => ?_) (fun h16_3 => ?_)
      · skip
        refine g_inc (ls2 := [(3, _), (0, _), (1, _), (2, _)]) 3 dX4_digsThree_69 rfl (by decide) (c1_cr (c1_ci (c1_ci (c1_ci c1_0)))) rfl ?_
        refine g_goto (tgt := 4) dX4_digsThree_72 (by decide) ?_
        refine g_sub [1, 2, 3, 0] (ls2 := [(0, _), (1, _), (2, _), (3, _)]) rfl ?_
        exact g_ls (by simp only [plR, plOk]; simp only [decide_eq_true_eq, decide_eq_false_iff_not] at *; grind) rfl rfl ih4
      · skip
        refine g_aload_n 0 dX4_digsThree_19 rfl rfl ?_
        refine g_getfr2 (r := 23) cf_5 2 rfl (by decide) (by decide) rfl (by decide) wf_X4_7 dX4_digsThree_20 (hM 20 rfl) rfl ?_
        refine g_iload_n 3 dX4_digsThree_23 rfl rfl ?_
        refine g_iald (i) (by omega) (by omega) rfl (by decide) dX4_digsThree_24 (n2 (hM 23 rfl)) (fun h24_4 => ?_)
        refine g_st2 (ls2 := [(4, _), (0, _), (1, _), (2, _), (3, _)]) dX4_digsThree_25 (by decide) (c1_cr (c1_ci (c1_ci (c1_ci c1_0)))) rfl ?_
        refine g_aload_n 1 dX4_digsThree_27 rfl rfl ?_
        refine g_getfr2 (r := 23) cf_5 2 rfl (by decide) (by decide) rfl (by decide) wf_X4_7 dX4_digsThree_28 (hM 20 rfl) rfl ?_
        refine g_iload_n 4 dX4_digsThree_31 rfl rfl ?_
        refine g_iconst dX4_digsThree_32 ?_
        refine g_iast (i) (by omega) (by omega) (by omega) rfl (by decide) dX4_digsThree_33 (n2 (hM 23 rfl)) ?_
        refine g_aload_n 1 dX4_digsThree_34 rfl rfl ?_
        refine g_getfr2 (r := 24) cf_5 3 rfl (by decide) (by decide) rfl (by decide) wf_X4_13 dX4_digsThree_35 (hM 20 rfl) rfl ?_
        refine g_iload_n 4 dX4_digsThree_38 rfl rfl ?_
        refine g_iald (i) (by omega) (by omega) rfl (by decide) dX4_digsThree_39 (n2 (hM 24 rfl)) (fun h39_5 => ?_)
        refine g_top (y := A 24 i) (by rw [gup_ne (by decide)]) ?_
        refine g_aload_n 1 dX4_digsThree_40 rfl rfl ?_
        refine g_iload_n 2 dX4_digsThree_41 rfl rfl ?_
        refine g_cV_i (My := mX4_digsTwo) (gs := [_]) (c_X4_digsTwo hM (keep_try (c := i) hV hR).1 (keep_try (c := i) hV hR).2 hk) mfX4_digsTwo cf_5 wi_X4_digsTwo wsl_X4_digsTwo wm_X4_254 dX4_digsThree_42 (Nat.le_of_ble_eq_true rfl) rfl (by decide) (n2 (hM 20 rfl)) rfl (fun _ => Nat.le_of_ble_eq_true rfl) (Nat.le_of_ble_eq_true rfl) (Nat.le_of_ble_eq_true rfl) rfl rfl ?_
        have hpl := plN_rg (d := 2) (B := gup B 12 i 1) (k := k) (by rw [gup_ne (by decide)]; exact hg.2.2.1)
        refine g_iadd dX4_digsThree_45 ?_
        refine g_st2 (ls2 := [(5, _), (4, _), (0, _), (1, _), (2, _), (3, _)]) dX4_digsThree_46 (by decide) (c1_ci (c1_cr (c1_ci (c1_ci (c1_ci c1_0))))) rfl ?_
        refine g_aload_n 2 dX4_digsThree_48 rfl rfl ?_
        refine g_getfr2 (r := 23) cf_5 2 rfl (by decide) (by decide) rfl (by decide) wf_X4_7 dX4_digsThree_49 (hM 20 rfl) rfl ?_
        refine g_iload_n 5 dX4_digsThree_52 rfl rfl ?_
        refine g_iload 1 dX4_digsThree_53 rfl ?_
        refine g_iast (i) (by omega) (by omega) (by omega) rfl (by decide) dX4_digsThree_55 (n2 (hM 23 rfl)) ?_
        refine g_ls (A2 := A) rfl rfl (gup_back _ _ _ _) ?_
        refine g_iload 0 dX4_digsThree_56 rfl ?_
        refine g_iload_n 4 dX4_digsThree_58 rfl rfl ?_
        refine g_icmp_le (tgt := 67) (by omega) (by omega) dX4_digsThree_59 (by decide) (fun h59_6 => ?_) (fun h59_6 => ?_)
        · skip
          refine g_iload_n 4 dX4_digsThree_67 rfl rfl ?_
          refine g_st (ls2 := [(2, _), (5, _), (4, _), (0, _), (1, _), (3, _)]) dX4_digsThree_68 rfl (by decide) (c1_ci (c1_ci (c1_cr (c1_ci (c1_ci (c1_ci c1_0)))))) rfl ?_
          refine g_inc (ls2 := [(3, _), (2, _), (5, _), (4, _), (0, _), (1, _)]) 5 dX4_digsThree_69 rfl (by decide) (c1_ci (c1_ci (c1_ci (c1_cr (c1_ci (c1_ci c1_0)))))) rfl ?_
          refine g_goto (tgt := 4) dX4_digsThree_72 (by decide) ?_
          refine g_sub [4, 5, 1, 0] (ls2 := [(0, _), (1, _), (2, _), (3, _)]) rfl ?_
          exact g_ls (by simp only [plR, plOk]; simp only [decide_eq_true_eq, decide_eq_false_iff_not] at *; grind) rfl rfl ih4
        · skip
          refine g_iload 0 dX4_digsThree_62 rfl ?_
          refine g_goto (tgt := 68) dX4_digsThree_64 (by decide) ?_
          refine g_st (ls2 := [(2, _), (5, _), (4, _), (0, _), (1, _), (3, _)]) dX4_digsThree_68 rfl (by decide) (c1_ci (c1_ci (c1_cr (c1_ci (c1_ci (c1_ci c1_0)))))) rfl ?_
          refine g_inc (ls2 := [(3, _), (2, _), (5, _), (4, _), (0, _), (1, _)]) 5 dX4_digsThree_69 rfl (by decide) (c1_ci (c1_ci (c1_ci (c1_cr (c1_ci (c1_ci c1_0)))))) rfl ?_
          refine g_goto (tgt := 4) dX4_digsThree_72 (by decide) ?_
          refine g_sub [4, 5, 1, 0] (ls2 := [(0, _), (1, _), (2, _), (3, _)]) rfl ?_
          exact g_ls (by simp only [plR, plOk]; simp only [decide_eq_true_eq, decide_eq_false_iff_not] at *; grind) rfl rfl ih4
  exact g_ls (by rfl) rfl rfl hQ4

def plnE (B : Mem) (x w : Int) : Nat := if ¬ (0 ≤ x ∧ x < B 2 2) then 1 else if ¬ (0 ≤ w ∧ w ≤ 3) then 2 else 0

set_option maxHeartbeats 1000000 in
set_option maxRecDepth 20000 in
theorem c_X4_plan {L : Nat → Nat} {A B : Mem} (hM : LM L) (hV : VC L B) (hR : Rel B A) {x w : Int} (hx : -2147483648 ≤ x ∧ x < 2147483648) (hw : -2147483648 ≤ w ∧ w < 2147483648) : Ct mX4_plan [gr 20, gi x, gi w] L A (pr (some (gi (if plnE B x w = 0 then plN w.toNat B x else 0))) L (if plnE B x w = 0 then gup A 20 0 0 else gup A 20 0 (plnE B x w : Nat))) := by
  have hnc := vc_nc hV; have hns := vc_ns hV; have hp0 := (vc_p hV).1
  have rnow := rl_now hR; have rnc := rl_nc hR; have rns := rl_ns hR
  refine Ct_of (ls := [(0, _), (1, _), (2, _)]) rfl (by decide) (fun _ => rfl) (fun _ => Nat.le_of_ble_eq_true rfl) ?_
  refine g_aload_n 0 dX4_plan_0 rfl rfl ?_
  refine g_aload_n 0 dX4_plan_1 rfl rfl ?_
  refine g_iload_n 1 dX4_plan_2 rfl rfl ?_
  by_cases hs3 : 0 ≤ x ∧ x < B 2 2
  · skip
    obtain ⟨k, rfl⟩ : ∃ k : Nat, x = k := ⟨x.toNat, by omega⟩
    have hk : (k : Int) < B 2 2 := by omega
    refine g_cV_i (My := mX4_isClaim) (gs := [_]) (c_X4_isClaim hM hV hR (by omega)) mfX4_isClaim cf_5 wi_X4_isClaim wsl_X4_isClaim wm_X4_142 dX4_plan_3 (Nat.le_of_ble_eq_true rfl) rfl (by decide) (n2 (hM 20 rfl)) rfl (fun _ => Nat.le_of_ble_eq_true rfl) (Nat.le_of_ble_eq_true rfl) (Nat.le_of_ble_eq_true rfl) rfl rfl ?_
    refine g_top (y := 1) (by rw [decide_eq_true hs3]; rfl) ?_
    refine g_if_ne (tgt := 13) (by omega) dX4_plan_6 (by decide) (fun h6_1 => ?_) (fun h6_1 => absurd h6_1 (by omega))
    refine g_iload_n 2 dX4_plan_13 rfl rfl ?_
    refine g_iconst dX4_plan_14 ?_
    refine g_iconst dX4_plan_15 ?_
    by_cases hs16 : 0 ≤ w ∧ w ≤ 3
    · skip
      refine g_cS_i (My := mX4_in) (gs := [_, _, _]) (c_X4_in (by omega) (by omega) (by omega)) mfX4_in rfl wst_X4_in wm_X4_108 dX4_plan_16 (Nat.le_of_ble_eq_true rfl) rfl (fun _ => Nat.le_of_ble_eq_true rfl) (Nat.le_of_ble_eq_true rfl) (Nat.le_of_ble_eq_true rfl) rfl rfl ?_
      refine g_top (y := 1) (by first | (rw [decide_eq_true hs16]; rfl) | (rw [inB, decide_eq_true hs16]; rfl)) ?_
      refine g_if_eq (tgt := 26) (by omega) dX4_plan_19 (by decide) (fun h19_2 => absurd h19_2 (by omega)) (fun h19_2 => ?_)
      refine g_iconst dX4_plan_22 ?_
      refine g_goto (tgt := 27) dX4_plan_23 (by decide) ?_
      refine g_putfi cf_5 0 rfl (by decide) (by decide) rfl (by decide) wf_X4_104 (Or.inl rfl) rfl dX4_plan_27 (n2 (hM 20 rfl)) (by omega) ?_
      refine g_aload_n 0 dX4_plan_30 rfl rfl ?_
      refine g_getfi cf_5 0 rfl (by decide) (by decide) rfl (by decide) wf_X4_104 dX4_plan_31 (n2 (hM 20 rfl)) (fun h31_3 => ?_)
      refine g_top (y := 0) (gup_at _ _ _ _) ?_
      refine g_if_le (tgt := 39) (by omega) dX4_plan_34 (by decide) (fun h34_4 => ?_) (fun h34_4 => absurd h34_4 (by omega))
      refine g_iload_n 2 dX4_plan_39 rfl rfl ?_
      refine g_if_ne (tgt := 47) (by omega) dX4_plan_40 (by decide) (fun h40_5 => ?_) (fun h40_5 => ?_)
      · skip
        refine g_iload_n 2 dX4_plan_47 rfl rfl ?_
        refine g_iconst dX4_plan_48 ?_
        refine g_icmp_ne (tgt := 60) (by omega) (by omega) dX4_plan_49 (by decide) (fun h49_6 => ?_) (fun h49_6 => ?_)
        · skip
          refine g_iload_n 2 dX4_plan_60 rfl rfl ?_
          refine g_iconst dX4_plan_61 ?_
          refine g_icmp_ne (tgt := 73) (by omega) (by omega) dX4_plan_62 (by decide) (fun h62_7 => ?_) (fun h62_7 => ?_)
          · skip
            refine g_aload_n 0 dX4_plan_73 rfl rfl ?_
            refine g_iload_n 1 dX4_plan_74 rfl rfl ?_
            refine g_cV_i (My := mX4_digsThree) (gs := [_]) (c_X4_digsThree hM hV (rl_th hR _) hx) mfX4_digsThree cf_5 wi_X4_digsThree wsl_X4_digsThree wm_X4_257 dX4_plan_75 (Nat.le_of_ble_eq_true rfl) rfl (by decide) (n2 (hM 20 rfl)) rfl (fun _ => Nat.le_of_ble_eq_true rfl) (Nat.le_of_ble_eq_true rfl) (Nat.le_of_ble_eq_true rfl) rfl rfl ?_
            exact g_iret dX4_plan_78 rfl (Nat.le_of_ble_eq_true rfl) (Nat.le_of_ble_eq_true rfl) (pr_i (by first | (rw [show plnE B x w = 0 from by unfold plnE; grind, if_pos rfl]; (try unfold id); (first | done | (first | (rw [show w.toNat = 0 by omega]; rfl) | (rw [show w.toNat = 1 by omega]) | (rw [show w.toNat = 2 by omega]) | (rw [show w.toNat = 3 by omega])))) | (rw [show plnE B x w = 1 from by unfold plnE; grind]; rfl) | (rw [show plnE B x w = 2 from by unfold plnE; grind]; rfl) | (rw [show plnE B (k : Int) w = 0 from by unfold plnE; grind, if_pos rfl]; (try unfold id); (first | done | (first | (rw [show w.toNat = 0 by omega]; rfl) | (rw [show w.toNat = 1 by omega]) | (rw [show w.toNat = 2 by omega]) | (rw [show w.toNat = 3 by omega])))) | (rw [show plnE B (k : Int) w = 1 from by unfold plnE; grind]; rfl) | (rw [show plnE B (k : Int) w = 2 from by unfold plnE; grind]; rfl)) (by first | (rw [show plnE B x w = 0 from by unfold plnE; grind]; rfl) | (rw [show plnE B x w = 1 from by unfold plnE; grind]; rfl) | (rw [show plnE B x w = 2 from by unfold plnE; grind]; rfl) | (rw [show plnE B (k : Int) w = 0 from by unfold plnE; grind]; rfl) | (rw [show plnE B (k : Int) w = 1 from by unfold plnE; grind]; rfl) | (rw [show plnE B (k : Int) w = 2 from by unfold plnE; grind]; rfl)))
          · skip
            refine g_aload_n 0 dX4_plan_65 rfl rfl ?_
            refine g_iload_n 1 dX4_plan_66 rfl rfl ?_
            refine g_cV_i (My := mX4_digsTwo) (gs := [_]) (c_X4_digsTwo hM hV (rl_th hR _) hx) mfX4_digsTwo cf_5 wi_X4_digsTwo wsl_X4_digsTwo wm_X4_254 dX4_plan_67 (Nat.le_of_ble_eq_true rfl) rfl (by decide) (n2 (hM 20 rfl)) rfl (fun _ => Nat.le_of_ble_eq_true rfl) (Nat.le_of_ble_eq_true rfl) (Nat.le_of_ble_eq_true rfl) rfl rfl ?_
            refine g_goto (tgt := 78) dX4_plan_70 (by decide) ?_
            exact g_iret dX4_plan_78 rfl (Nat.le_of_ble_eq_true rfl) (Nat.le_of_ble_eq_true rfl) (pr_i (by first | (rw [show plnE B x w = 0 from by unfold plnE; grind, if_pos rfl]; (try unfold id); (first | done | (first | (rw [show w.toNat = 0 by omega]; rfl) | (rw [show w.toNat = 1 by omega]) | (rw [show w.toNat = 2 by omega]) | (rw [show w.toNat = 3 by omega])))) | (rw [show plnE B x w = 1 from by unfold plnE; grind]; rfl) | (rw [show plnE B x w = 2 from by unfold plnE; grind]; rfl) | (rw [show plnE B (k : Int) w = 0 from by unfold plnE; grind, if_pos rfl]; (try unfold id); (first | done | (first | (rw [show w.toNat = 0 by omega]; rfl) | (rw [show w.toNat = 1 by omega]) | (rw [show w.toNat = 2 by omega]) | (rw [show w.toNat = 3 by omega])))) | (rw [show plnE B (k : Int) w = 1 from by unfold plnE; grind]; rfl) | (rw [show plnE B (k : Int) w = 2 from by unfold plnE; grind]; rfl)) (by first | (rw [show plnE B x w = 0 from by unfold plnE; grind]; rfl) | (rw [show plnE B x w = 1 from by unfold plnE; grind]; rfl) | (rw [show plnE B x w = 2 from by unfold plnE; grind]; rfl) | (rw [show plnE B (k : Int) w = 0 from by unfold plnE; grind]; rfl) | (rw [show plnE B (k : Int) w = 1 from by unfold plnE; grind]; rfl) | (rw [show plnE B (k : Int) w = 2 from by unfold plnE; grind]; rfl)))
        · skip
          refine g_aload_n 0 dX4_plan_52 rfl rfl ?_
          refine g_iload_n 1 dX4_plan_53 rfl rfl ?_
          refine g_cV_i (My := mX4_digsOne) (gs := [_]) (c_X4_digsOne hM hV (rl_th hR _) hx) mfX4_digsOne cf_5 wi_X4_digsOne wsl_X4_digsOne wm_X4_251 dX4_plan_54 (Nat.le_of_ble_eq_true rfl) rfl (by decide) (n2 (hM 20 rfl)) rfl (fun _ => Nat.le_of_ble_eq_true rfl) (Nat.le_of_ble_eq_true rfl) (Nat.le_of_ble_eq_true rfl) rfl rfl ?_
          refine g_goto (tgt := 78) dX4_plan_57 (by decide) ?_
          exact g_iret dX4_plan_78 rfl (Nat.le_of_ble_eq_true rfl) (Nat.le_of_ble_eq_true rfl) (pr_i (by first | (rw [show plnE B x w = 0 from by unfold plnE; grind, if_pos rfl]; (try unfold id); (first | done | (first | (rw [show w.toNat = 0 by omega]; rfl) | (rw [show w.toNat = 1 by omega]) | (rw [show w.toNat = 2 by omega]) | (rw [show w.toNat = 3 by omega])))) | (rw [show plnE B x w = 1 from by unfold plnE; grind]; rfl) | (rw [show plnE B x w = 2 from by unfold plnE; grind]; rfl) | (rw [show plnE B (k : Int) w = 0 from by unfold plnE; grind, if_pos rfl]; (try unfold id); (first | done | (first | (rw [show w.toNat = 0 by omega]; rfl) | (rw [show w.toNat = 1 by omega]) | (rw [show w.toNat = 2 by omega]) | (rw [show w.toNat = 3 by omega])))) | (rw [show plnE B (k : Int) w = 1 from by unfold plnE; grind]; rfl) | (rw [show plnE B (k : Int) w = 2 from by unfold plnE; grind]; rfl)) (by first | (rw [show plnE B x w = 0 from by unfold plnE; grind]; rfl) | (rw [show plnE B x w = 1 from by unfold plnE; grind]; rfl) | (rw [show plnE B x w = 2 from by unfold plnE; grind]; rfl) | (rw [show plnE B (k : Int) w = 0 from by unfold plnE; grind]; rfl) | (rw [show plnE B (k : Int) w = 1 from by unfold plnE; grind]; rfl) | (rw [show plnE B (k : Int) w = 2 from by unfold plnE; grind]; rfl)))
      · skip
        refine g_iconst dX4_plan_43 ?_
        refine g_goto (tgt := 78) dX4_plan_44 (by decide) ?_
        exact g_iret dX4_plan_78 rfl (Nat.le_of_ble_eq_true rfl) (Nat.le_of_ble_eq_true rfl) (pr_i (by first | (rw [show plnE B x w = 0 from by unfold plnE; grind, if_pos rfl]; (try unfold id); (first | done | (first | (rw [show w.toNat = 0 by omega]; rfl) | (rw [show w.toNat = 1 by omega]) | (rw [show w.toNat = 2 by omega]) | (rw [show w.toNat = 3 by omega])))) | (rw [show plnE B x w = 1 from by unfold plnE; grind]; rfl) | (rw [show plnE B x w = 2 from by unfold plnE; grind]; rfl) | (rw [show plnE B (k : Int) w = 0 from by unfold plnE; grind, if_pos rfl]; (try unfold id); (first | done | (first | (rw [show w.toNat = 0 by omega]; rfl) | (rw [show w.toNat = 1 by omega]) | (rw [show w.toNat = 2 by omega]) | (rw [show w.toNat = 3 by omega])))) | (rw [show plnE B (k : Int) w = 1 from by unfold plnE; grind]; rfl) | (rw [show plnE B (k : Int) w = 2 from by unfold plnE; grind]; rfl)) (by first | (rw [show plnE B x w = 0 from by unfold plnE; grind]; rfl) | (rw [show plnE B x w = 1 from by unfold plnE; grind]; rfl) | (rw [show plnE B x w = 2 from by unfold plnE; grind]; rfl) | (rw [show plnE B (k : Int) w = 0 from by unfold plnE; grind]; rfl) | (rw [show plnE B (k : Int) w = 1 from by unfold plnE; grind]; rfl) | (rw [show plnE B (k : Int) w = 2 from by unfold plnE; grind]; rfl)))
    · skip
      refine g_cS_i (My := mX4_in) (gs := [_, _, _]) (c_X4_in (by omega) (by omega) (by omega)) mfX4_in rfl wst_X4_in wm_X4_108 dX4_plan_16 (Nat.le_of_ble_eq_true rfl) rfl (fun _ => Nat.le_of_ble_eq_true rfl) (Nat.le_of_ble_eq_true rfl) (Nat.le_of_ble_eq_true rfl) rfl rfl ?_
      refine g_top (y := 0) (by first | (rw [decide_eq_false hs16]; rfl) | (rw [inB, decide_eq_false hs16]; rfl)) ?_
      refine g_if_eq (tgt := 26) (by omega) dX4_plan_19 (by decide) (fun h19_8 => ?_) (fun h19_8 => absurd h19_8 (by omega))
      refine g_iconst dX4_plan_26 ?_
      refine g_putfi cf_5 0 rfl (by decide) (by decide) rfl (by decide) wf_X4_104 (Or.inl rfl) rfl dX4_plan_27 (n2 (hM 20 rfl)) (by omega) ?_
      refine g_aload_n 0 dX4_plan_30 rfl rfl ?_
      refine g_getfi cf_5 0 rfl (by decide) (by decide) rfl (by decide) wf_X4_104 dX4_plan_31 (n2 (hM 20 rfl)) (fun h31_9 => ?_)
      refine g_top (y := 2) (gup_at _ _ _ _) ?_
      refine g_if_le (tgt := 39) (by omega) dX4_plan_34 (by decide) (fun h34_10 => absurd h34_10 (by omega)) (fun h34_10 => ?_)
      refine g_iconst dX4_plan_37 ?_
      exact g_iret dX4_plan_38 rfl (Nat.le_of_ble_eq_true rfl) (Nat.le_of_ble_eq_true rfl) (pr_i (by first | (rw [show plnE B x w = 0 from by unfold plnE; grind, if_pos rfl]; (try unfold id); (first | done | (first | (rw [show w.toNat = 0 by omega]; rfl) | (rw [show w.toNat = 1 by omega]) | (rw [show w.toNat = 2 by omega]) | (rw [show w.toNat = 3 by omega])))) | (rw [show plnE B x w = 1 from by unfold plnE; grind]; rfl) | (rw [show plnE B x w = 2 from by unfold plnE; grind]; rfl) | (rw [show plnE B (k : Int) w = 0 from by unfold plnE; grind, if_pos rfl]; (try unfold id); (first | done | (first | (rw [show w.toNat = 0 by omega]; rfl) | (rw [show w.toNat = 1 by omega]) | (rw [show w.toNat = 2 by omega]) | (rw [show w.toNat = 3 by omega])))) | (rw [show plnE B (k : Int) w = 1 from by unfold plnE; grind]; rfl) | (rw [show plnE B (k : Int) w = 2 from by unfold plnE; grind]; rfl)) (by first | (rw [show plnE B x w = 0 from by unfold plnE; grind]; rfl) | (rw [show plnE B x w = 1 from by unfold plnE; grind]; rfl) | (rw [show plnE B x w = 2 from by unfold plnE; grind]; rfl) | (rw [show plnE B (k : Int) w = 0 from by unfold plnE; grind]; rfl) | (rw [show plnE B (k : Int) w = 1 from by unfold plnE; grind]; rfl) | (rw [show plnE B (k : Int) w = 2 from by unfold plnE; grind]; rfl)))
  · skip
    refine g_cV_i (My := mX4_isClaim) (gs := [_]) (c_X4_isClaim hM hV hR (by omega)) mfX4_isClaim cf_5 wi_X4_isClaim wsl_X4_isClaim wm_X4_142 dX4_plan_3 (Nat.le_of_ble_eq_true rfl) rfl (by decide) (n2 (hM 20 rfl)) rfl (fun _ => Nat.le_of_ble_eq_true rfl) (Nat.le_of_ble_eq_true rfl) (Nat.le_of_ble_eq_true rfl) rfl rfl ?_
    refine g_top (y := 0) (by rw [decide_eq_false hs3]; rfl) ?_
    refine g_if_ne (tgt := 13) (by omega) dX4_plan_6 (by decide) (fun h6_11 => absurd h6_11 (by omega)) (fun h6_11 => ?_)
    refine g_iconst dX4_plan_9 ?_
    refine g_goto (tgt := 27) dX4_plan_10 (by decide) ?_
    refine g_putfi cf_5 0 rfl (by decide) (by decide) rfl (by decide) wf_X4_104 (Or.inl rfl) rfl dX4_plan_27 (n2 (hM 20 rfl)) (by omega) ?_
    refine g_aload_n 0 dX4_plan_30 rfl rfl ?_
    refine g_getfi cf_5 0 rfl (by decide) (by decide) rfl (by decide) wf_X4_104 dX4_plan_31 (n2 (hM 20 rfl)) (fun h31_12 => ?_)
    refine g_top (y := 1) (gup_at _ _ _ _) ?_
    refine g_if_le (tgt := 39) (by omega) dX4_plan_34 (by decide) (fun h34_13 => absurd h34_13 (by omega)) (fun h34_13 => ?_)
    refine g_iconst dX4_plan_37 ?_
    exact g_iret dX4_plan_38 rfl (Nat.le_of_ble_eq_true rfl) (Nat.le_of_ble_eq_true rfl) (pr_i (by first | (rw [show plnE B x w = 0 from by unfold plnE; grind, if_pos rfl]; (try unfold id); (first | done | (first | (rw [show w.toNat = 0 by omega]; rfl) | (rw [show w.toNat = 1 by omega]) | (rw [show w.toNat = 2 by omega]) | (rw [show w.toNat = 3 by omega])))) | (rw [show plnE B x w = 1 from by unfold plnE; grind]; rfl) | (rw [show plnE B x w = 2 from by unfold plnE; grind]; rfl) | (rw [show plnE B (k : Int) w = 0 from by unfold plnE; grind, if_pos rfl]; (try unfold id); (first | done | (first | (rw [show w.toNat = 0 by omega]; rfl) | (rw [show w.toNat = 1 by omega]) | (rw [show w.toNat = 2 by omega]) | (rw [show w.toNat = 3 by omega])))) | (rw [show plnE B (k : Int) w = 1 from by unfold plnE; grind]; rfl) | (rw [show plnE B (k : Int) w = 2 from by unfold plnE; grind]; rfl)) (by first | (rw [show plnE B x w = 0 from by unfold plnE; grind]; rfl) | (rw [show plnE B x w = 1 from by unfold plnE; grind]; rfl) | (rw [show plnE B x w = 2 from by unfold plnE; grind]; rfl) | (rw [show plnE B (k : Int) w = 0 from by unfold plnE; grind]; rfl) | (rw [show plnE B (k : Int) w = 1 from by unfold plnE; grind]; rfl) | (rw [show plnE B (k : Int) w = 2 from by unfold plnE; grind]; rfl)))

set_option maxRecDepth 20000 in
theorem c_X4_planAnew {L : Nat → Nat} {A B : Mem} (hM : LM L) (hV : VC L B) (hR : Rel B A) {x w : Int} (hx : -2147483648 ≤ x ∧ x < 2147483648) (hw : -2147483648 ≤ w ∧ w < 2147483648) : Ct mX4_planAnew [gr 20, gi x, gi w] L A (pr (some (gi (if plnE B x w = 0 then plN w.toNat B x else 0))) L (if plnE B x w = 0 then gup A 20 0 0 else gup A 20 0 (plnE B x w : Nat))) := by
  have hnc := vc_nc hV; have hns := vc_ns hV; have hp0 := (vc_p hV).1
  have rnow := rl_now hR; have rnc := rl_nc hR; have rns := rl_ns hR
  refine Ct_of (ls := [(0, _), (1, _), (2, _)]) rfl (by decide) (fun _ => rfl) (fun _ => Nat.le_of_ble_eq_true rfl) ?_
  refine g_aload_n 0 dX4_planAnew_0 rfl rfl ?_
  refine g_iload_n 1 dX4_planAnew_1 rfl rfl ?_
  refine g_iload_n 2 dX4_planAnew_2 rfl rfl ?_
  refine g_cV_i (My := mX4_plan) (gs := [_, _]) (c_X4_plan hM hV hR hx hw) mfX4_plan cf_5 wi_X4_plan wsl_X4_plan wm_X4_260 dX4_planAnew_3 (Nat.le_of_ble_eq_true rfl) rfl (by decide) (n2 (hM 20 rfl)) rfl (fun _ => Nat.le_of_ble_eq_true rfl) (Nat.le_of_ble_eq_true rfl) (Nat.le_of_ble_eq_true rfl) rfl rfl ?_
  exact g_iret dX4_planAnew_6 rfl (Nat.le_of_ble_eq_true rfl) (Nat.le_of_ble_eq_true rfl) (pr_i (rfl) (rfl))

