def ratR (A : Mem) (p c : Int) : Mem := if A 28 c.toNat = -1 then opnR (gup A 20 0 0) c p (-1) else gup (gup (gup (gup A 20 0 0) 28 c.toNat (-1)) 40 p.toNat (A 20 1 + 168)) 42 p.toNat (A 42 p.toNat + 1)

set_option maxHeartbeats 1000000 in
set_option maxRecDepth 20000 in
theorem c_X4_rat {L : Nat → Nat} {A B : Mem} (hM : LM L) (hV : VC L B) (hR : Rel B A) (hI : IV B) {p c : Int} (hp : -2147483648 ≤ p ∧ p < 2147483648) (hc : -2147483648 ≤ c ∧ c < 2147483648) : Ct mX4_rat [gr 20, gi p, gi c] L A (pr (some (gi (if ratE B p c = 0 then (if A 28 c.toNat = -1 then A 24 c.toNat else -1) else 0))) L (if ratE B p c = 0 then ratR A p c else gup A 20 0 (ratE B p c : Nat))) := by
  have hnc := vc_nc hV; have hns := vc_ns hV; have hp0 := (vc_p hV).1
  have rnow := rl_now hR; have rnc := rl_nc hR; have rns := rl_ns hR
  have hg := vc_g hV; have hpv := vc_p hV
  have hnop : True := trivial
  refine Ct_of (ls := [(0, _), (1, _), (2, _)]) rfl (by decide) (fun _ => rfl) (fun _ => Nat.le_of_ble_eq_true rfl) ?_
  refine g_aload_n 0 dX4_rat_0 rfl rfl ?_
  refine g_iload_n 1 dX4_rat_1 rfl rfl ?_
  refine g_cS_i (My := mX4_isPerson) (gs := [_]) (c_X4_isPerson hp) mfX4_isPerson rfl wst_X4_isPerson wm_X4_128 dX4_rat_2 (Nat.le_of_ble_eq_true rfl) rfl (fun _ => Nat.le_of_ble_eq_true rfl) (Nat.le_of_ble_eq_true rfl) (Nat.le_of_ble_eq_true rfl) rfl rfl ?_
  refine g_ifb_eq (tgt := 19) dX4_rat_5 (by decide) (fun h5_1 => ?_) (fun h5_1 => ?_)
  · skip
    refine g_iconst dX4_rat_19 ?_
    refine g_putfi cf_5 0 rfl (by decide) (by decide) rfl (by decide) wf_X4_104 (Or.inl rfl) rfl dX4_rat_20 (n2 (hM 20 rfl)) (by first | omega | (simp only [inB, cellB, decide_eq_true_eq, decide_eq_false_iff_not] at *; omega)) ?_
    refine g_aload_n 0 dX4_rat_23 rfl rfl ?_
    refine g_getfi cf_5 0 rfl (by decide) (by decide) rfl (by decide) wf_X4_104 dX4_rat_24 (n2 (hM 20 rfl)) (fun h24_2 => ?_)
    refine g_top (y := 1) (gup_at _ _ _ _) ?_
    refine g_if_ne (tgt := 44) (by first | omega | (simp only [inB, cellB, decide_eq_true_eq, decide_eq_false_iff_not] at *; omega)) dX4_rat_27 (by decide) (fun h27_3 => ?_) (fun h27_3 => absurd h27_3 (by omega))
    refine g_aload_n 0 dX4_rat_44 rfl rfl ?_
    refine g_getfi cf_5 0 rfl (by decide) (by decide) rfl (by decide) wf_X4_104 dX4_rat_45 (n2 (hM 20 rfl)) (fun h45_4 => ?_)
    refine g_top (y := 1) (gup_at _ _ _ _) ?_
    refine g_if_le (tgt := 53) (by first | omega | (simp only [inB, cellB, decide_eq_true_eq, decide_eq_false_iff_not] at *; omega)) dX4_rat_48 (by decide) (fun h48_5 => absurd h48_5 (by omega)) (fun h48_5 => ?_)
    refine g_iconst dX4_rat_51 ?_
    exact g_iret dX4_rat_52 rfl (Nat.le_of_ble_eq_true rfl) (Nat.le_of_ble_eq_true rfl) (pr_i (by first | (rw [show ratE B p c = 0 from by simp only [ratE, inB, cellB, decide_eq_true_eq, decide_eq_false_iff_not] at *; grind]; first | (rw [if_pos rfl, if_neg (by omega)]) | (rw [if_pos rfl, if_pos (by omega)]) | (rw [if_pos rfl, ratR, if_neg (by omega)]) | (rw [if_pos rfl, ratR, if_pos (by omega)]) | rfl) | (rw [show ratE B p c = 1 from by simp only [ratE, inB, cellB, decide_eq_true_eq, decide_eq_false_iff_not] at *; grind]; rfl) | (rw [show ratE B p c = 2 from by simp only [ratE, inB, cellB, decide_eq_true_eq, decide_eq_false_iff_not] at *; grind]; rfl)) (by first | (rw [show ratE B p c = 0 from by simp only [ratE, inB, cellB, decide_eq_true_eq, decide_eq_false_iff_not] at *; grind]; first | (rw [if_pos rfl, if_neg (by omega)]) | (rw [if_pos rfl, if_pos (by omega)]) | (rw [if_pos rfl, ratR, if_neg (by omega)]) | (rw [if_pos rfl, ratR, if_pos (by omega)]) | rfl) | (rw [show ratE B p c = 1 from by simp only [ratE, inB, cellB, decide_eq_true_eq, decide_eq_false_iff_not] at *; grind]; rfl) | (rw [show ratE B p c = 2 from by simp only [ratE, inB, cellB, decide_eq_true_eq, decide_eq_false_iff_not] at *; grind]; rfl)))
  · skip
    refine g_iload_n 2 dX4_rat_8 rfl rfl ?_
    refine g_cS_i (My := mX4_isCell) (gs := [_]) (c_X4_isCell hc) mfX4_isCell rfl wst_X4_isCell wm_X4_121 dX4_rat_9 (Nat.le_of_ble_eq_true rfl) rfl (fun _ => Nat.le_of_ble_eq_true rfl) (Nat.le_of_ble_eq_true rfl) (Nat.le_of_ble_eq_true rfl) rfl rfl ?_
    refine g_ifb_eq (tgt := 19) dX4_rat_12 (by decide) (fun h12_6 => ?_) (fun h12_6 => ?_)
    · skip
      refine g_iconst dX4_rat_19 ?_
      refine g_putfi cf_5 0 rfl (by decide) (by decide) rfl (by decide) wf_X4_104 (Or.inl rfl) rfl dX4_rat_20 (n2 (hM 20 rfl)) (by first | omega | (simp only [inB, cellB, decide_eq_true_eq, decide_eq_false_iff_not] at *; omega)) ?_
      refine g_aload_n 0 dX4_rat_23 rfl rfl ?_
      refine g_getfi cf_5 0 rfl (by decide) (by decide) rfl (by decide) wf_X4_104 dX4_rat_24 (n2 (hM 20 rfl)) (fun h24_7 => ?_)
      refine g_top (y := 1) (gup_at _ _ _ _) ?_
      refine g_if_ne (tgt := 44) (by first | omega | (simp only [inB, cellB, decide_eq_true_eq, decide_eq_false_iff_not] at *; omega)) dX4_rat_27 (by decide) (fun h27_8 => ?_) (fun h27_8 => absurd h27_8 (by omega))
      refine g_aload_n 0 dX4_rat_44 rfl rfl ?_
      refine g_getfi cf_5 0 rfl (by decide) (by decide) rfl (by decide) wf_X4_104 dX4_rat_45 (n2 (hM 20 rfl)) (fun h45_9 => ?_)
      refine g_top (y := 1) (gup_at _ _ _ _) ?_
      refine g_if_le (tgt := 53) (by first | omega | (simp only [inB, cellB, decide_eq_true_eq, decide_eq_false_iff_not] at *; omega)) dX4_rat_48 (by decide) (fun h48_10 => absurd h48_10 (by omega)) (fun h48_10 => ?_)
      refine g_iconst dX4_rat_51 ?_
      exact g_iret dX4_rat_52 rfl (Nat.le_of_ble_eq_true rfl) (Nat.le_of_ble_eq_true rfl) (pr_i (by first | (rw [show ratE B p c = 0 from by simp only [ratE, inB, cellB, decide_eq_true_eq, decide_eq_false_iff_not] at *; grind]; first | (rw [if_pos rfl, if_neg (by omega)]) | (rw [if_pos rfl, if_pos (by omega)]) | (rw [if_pos rfl, ratR, if_neg (by omega)]) | (rw [if_pos rfl, ratR, if_pos (by omega)]) | rfl) | (rw [show ratE B p c = 1 from by simp only [ratE, inB, cellB, decide_eq_true_eq, decide_eq_false_iff_not] at *; grind]; rfl) | (rw [show ratE B p c = 2 from by simp only [ratE, inB, cellB, decide_eq_true_eq, decide_eq_false_iff_not] at *; grind]; rfl)) (by first | (rw [show ratE B p c = 0 from by simp only [ratE, inB, cellB, decide_eq_true_eq, decide_eq_false_iff_not] at *; grind]; first | (rw [if_pos rfl, if_neg (by omega)]) | (rw [if_pos rfl, if_pos (by omega)]) | (rw [if_pos rfl, ratR, if_neg (by omega)]) | (rw [if_pos rfl, ratR, if_pos (by omega)]) | rfl) | (rw [show ratE B p c = 1 from by simp only [ratE, inB, cellB, decide_eq_true_eq, decide_eq_false_iff_not] at *; grind]; rfl) | (rw [show ratE B p c = 2 from by simp only [ratE, inB, cellB, decide_eq_true_eq, decide_eq_false_iff_not] at *; grind]; rfl)))
    · skip
      refine g_iconst dX4_rat_15 ?_
      refine g_goto (tgt := 20) dX4_rat_16 (by decide) ?_
      refine g_putfi cf_5 0 rfl (by decide) (by decide) rfl (by decide) wf_X4_104 (Or.inl rfl) rfl dX4_rat_20 (n2 (hM 20 rfl)) (by first | omega | (simp only [inB, cellB, decide_eq_true_eq, decide_eq_false_iff_not] at *; omega)) ?_
      refine g_aload_n 0 dX4_rat_23 rfl rfl ?_
      refine g_getfi cf_5 0 rfl (by decide) (by decide) rfl (by decide) wf_X4_104 dX4_rat_24 (n2 (hM 20 rfl)) (fun h24_11 => ?_)
      refine g_top (y := 0) (gup_at _ _ _ _) ?_
      refine g_if_ne (tgt := 44) (by first | omega | (simp only [inB, cellB, decide_eq_true_eq, decide_eq_false_iff_not] at *; omega)) dX4_rat_27 (by decide) (fun h27_12 => absurd h27_12 (by omega)) (fun h27_12 => ?_)
      have hp1 : 0 ≤ p ∧ p < 8 := by simp only [inB, cellB, decide_eq_true_eq, decide_eq_false_iff_not] at *; omega
      have hc1 : 0 ≤ c ∧ c < 100 := by simp only [inB, cellB, decide_eq_true_eq, decide_eq_false_iff_not] at *; omega
      have r12 := congrFun (rl_st hR) c.toNat; have r14 := congrFun (rl_ca hR) c.toNat; have r15 := congrFun (rl_de hR) c.toNat; have r13 := rl_to hR c.toNat; have r16 := congrFun (rl_pr hR) c.toNat; have r17 := congrFun (rl_tr hR) c.toNat
      have g12 := hg.1 c.toNat; have g13 := hg.2.1 c.toNat; have g14 := hg.2.2.1 c.toNat; have g15 := hg.2.2.2.1 c.toNat; have g16 := hg.2.2.2.2.1 c.toNat; have g17 := hg.2.2.2.2.2 c.toNat
      have hR0 := rl_th hR 0; have s12 := congrFun (rl_st hR0) c.toNat; have s14 := congrFun (rl_ca hR0) c.toNat; have s15 := congrFun (rl_de hR0) c.toNat; have s13 := rl_to hR0 c.toNat; have s16 := congrFun (rl_pr hR0) c.toNat; have s17 := congrFun (rl_tr hR0) c.toNat
      have hpv := vc_p hV; have r42 := congrFun (rl_cg hR) p.toNat; have p42 := hpv.2.2.2.1 p.toNat
      refine g_aload_n 0 dX4_rat_30 rfl rfl ?_
      refine g_iload_n 1 dX4_rat_31 rfl rfl ?_
      refine g_iload_n 2 dX4_rat_32 rfl rfl ?_
      refine g_cV_i (My := mX4_canRat) (gs := [_, _]) (c_X4_canRat hM hV (rl_th hR _) hp1 hc1) mfX4_canRat cf_5 wi_X4_canRat wsl_X4_canRat wm_X4_196 dX4_rat_33 (Nat.le_of_ble_eq_true rfl) rfl (by decide) (n2 (hM 20 rfl)) rfl (fun _ => Nat.le_of_ble_eq_true rfl) (Nat.le_of_ble_eq_true rfl) (Nat.le_of_ble_eq_true rfl) rfl rfl ?_
      refine g_ifb_ne (tgt := 44) dX4_rat_36 (by decide) (fun h36_13 => ?_) (fun h36_13 => ?_)
      · skip
        refine g_aload_n 0 dX4_rat_44 rfl rfl ?_
        refine g_getfi cf_5 0 rfl (by decide) (by decide) rfl (by decide) wf_X4_104 dX4_rat_45 (n2 (hM 20 rfl)) (fun h45_14 => ?_)
        refine g_top (y := 0) (gup_at _ _ _ _) ?_
        refine g_if_le (tgt := 53) (by first | omega | (simp only [inB, cellB, decide_eq_true_eq, decide_eq_false_iff_not] at *; omega)) dX4_rat_48 (by decide) (fun h48_15 => ?_) (fun h48_15 => absurd h48_15 (by omega))
        have hnop : B 12 c.toNat ≠ 1 := by (have hdb := digB_eq B c; rw [opB_in hc1] at hdb; simp only [inB, cellB, decide_eq_true_eq, decide_eq_false_iff_not] at *; grind)
        refine g_aload_n 0 dX4_rat_53 rfl rfl ?_
        refine g_getfr2 (r := 28) cf_5 7 rfl (by decide) (by decide) rfl (by decide) wf_X4_26 dX4_rat_54 (hM 20 rfl) rfl ?_
        refine g_iload_n 2 dX4_rat_57 rfl rfl ?_
        refine g_iald (c.toNat) (by first | omega | (simp only [inB, cellB, decide_eq_true_eq, decide_eq_false_iff_not] at *; omega)) (by first | omega | (simp only [inB, cellB, decide_eq_true_eq, decide_eq_false_iff_not] at *; omega)) rfl (by decide) dX4_rat_58 (n2 (hM 28 rfl)) (fun h58_16 => ?_)
        refine g_iconst dX4_rat_59 ?_
        refine g_icmp_eq (tgt := 96) (by first | omega | (simp only [inB, cellB, decide_eq_true_eq, decide_eq_false_iff_not] at *; omega)) (by first | omega | (simp only [inB, cellB, decide_eq_true_eq, decide_eq_false_iff_not] at *; omega)) dX4_rat_60 (by decide) (fun h60_17 => ?_) (fun h60_17 => ?_)
        · skip
          refine g_aload_n 0 dX4_rat_96 rfl rfl ?_
          refine g_iload_n 2 dX4_rat_97 rfl rfl ?_
          refine g_iload_n 1 dX4_rat_98 rfl rfl ?_
          refine g_iconst dX4_rat_99 ?_
          refine g_cV_i (My := mX4_opens) (gs := [_, _, _]) (c_X4_opens (A := gup A 20 0 0) hM (fun z => by (simp only [gup_ap]; have := rl_pr hR; have h9 := hg.2.2.2.2.1 z; simp [this]; omega)) hc1 (p := p) (k := -1) (by omega) (by omega) (by simp only [gup_ap]; simp; omega) (by simp only [gup_ap]; simp; intro h9; have := iv_room hI hc1 (by omega); omega) (by simp only [gup_ap]; simp; rw [r16]; exact iv_p hI _ hnop)) mfX4_opens cf_5 wi_X4_opens wsl_X4_opens wm_X4_185 dX4_rat_100 (Nat.le_of_ble_eq_true rfl) rfl (by decide) (n2 (hM 20 rfl)) rfl (fun _ => Nat.le_of_ble_eq_true rfl) (Nat.le_of_ble_eq_true rfl) (Nat.le_of_ble_eq_true rfl) rfl rfl ?_
          refine g_top (y := A 24 c.toNat) (by simp [gup_ap]) ?_
          exact g_iret dX4_rat_103 rfl (Nat.le_of_ble_eq_true rfl) (Nat.le_of_ble_eq_true rfl) (pr_i (by first | (rw [show ratE B p c = 0 from by simp only [ratE, inB, cellB, decide_eq_true_eq, decide_eq_false_iff_not] at *; grind]; first | (rw [if_pos rfl, if_neg (by omega)]) | (rw [if_pos rfl, if_pos (by omega)]) | (rw [if_pos rfl, ratR, if_neg (by omega)]) | (rw [if_pos rfl, ratR, if_pos (by omega)]) | rfl) | (rw [show ratE B p c = 1 from by simp only [ratE, inB, cellB, decide_eq_true_eq, decide_eq_false_iff_not] at *; grind]; rfl) | (rw [show ratE B p c = 2 from by simp only [ratE, inB, cellB, decide_eq_true_eq, decide_eq_false_iff_not] at *; grind]; rfl)) (by first | (rw [show ratE B p c = 0 from by simp only [ratE, inB, cellB, decide_eq_true_eq, decide_eq_false_iff_not] at *; grind]; first | (rw [if_pos rfl, if_neg (by omega)]) | (rw [if_pos rfl, if_pos (by omega)]) | (rw [if_pos rfl, ratR, if_neg (by omega)]) | (rw [if_pos rfl, ratR, if_pos (by omega)]) | rfl) | (rw [show ratE B p c = 1 from by simp only [ratE, inB, cellB, decide_eq_true_eq, decide_eq_false_iff_not] at *; grind]; rfl) | (rw [show ratE B p c = 2 from by simp only [ratE, inB, cellB, decide_eq_true_eq, decide_eq_false_iff_not] at *; grind]; rfl)))
        · skip
          refine g_aload_n 0 dX4_rat_63 rfl rfl ?_
          refine g_getfr2 (r := 28) cf_5 7 rfl (by decide) (by decide) rfl (by decide) wf_X4_26 dX4_rat_64 (hM 20 rfl) rfl ?_
          refine g_iload_n 2 dX4_rat_67 rfl rfl ?_
          refine g_iconst dX4_rat_68 ?_
          refine g_iast (c.toNat) (by first | omega | (simp only [inB, cellB, decide_eq_true_eq, decide_eq_false_iff_not] at *; omega)) (by first | omega | (simp only [inB, cellB, decide_eq_true_eq, decide_eq_false_iff_not] at *; omega)) (by first | omega | (simp only [inB, cellB, decide_eq_true_eq, decide_eq_false_iff_not] at *; omega)) rfl (by decide) dX4_rat_69 (n2 (hM 28 rfl)) ?_
          refine g_aload_n 0 dX4_rat_70 rfl rfl ?_
          refine g_getfr2 (r := 40) cf_5 19 rfl (by decide) (by decide) rfl (by decide) wf_X4_59 dX4_rat_71 (hM 20 rfl) rfl ?_
          refine g_iload_n 1 dX4_rat_74 rfl rfl ?_
          refine g_aload_n 0 dX4_rat_75 rfl rfl ?_
          refine g_getfi cf_5 1 rfl (by decide) (by decide) rfl (by decide) wf_X4_118 dX4_rat_76 (n2 (hM 20 rfl)) (fun h76_18 => ?_)
          refine g_top (y := A 20 1) (by simp [gup_ap]) ?_
          refine g_sipush dX4_rat_79 (by decide) ?_
          refine g_iadd dX4_rat_82 ?_
          refine g_iast (p.toNat) (by first | omega | (simp only [inB, cellB, decide_eq_true_eq, decide_eq_false_iff_not] at *; omega)) (by first | omega | (simp only [inB, cellB, decide_eq_true_eq, decide_eq_false_iff_not] at *; omega)) (by first | omega | (simp only [inB, cellB, decide_eq_true_eq, decide_eq_false_iff_not] at *; omega)) rfl (by decide) dX4_rat_83 (n2 (hM 40 rfl)) ?_
          refine g_aload_n 0 dX4_rat_84 rfl rfl ?_
          refine g_getfr2 (r := 42) cf_5 21 rfl (by decide) (by decide) rfl (by decide) wf_X4_65 dX4_rat_85 (hM 20 rfl) rfl ?_
          refine g_iload_n 1 dX4_rat_88 rfl rfl ?_
          refine g_dup2 dX4_rat_89 (c1_i _) (c1_r _) ?_
          refine g_iald (p.toNat) (by first | omega | (simp only [inB, cellB, decide_eq_true_eq, decide_eq_false_iff_not] at *; omega)) (by first | omega | (simp only [inB, cellB, decide_eq_true_eq, decide_eq_false_iff_not] at *; omega)) rfl (by decide) dX4_rat_90 (n2 (hM 42 rfl)) (fun h90_19 => ?_)
          refine g_top (y := A 42 p.toNat) (by simp [gup_ap]) ?_
          refine g_iconst dX4_rat_91 ?_
          refine g_iadd dX4_rat_92 ?_
          refine g_iast (p.toNat) (by first | omega | (simp only [inB, cellB, decide_eq_true_eq, decide_eq_false_iff_not] at *; omega)) (by first | omega | (simp only [inB, cellB, decide_eq_true_eq, decide_eq_false_iff_not] at *; omega)) (by first | omega | (simp only [inB, cellB, decide_eq_true_eq, decide_eq_false_iff_not] at *; omega)) rfl (by decide) dX4_rat_93 (n2 (hM 42 rfl)) ?_
          refine g_iconst dX4_rat_94 ?_
          exact g_iret dX4_rat_95 rfl (Nat.le_of_ble_eq_true rfl) (Nat.le_of_ble_eq_true rfl) (pr_i (by first | (rw [show ratE B p c = 0 from by simp only [ratE, inB, cellB, decide_eq_true_eq, decide_eq_false_iff_not] at *; grind]; first | (rw [if_pos rfl, if_neg (by omega)]) | (rw [if_pos rfl, if_pos (by omega)]) | (rw [if_pos rfl, ratR, if_neg (by omega)]) | (rw [if_pos rfl, ratR, if_pos (by omega)]) | rfl) | (rw [show ratE B p c = 1 from by simp only [ratE, inB, cellB, decide_eq_true_eq, decide_eq_false_iff_not] at *; grind]; rfl) | (rw [show ratE B p c = 2 from by simp only [ratE, inB, cellB, decide_eq_true_eq, decide_eq_false_iff_not] at *; grind]; rfl)) (by first | (rw [show ratE B p c = 0 from by simp only [ratE, inB, cellB, decide_eq_true_eq, decide_eq_false_iff_not] at *; grind]; first | (rw [if_pos rfl, if_neg (by omega)]) | (rw [if_pos rfl, if_pos (by omega)]) | (rw [if_pos rfl, ratR, if_neg (by omega)]) | (rw [if_pos rfl, ratR, if_pos (by omega)]) | rfl) | (rw [show ratE B p c = 1 from by simp only [ratE, inB, cellB, decide_eq_true_eq, decide_eq_false_iff_not] at *; grind]; rfl) | (rw [show ratE B p c = 2 from by simp only [ratE, inB, cellB, decide_eq_true_eq, decide_eq_false_iff_not] at *; grind]; rfl)))
      · skip
        refine g_aload_n 0 dX4_rat_39 rfl rfl ?_
        refine g_iconst dX4_rat_40 ?_
        refine g_putfi cf_5 0 rfl (by decide) (by decide) rfl (by decide) wf_X4_104 (Or.inl rfl) rfl dX4_rat_41 (n2 (hM 20 rfl)) (by first | omega | (simp only [inB, cellB, decide_eq_true_eq, decide_eq_false_iff_not] at *; omega)) ?_
        refine g_ls (A2 := gup A 20 0 2) rfl rfl (gup_tw _ _ _ _ _) ?_
        refine g_aload_n 0 dX4_rat_44 rfl rfl ?_
        refine g_getfi cf_5 0 rfl (by decide) (by decide) rfl (by decide) wf_X4_104 dX4_rat_45 (n2 (hM 20 rfl)) (fun h45_20 => ?_)
        refine g_top (y := 2) (gup_at _ _ _ _) ?_
        refine g_if_le (tgt := 53) (by first | omega | (simp only [inB, cellB, decide_eq_true_eq, decide_eq_false_iff_not] at *; omega)) dX4_rat_48 (by decide) (fun h48_21 => absurd h48_21 (by omega)) (fun h48_21 => ?_)
        refine g_iconst dX4_rat_51 ?_
        exact g_iret dX4_rat_52 rfl (Nat.le_of_ble_eq_true rfl) (Nat.le_of_ble_eq_true rfl) (pr_i (by first | (rw [show ratE B p c = 0 from by simp only [ratE, inB, cellB, decide_eq_true_eq, decide_eq_false_iff_not] at *; grind]; first | (rw [if_pos rfl, if_neg (by omega)]) | (rw [if_pos rfl, if_pos (by omega)]) | (rw [if_pos rfl, ratR, if_neg (by omega)]) | (rw [if_pos rfl, ratR, if_pos (by omega)]) | rfl) | (rw [show ratE B p c = 1 from by simp only [ratE, inB, cellB, decide_eq_true_eq, decide_eq_false_iff_not] at *; grind]; rfl) | (rw [show ratE B p c = 2 from by simp only [ratE, inB, cellB, decide_eq_true_eq, decide_eq_false_iff_not] at *; grind]; rfl)) (by first | (rw [show ratE B p c = 0 from by simp only [ratE, inB, cellB, decide_eq_true_eq, decide_eq_false_iff_not] at *; grind]; first | (rw [if_pos rfl, if_neg (by omega)]) | (rw [if_pos rfl, if_pos (by omega)]) | (rw [if_pos rfl, ratR, if_neg (by omega)]) | (rw [if_pos rfl, ratR, if_pos (by omega)]) | rfl) | (rw [show ratE B p c = 1 from by simp only [ratE, inB, cellB, decide_eq_true_eq, decide_eq_false_iff_not] at *; grind]; rfl) | (rw [show ratE B p c = 2 from by simp only [ratE, inB, cellB, decide_eq_true_eq, decide_eq_false_iff_not] at *; grind]; rfl)))

set_option maxRecDepth 20000 in
theorem c_X4_isIn {L : Nat → Nat} {A B : Mem} (hM : LM L) (hV : VC L B) (hR : Rel B A) (hI : IV B) {s : Nat} (hs : (s : Int) < B 3 2) {k : Int} (hk : -2147483648 ≤ k ∧ k < 2147483648) : Ct mX4_isIn [gr 20, gi (s : Int), gi k] L A (pr (some (gi (b2 (inpC B k s)))) L A) := by
  have hnc := vc_nc hV; have hns := vc_ns hV; have hp0 := (vc_p hV).1
  have rnow := rl_now hR; have rnc := rl_nc hR; have rns := rl_ns hR
  have rs := rl_s hR hs; have hsv := vc_sv hV hs; have his := iv_s hI hs
  have e1 := rs.2.2.2.2.1; have e2 := rs.2.2.2.1; have e3 := his.1
  refine Ct_of (ls := [(0, _), (1, _), (2, _)]) rfl (by decide) (fun _ => rfl) (fun _ => Nat.le_of_ble_eq_true rfl) ?_
  refine g_aload_n 0 dX4_isIn_0 rfl rfl ?_
  refine g_getfr2 (r := 49) cf_5 28 rfl (by decide) (by decide) rfl (by decide) wf_X4_83 dX4_isIn_1 (hM 20 rfl) rfl ?_
  refine g_iload_n 1 dX4_isIn_4 rfl rfl ?_
  refine g_iald (s) (by omega) (by omega) rfl (by decide) dX4_isIn_5 (n2 (hM 49 rfl)) (fun h5_1 => ?_)
  refine g_iload_n 2 dX4_isIn_6 rfl rfl ?_
  refine g_icmp_ne (tgt := 24) (by omega) (by omega) dX4_isIn_7 (by decide) (fun h7_2 => ?_) (fun h7_2 => ?_)
  · skip
    refine g_iconst dX4_isIn_24 ?_
    exact g_zret dX4_isIn_25 rfl (Or.inl rfl) (Nat.le_of_ble_eq_true rfl) (Nat.le_of_ble_eq_true rfl) (pr_i (b2_0 (by unfold inpC inpB plcC; grind)) (rfl))
  · skip
    refine g_aload_n 0 dX4_isIn_10 rfl rfl ?_
    refine g_getfr2 (r := 48) cf_5 27 rfl (by decide) (by decide) rfl (by decide) wf_X4_80 dX4_isIn_11 (hM 20 rfl) rfl ?_
    refine g_iload_n 1 dX4_isIn_14 rfl rfl ?_
    refine g_iald (s) (by omega) (by omega) rfl (by decide) dX4_isIn_15 (n2 (hM 48 rfl)) (fun h15_3 => ?_)
    refine g_iconst dX4_isIn_16 ?_
    refine g_icmp_ne (tgt := 24) (by omega) (by omega) dX4_isIn_17 (by decide) (fun h17_4 => ?_) (fun h17_4 => ?_)
    · skip
      refine g_iconst dX4_isIn_24 ?_
      exact g_zret dX4_isIn_25 rfl (Or.inl rfl) (Nat.le_of_ble_eq_true rfl) (Nat.le_of_ble_eq_true rfl) (pr_i (b2_0 (by unfold inpC inpB plcC; grind)) (rfl))
    · skip
      refine g_iconst dX4_isIn_20 ?_
      refine g_goto (tgt := 25) dX4_isIn_21 (by decide) ?_
      exact g_zret dX4_isIn_25 rfl (Or.inr rfl) (Nat.le_of_ble_eq_true rfl) (Nat.le_of_ble_eq_true rfl) (pr_i (b2_1 (by unfold inpC inpB plcC; grind)) (rfl))

set_option maxRecDepth 20000 in
theorem c_X4_parcel {L : Nat → Nat} {A B : Mem} (hM : LM L) (hV : VC L B) (hR : Rel B A) (hI : IV B) {k : Int} (hk : -2147483648 ≤ k ∧ k < 2147483648) : Ct mX4_parcel [gr 20, gi k] L A (pr (some (gi (cntF (inpC B k) (B 3 2).toNat))) L A) := by
  have hnc := vc_nc hV; have hns := vc_ns hV; have hp0 := (vc_p hV).1
  have rnow := rl_now hR; have rnc := rl_nc hR; have rns := rl_ns hR
  refine Ct_of (ls := [(0, _), (1, _)]) rfl (by decide) (fun _ => rfl) (fun _ => Nat.le_of_ble_eq_true rfl) ?_
  refine g_iconst dX4_parcel_0 ?_
  refine g_st (ls2 := [(2, _), (0, _), (1, _)]) dX4_parcel_1 rfl (by decide) (c1_cr (c1_ci c1_0)) rfl ?_
  refine g_iconst dX4_parcel_2 ?_
  refine g_st (ls2 := [(3, _), (2, _), (0, _), (1, _)]) dX4_parcel_3 rfl (by decide) (c1_ci (c1_cr (c1_ci c1_0))) rfl ?_
  refine g_sub [2, 3, 1, 0] (ls2 := [(0, _), (1, _), (2, _), (3, _)]) rfl ?_
  have hQ4 : (fun i : Nat => GW mX4_parcel (pr (some (gi (cntF (inpC B k) (B 3 2).toNat))) L A) 0 0 4 [(0, gr (20)), (1, gi (k)), (2, gi (cntF (inpC B k) i)), (3, gi ((i : Int)))] [] L (A)) 0 := by
    refine lp_up (Q := (fun i : Nat => GW mX4_parcel (pr (some (gi (cntF (inpC B k) (B 3 2).toNat))) L A) 0 0 4 [(0, gr (20)), (1, gi (k)), (2, gi (cntF (inpC B k) i)), (3, gi ((i : Int)))] [] L (A))) (n := (B 3 2).toNat) ?_ (fun i hi4 ih4 => ?_)
    · skip
      refine g_iload_n 3 dX4_parcel_4 rfl rfl ?_
      refine g_aload_n 0 dX4_parcel_5 rfl rfl ?_
      refine g_getfi cf_5 23 rfl (by decide) (by decide) rfl (by decide) wf_X4_115 dX4_parcel_6 (n2 (hM 20 rfl)) (fun h6_1 => ?_)
      refine g_icmp_ge (tgt := 35) (by omega) (by omega) dX4_parcel_9 (by decide) (fun h9_2 => ?_) (fun h9_2 => absurd h9_2 (by omega))
      refine g_iload_n 2 dX4_parcel_35 rfl rfl ?_
      exact g_iret dX4_parcel_36 rfl (Nat.le_of_ble_eq_true rfl) (Nat.le_of_ble_eq_true rfl) (pr_i (rfl) (rfl))
    · skip
      refine g_iload_n 3 dX4_parcel_4 rfl rfl ?_
      refine g_aload_n 0 dX4_parcel_5 rfl rfl ?_
      refine g_getfi cf_5 23 rfl (by decide) (by decide) rfl (by decide) wf_X4_115 dX4_parcel_6 (n2 (hM 20 rfl)) (fun h6_3 => ?_)
      refine g_icmp_ge (tgt := 35) (by omega) (by omega) dX4_parcel_9 (by decide) (fun h9_4 => absurd h9_4 (by omega)) (fun h9_4 => ?_)
      refine g_iload_n 2 dX4_parcel_12 rfl rfl ?_
      refine g_aload_n 0 dX4_parcel_13 rfl rfl ?_
      refine g_iload_n 3 dX4_parcel_14 rfl rfl ?_
      refine g_iload_n 1 dX4_parcel_15 rfl rfl ?_
      refine g_cV_i (My := mX4_isIn) (gs := [_, _]) (c_X4_isIn hM hV hR hI (s := i) (by omega) hk) mfX4_isIn cf_5 wi_X4_isIn wsl_X4_isIn wm_X4_199 dX4_parcel_16 (Nat.le_of_ble_eq_true rfl) rfl (by decide) (n2 (hM 20 rfl)) rfl (fun _ => Nat.le_of_ble_eq_true rfl) (Nat.le_of_ble_eq_true rfl) (Nat.le_of_ble_eq_true rfl) rfl rfl ?_
      refine g_ifb_eq (tgt := 26) dX4_parcel_19 (by decide) (fun h19_5 => ?_) (fun h19_5 => ?_)
      · skip
        refine g_iconst dX4_parcel_26 ?_
        refine g_iadd dX4_parcel_27 ?_
        refine g_st (ls2 := [(2, _), (0, _), (1, _), (3, _)]) dX4_parcel_28 rfl (by decide) (c1_cr (c1_ci (c1_ci (c1_ci c1_0)))) rfl ?_
        refine g_inc (ls2 := [(3, _), (2, _), (0, _), (1, _)]) 3 dX4_parcel_29 rfl (by decide) (c1_ci (c1_cr (c1_ci (c1_ci c1_0)))) rfl ?_
        refine g_goto (tgt := 4) dX4_parcel_32 (by decide) ?_
        refine g_sub [2, 3, 1, 0] (ls2 := [(0, _), (1, _), (2, _), (3, _)]) rfl ?_
        exact g_ls (by simp only [cntF]; simp [*, b2]) rfl rfl ih4
      · skip
        refine g_iconst dX4_parcel_22 ?_
        refine g_goto (tgt := 27) dX4_parcel_23 (by decide) ?_
        refine g_iadd dX4_parcel_27 ?_
        refine g_st (ls2 := [(2, _), (0, _), (1, _), (3, _)]) dX4_parcel_28 rfl (by decide) (c1_cr (c1_ci (c1_ci (c1_ci c1_0)))) rfl ?_
        refine g_inc (ls2 := [(3, _), (2, _), (0, _), (1, _)]) 3 dX4_parcel_29 rfl (by decide) (c1_ci (c1_cr (c1_ci (c1_ci c1_0)))) rfl ?_
        refine g_goto (tgt := 4) dX4_parcel_32 (by decide) ?_
        refine g_sub [2, 3, 1, 0] (ls2 := [(0, _), (1, _), (2, _), (3, _)]) rfl ?_
        exact g_ls (by simp only [cntF]; simp [*, b2]) rfl rfl ih4
  exact g_ls (by rfl) rfl rfl hQ4

/-- the greatest of a parcel's first n stones, by the reference -/
def grF (inp : Nat → Bool) (w : Nat → Int) : Nat → Int
  | 0 => -1
  | n + 1 => if inp n = true ∧ (grF inp w n = -1 ∨ w (grF inp w n).toNat < w n) then n else grF inp w n
theorem grF_rg (inp : Nat → Bool) (w : Nat → Int) (n : Nat) : -1 ≤ grF inp w n ∧ grF inp w n < n := by
  induction n with
  | zero => simp [grF]
  | succ n ih => simp only [grF]; split <;> omega

set_option maxHeartbeats 1000000 in
set_option maxRecDepth 20000 in
theorem c_X4_greatest {L : Nat → Nat} {A B : Mem} (hM : LM L) (hV : VC L B) (hR : Rel B A) (hI : IV B) {k : Int} (hk : -2147483648 ≤ k ∧ k < 2147483648) : Ct mX4_greatest [gr 20, gi k] L A (pr (some (gi (grF (inpC B k) (fun s => B (200 + 3 * s) 3) (B 3 2).toNat))) L A) := by
  have hnc := vc_nc hV; have hns := vc_ns hV; have hp0 := (vc_p hV).1
  have rnow := rl_now hR; have rnc := rl_nc hR; have rns := rl_ns hR
  refine Ct_of (ls := [(0, _), (1, _)]) rfl (by decide) (fun _ => rfl) (fun _ => Nat.le_of_ble_eq_true rfl) ?_
  refine g_iconst dX4_greatest_0 ?_
  refine g_st (ls2 := [(2, _), (0, _), (1, _)]) dX4_greatest_1 rfl (by decide) (c1_cr (c1_ci c1_0)) rfl ?_
  refine g_iconst dX4_greatest_2 ?_
  refine g_st (ls2 := [(3, _), (2, _), (0, _), (1, _)]) dX4_greatest_3 rfl (by decide) (c1_ci (c1_cr (c1_ci c1_0))) rfl ?_
  refine g_sub [2, 3, 1, 0] (ls2 := [(0, _), (1, _), (2, _), (3, _)]) rfl ?_
  have hQ4 : (fun i : Nat => GW mX4_greatest (pr (some (gi (grF (inpC B k) (fun s => B (200 + 3 * s) 3) (B 3 2).toNat))) L A) 0 0 4 [(0, gr (20)), (1, gi (k)), (2, gi (grF (inpC B k) (fun s => B (200 + 3 * s) 3) i)), (3, gi ((i : Int)))] [] L (A)) 0 := by
    refine lp_up (Q := (fun i : Nat => GW mX4_greatest (pr (some (gi (grF (inpC B k) (fun s => B (200 + 3 * s) 3) (B 3 2).toNat))) L A) 0 0 4 [(0, gr (20)), (1, gi (k)), (2, gi (grF (inpC B k) (fun s => B (200 + 3 * s) 3) i)), (3, gi ((i : Int)))] [] L (A))) (n := (B 3 2).toNat) ?_ (fun i hi4 ih4 => ?_)
    · skip
      refine g_iload_n 3 dX4_greatest_4 rfl rfl ?_
      refine g_aload_n 0 dX4_greatest_5 rfl rfl ?_
      refine g_getfi cf_5 23 rfl (by decide) (by decide) rfl (by decide) wf_X4_115 dX4_greatest_6 (n2 (hM 20 rfl)) (fun h6_1 => ?_)
      refine g_icmp_ge (tgt := 53) (by omega) (by omega) dX4_greatest_9 (by decide) (fun h9_2 => ?_) (fun h9_2 => absurd h9_2 (by omega))
      refine g_iload_n 2 dX4_greatest_53 rfl rfl ?_
      exact g_iret dX4_greatest_54 rfl (Nat.le_of_ble_eq_true rfl) (Nat.le_of_ble_eq_true rfl) (pr_i (rfl) (rfl))
    · skip
      have hrr := grF_rg (inpC B k) (fun s => B (200 + 3 * s) 3) i
      have hs : (i : Int) < B 3 2 := by omega
      have rs := rl_s hR hs; have hsv := vc_sv hV hs; have his := iv_s hI hs
      have e1 := rs.1
      refine g_iload_n 3 dX4_greatest_4 rfl rfl ?_
      refine g_aload_n 0 dX4_greatest_5 rfl rfl ?_
      refine g_getfi cf_5 23 rfl (by decide) (by decide) rfl (by decide) wf_X4_115 dX4_greatest_6 (n2 (hM 20 rfl)) (fun h6_3 => ?_)
      refine g_icmp_ge (tgt := 53) (by omega) (by omega) dX4_greatest_9 (by decide) (fun h9_4 => absurd h9_4 (by omega)) (fun h9_4 => ?_)
      refine g_aload_n 0 dX4_greatest_12 rfl rfl ?_
      refine g_iload_n 3 dX4_greatest_13 rfl rfl ?_
      refine g_iload_n 1 dX4_greatest_14 rfl rfl ?_
      refine g_cV_i (My := mX4_isIn) (gs := [_, _]) (c_X4_isIn hM hV hR hI (s := i) (by omega) hk) mfX4_isIn cf_5 wi_X4_isIn wsl_X4_isIn wm_X4_199 dX4_greatest_15 (Nat.le_of_ble_eq_true rfl) rfl (by decide) (n2 (hM 20 rfl)) rfl (fun _ => Nat.le_of_ble_eq_true rfl) (Nat.le_of_ble_eq_true rfl) (Nat.le_of_ble_eq_true rfl) rfl rfl ?_
      refine g_ifb_eq (tgt := 45) dX4_greatest_18 (by decide) (fun h18_5 => ?_) (fun h18_5 => ?_)
      · skip
        refine g_iload_n 2 dX4_greatest_45 rfl rfl ?_
        refine g_st (ls2 := [(2, _), (0, _), (1, _), (3, _)]) dX4_greatest_46 rfl (by decide) (c1_cr (c1_ci (c1_ci (c1_ci c1_0)))) rfl ?_
        refine g_inc (ls2 := [(3, _), (2, _), (0, _), (1, _)]) 3 dX4_greatest_47 rfl (by decide) (c1_ci (c1_cr (c1_ci (c1_ci c1_0)))) rfl ?_
        refine g_goto (tgt := 4) dX4_greatest_50 (by decide) ?_
        refine g_sub [2, 3, 1, 0] (ls2 := [(0, _), (1, _), (2, _), (3, _)]) rfl ?_
        exact g_ls (by simp only [grF]; grind) rfl rfl ih4
      · skip
        refine g_iload_n 2 dX4_greatest_21 rfl rfl ?_
        refine g_iconst dX4_greatest_22 ?_
        refine g_icmp_eq (tgt := 41) (by omega) (by omega) dX4_greatest_23 (by decide) (fun h23_6 => ?_) (fun h23_6 => ?_)
        · skip
          refine g_iload_n 3 dX4_greatest_41 rfl rfl ?_
          refine g_goto (tgt := 46) dX4_greatest_42 (by decide) ?_
          refine g_st (ls2 := [(2, _), (0, _), (1, _), (3, _)]) dX4_greatest_46 rfl (by decide) (c1_cr (c1_ci (c1_ci (c1_ci c1_0)))) rfl ?_
          refine g_inc (ls2 := [(3, _), (2, _), (0, _), (1, _)]) 3 dX4_greatest_47 rfl (by decide) (c1_ci (c1_cr (c1_ci (c1_ci c1_0)))) rfl ?_
          refine g_goto (tgt := 4) dX4_greatest_50 (by decide) ?_
          refine g_sub [2, 3, 1, 0] (ls2 := [(0, _), (1, _), (2, _), (3, _)]) rfl ?_
          exact g_ls (by simp only [grF]; grind) rfl rfl ih4
        · skip
          have e2 := (rl_s hR (show (((grF (inpC B k) (fun s => B (200 + 3 * s) 3) i).toNat : Nat) : Int) < B 3 2 by omega)).1
          refine g_aload_n 0 dX4_greatest_26 rfl rfl ?_
          refine g_getfr2 (r := 45) cf_5 24 rfl (by decide) (by decide) rfl (by decide) wf_X4_71 dX4_greatest_27 (hM 20 rfl) rfl ?_
          refine g_iload_n 3 dX4_greatest_30 rfl rfl ?_
          refine g_iald (i) (by omega) (by omega) rfl (by decide) dX4_greatest_31 (n2 (hM 45 rfl)) (fun h31_7 => ?_)
          refine g_aload_n 0 dX4_greatest_32 rfl rfl ?_
          refine g_getfr2 (r := 45) cf_5 24 rfl (by decide) (by decide) rfl (by decide) wf_X4_71 dX4_greatest_33 (hM 20 rfl) rfl ?_
          refine g_iload_n 2 dX4_greatest_36 rfl rfl ?_
          refine g_iald ((grF (inpC B k) (fun s => B (200 + 3 * s) 3) i).toNat) (by omega) (by omega) rfl (by decide) dX4_greatest_37 (n2 (hM 45 rfl)) (fun h37_8 => ?_)
          refine g_icmp_le (tgt := 45) (by omega) (by omega) dX4_greatest_38 (by decide) (fun h38_9 => ?_) (fun h38_9 => ?_)
          · skip
            refine g_iload_n 2 dX4_greatest_45 rfl rfl ?_
            refine g_st (ls2 := [(2, _), (0, _), (1, _), (3, _)]) dX4_greatest_46 rfl (by decide) (c1_cr (c1_ci (c1_ci (c1_ci c1_0)))) rfl ?_
            refine g_inc (ls2 := [(3, _), (2, _), (0, _), (1, _)]) 3 dX4_greatest_47 rfl (by decide) (c1_ci (c1_cr (c1_ci (c1_ci c1_0)))) rfl ?_
            refine g_goto (tgt := 4) dX4_greatest_50 (by decide) ?_
            refine g_sub [2, 3, 1, 0] (ls2 := [(0, _), (1, _), (2, _), (3, _)]) rfl ?_
            exact g_ls (by simp only [grF]; grind) rfl rfl ih4
          · skip
            refine g_iload_n 3 dX4_greatest_41 rfl rfl ?_
            refine g_goto (tgt := 46) dX4_greatest_42 (by decide) ?_
            refine g_st (ls2 := [(2, _), (0, _), (1, _), (3, _)]) dX4_greatest_46 rfl (by decide) (c1_cr (c1_ci (c1_ci (c1_ci c1_0)))) rfl ?_
            refine g_inc (ls2 := [(3, _), (2, _), (0, _), (1, _)]) 3 dX4_greatest_47 rfl (by decide) (c1_ci (c1_cr (c1_ci (c1_ci c1_0)))) rfl ?_
            refine g_goto (tgt := 4) dX4_greatest_50 (by decide) ?_
            refine g_sub [2, 3, 1, 0] (ls2 := [(0, _), (1, _), (2, _), (3, _)]) rfl ?_
            exact g_ls (by simp only [grF]; grind) rfl rfl ih4
  exact g_ls (by rfl) rfl rfl hQ4

set_option maxRecDepth 20000 in
theorem c_X4_isInParcel {L : Nat → Nat} {A B : Mem} (hM : LM L) (hV : VC L B) (hR : Rel B A) {s : Nat} (hs : (s : Int) < B 3 2) : Ct mX4_isInParcel [gr 20, gi (s : Int)] L A (pr (some (gi (b2 (decide (B (200 + 3 * s) 6 = -1))))) L A) := by
  have hnc := vc_nc hV; have hns := vc_ns hV; have hp0 := (vc_p hV).1
  have rnow := rl_now hR; have rnc := rl_nc hR; have rns := rl_ns hR
  have rs := rl_s hR hs; have hsv := vc_sv hV hs
  have e2 := rs.2.2.2.1
  refine Ct_of (ls := [(0, _), (1, _)]) rfl (by decide) (fun _ => rfl) (fun _ => Nat.le_of_ble_eq_true rfl) ?_
  refine g_aload_n 0 dX4_isInParcel_0 rfl rfl ?_
  refine g_getfr2 (r := 48) cf_5 27 rfl (by decide) (by decide) rfl (by decide) wf_X4_80 dX4_isInParcel_1 (hM 20 rfl) rfl ?_
  refine g_iload_n 1 dX4_isInParcel_4 rfl rfl ?_
  refine g_iald (s) (by omega) (by omega) rfl (by decide) dX4_isInParcel_5 (n2 (hM 48 rfl)) (fun h5_1 => ?_)
  refine g_iconst dX4_isInParcel_6 ?_
  refine g_icmp_ne (tgt := 14) (by omega) (by omega) dX4_isInParcel_7 (by decide) (fun h7_2 => ?_) (fun h7_2 => ?_)
  · skip
    refine g_iconst dX4_isInParcel_14 ?_
    exact g_zret dX4_isInParcel_15 rfl (Or.inl rfl) (Nat.le_of_ble_eq_true rfl) (Nat.le_of_ble_eq_true rfl) (pr_i (b2_0 (by grind)) (rfl))
  · skip
    refine g_iconst dX4_isInParcel_10 ?_
    refine g_goto (tgt := 15) dX4_isInParcel_11 (by decide) ?_
    exact g_zret dX4_isInParcel_15 rfl (Or.inr rfl) (Nat.le_of_ble_eq_true rfl) (Nat.le_of_ble_eq_true rfl) (pr_i (b2_1 (by grind)) (rfl))

set_option maxRecDepth 20000 in
theorem c_X4_looks {L : Nat → Nat} {A B : Mem} (hM : LM L) (hV : VC L B) (hR : Rel B A) {s : Nat} (hs : (s : Int) < B 3 2) : Ct mX4_looks [gr 20, gi (s : Int)] L A (pr (some (gi (lusC (B (200 + 3 * s) 5) (B (200 + 3 * s) 1)))) L A) := by
  have hnc := vc_nc hV; have hns := vc_ns hV; have hp0 := (vc_p hV).1
  have rnow := rl_now hR; have rnc := rl_nc hR; have rns := rl_ns hR
  have rs := rl_s hR hs; have hsv := vc_sv hV hs
  have e1 := rs.2.1; have e2 := rs.2.2.1; have e3 := hsv.2.1
  refine Ct_of (ls := [(0, _), (1, _)]) rfl (by decide) (fun _ => rfl) (fun _ => Nat.le_of_ble_eq_true rfl) ?_
  refine g_aload_n 0 dX4_looks_0 rfl rfl ?_
  refine g_getfr2 (r := 47) cf_5 26 rfl (by decide) (by decide) rfl (by decide) wf_X4_77 dX4_looks_1 (hM 20 rfl) rfl ?_
  refine g_iload_n 1 dX4_looks_4 rfl rfl ?_
  refine g_iald (s) (by omega) (by omega) rfl (by decide) dX4_looks_5 (n2 (hM 47 rfl)) (fun h5_1 => ?_)
  refine g_aload_n 0 dX4_looks_6 rfl rfl ?_
  refine g_getfr2 (r := 46) cf_5 25 rfl (by decide) (by decide) rfl (by decide) wf_X4_74 dX4_looks_7 (hM 20 rfl) rfl ?_
  refine g_iload_n 1 dX4_looks_10 rfl rfl ?_
  refine g_iald (s) (by omega) (by omega) rfl (by decide) dX4_looks_11 (n2 (hM 46 rfl)) (fun h11_2 => ?_)
  refine g_icmp_ge (tgt := 19) (by omega) (by omega) dX4_looks_12 (by decide) (fun h12_3 => ?_) (fun h12_3 => ?_)
  · skip
    refine g_aload_n 0 dX4_looks_19 rfl rfl ?_
    refine g_getfr2 (r := 47) cf_5 26 rfl (by decide) (by decide) rfl (by decide) wf_X4_77 dX4_looks_20 (hM 20 rfl) rfl ?_
    refine g_iload_n 1 dX4_looks_23 rfl rfl ?_
    refine g_iald (s) (by omega) (by omega) rfl (by decide) dX4_looks_24 (n2 (hM 47 rfl)) (fun h24_4 => ?_)
    refine g_aload_n 0 dX4_looks_25 rfl rfl ?_
    refine g_getfr2 (r := 46) cf_5 25 rfl (by decide) (by decide) rfl (by decide) wf_X4_74 dX4_looks_26 (hM 20 rfl) rfl ?_
    refine g_iload_n 1 dX4_looks_29 rfl rfl ?_
    refine g_iald (s) (by omega) (by omega) rfl (by decide) dX4_looks_30 (n2 (hM 46 rfl)) (fun h30_5 => ?_)
    refine g_iconst dX4_looks_31 ?_
    refine g_iadd dX4_looks_32 ?_
    refine g_icmp_gt (tgt := 40) (by omega) (by omega) dX4_looks_33 (by decide) (fun h33_6 => ?_) (fun h33_6 => ?_)
    · skip
      refine g_iconst dX4_looks_40 ?_
      exact g_iret dX4_looks_41 rfl (Nat.le_of_ble_eq_true rfl) (Nat.le_of_ble_eq_true rfl) (pr_i (by unfold lusC; grind) (rfl))
    · skip
      refine g_iconst dX4_looks_36 ?_
      refine g_goto (tgt := 41) dX4_looks_37 (by decide) ?_
      exact g_iret dX4_looks_41 rfl (Nat.le_of_ble_eq_true rfl) (Nat.le_of_ble_eq_true rfl) (pr_i (by unfold lusC; grind) (rfl))
  · skip
    refine g_iconst dX4_looks_15 ?_
    refine g_goto (tgt := 41) dX4_looks_16 (by decide) ?_
    exact g_iret dX4_looks_41 rfl (Nat.le_of_ble_eq_true rfl) (Nat.le_of_ble_eq_true rfl) (pr_i (by unfold lusC; grind) (rfl))

def rubR (A : Mem) (s : Nat) : Mem := gup (gup (gup (gup A 20 0 0) 45 s (A 45 s - A 45 s / 10)) 20 36 (A 20 36 + A 45 s / 10)) 47 s (A 47 s + 1)
theorem lost_rg {L : Nat → Nat} {B : Mem} (hV : VC L B) : 0 ≤ sumF (fun s => B (200 + 3 * s) 4) (B 3 2).toNat ∧ sumF (fun s => B (200 + 3 * s) 4) (B 3 2).toNat ≤ 99900 := by
  have h2 := vc_ns hV
  have h : ∀ n : Nat, (n : Int) ≤ B 3 2 → 0 ≤ sumF (fun s => B (200 + 3 * s) 4) n ∧ sumF (fun s => B (200 + 3 * s) 4) n ≤ 999 * n := by
    intro n
    induction n with
    | zero => intro _; exact ⟨Int.le_refl _, Int.le_refl _⟩
    | succ n ih =>
      intro hn
      have h3 := (vc_sv hV (show (n : Int) < B 3 2 by omega)).2.2.2.2.1
      have := ih (by omega)
      simp only [sumF]
      omega
  have := h (B 3 2).toNat (by omega)
  omega

set_option maxHeartbeats 1000000 in
set_option maxRecDepth 20000 in
theorem c_X4_rub {L : Nat → Nat} {A B : Mem} (hM : LM L) (hV : VC L B) (hR : Rel B A) (hI : IV B) {x : Int} (hx : -2147483648 ≤ x ∧ x < 2147483648) : Ct mX4_rub [gr 20, gi x] L A (pr (some (gi (if rubE B x = 0 then A 45 x.toNat - A 45 x.toNat / 10 else 0))) L (if rubE B x = 0 then rubR A x.toNat else gup A 20 0 (rubE B x : Nat))) := by
  have hnc := vc_nc hV; have hns := vc_ns hV; have hp0 := (vc_p hV).1
  have rnow := rl_now hR; have rnc := rl_nc hR; have rns := rl_ns hR
  have rlo := rl_lost hR; have hlo := lost_rg hV
  refine Ct_of (ls := [(0, _), (1, _)]) rfl (by decide) (fun _ => rfl) (fun _ => Nat.le_of_ble_eq_true rfl) ?_
  refine g_aload_n 0 dX4_rub_0 rfl rfl ?_
  refine g_aload_n 0 dX4_rub_1 rfl rfl ?_
  refine g_iload_n 1 dX4_rub_2 rfl rfl ?_
  by_cases hs3 : 0 ≤ x ∧ x < B 3 2
  · skip
    obtain ⟨s, rfl⟩ : ∃ s : Nat, x = s := ⟨x.toNat, by omega⟩
    have hs : (s : Int) < B 3 2 := by omega
    have rs := rl_s hR hs; have hsv := vc_sv hV hs
    have e3 := rs.1; have e1 := rs.2.1; have e5 := rs.2.2.1; have e6 := rs.2.2.2.1; have e7 := rs.2.2.2.2.2.2.1; have e8 := rs.2.2.2.2.2.2.2.1
    have v3 := hsv.2.2.2.1; have v5 := hsv.2.2.2.2.2.1; have v4 := hsv.2.2.2.2.1; have v8 := hsv.2.2.2.2.2.2.2.2.1
    refine g_cV_i (My := mX4_isStone) (gs := [_]) (c_X4_isStone hM hV hR (by omega)) mfX4_isStone cf_5 wi_X4_isStone wsl_X4_isStone wm_X4_211 dX4_rub_3 (Nat.le_of_ble_eq_true rfl) rfl (by decide) (n2 (hM 20 rfl)) rfl (fun _ => Nat.le_of_ble_eq_true rfl) (Nat.le_of_ble_eq_true rfl) (Nat.le_of_ble_eq_true rfl) rfl rfl ?_
    refine g_top (y := 1) (by rw [decide_eq_true hs3]; rfl) ?_
    refine g_if_ne (tgt := 13) (by first | omega | (simp only [inB, cellB, decide_eq_true_eq, decide_eq_false_iff_not] at *; omega)) dX4_rub_6 (by decide) (fun h6_1 => ?_) (fun h6_1 => absurd h6_1 (by omega))
    refine g_aload_n 0 dX4_rub_13 rfl rfl ?_
    refine g_iload_n 1 dX4_rub_14 rfl rfl ?_
    refine g_cV_i (My := mX4_isInParcel) (gs := [_]) (c_X4_isInParcel hM hV hR hs) mfX4_isInParcel cf_5 wi_X4_isInParcel wsl_X4_isInParcel wm_X4_214 dX4_rub_15 (Nat.le_of_ble_eq_true rfl) rfl (by decide) (n2 (hM 20 rfl)) rfl (fun _ => Nat.le_of_ble_eq_true rfl) (Nat.le_of_ble_eq_true rfl) (Nat.le_of_ble_eq_true rfl) rfl rfl ?_
    refine g_ifb_ne (tgt := 40) dX4_rub_18 (by decide) (fun h18_2 => ?_) (fun h18_2 => ?_)
    · skip
      refine g_iconst dX4_rub_40 ?_
      refine g_goto (tgt := 45) dX4_rub_41 (by decide) ?_
      refine g_putfi cf_5 0 rfl (by decide) (by decide) rfl (by decide) wf_X4_104 (Or.inl rfl) rfl dX4_rub_45 (n2 (hM 20 rfl)) (by first | omega | (simp only [inB, cellB, decide_eq_true_eq, decide_eq_false_iff_not] at *; omega)) ?_
      refine g_aload_n 0 dX4_rub_48 rfl rfl ?_
      refine g_getfi cf_5 0 rfl (by decide) (by decide) rfl (by decide) wf_X4_104 dX4_rub_49 (n2 (hM 20 rfl)) (fun h49_3 => ?_)
      refine g_top (y := 2) (gup_at _ _ _ _) ?_
      refine g_if_le (tgt := 57) (by first | omega | (simp only [inB, cellB, decide_eq_true_eq, decide_eq_false_iff_not] at *; omega)) dX4_rub_52 (by decide) (fun h52_4 => absurd h52_4 (by omega)) (fun h52_4 => ?_)
      refine g_iconst dX4_rub_55 ?_
      exact g_iret dX4_rub_56 rfl (Nat.le_of_ble_eq_true rfl) (Nat.le_of_ble_eq_true rfl) (pr_i (by first | (rw [show rubE B x = 0 from by (try dsimp only at *); simp only [rubE, inB, cellB, plC, plcC, decide_eq_true_eq, decide_eq_false_iff_not] at *; grind]; rfl) | (rw [show rubE B (s : Int) = 0 from by (try dsimp only at *); simp only [rubE, inB, cellB, plC, plcC, decide_eq_true_eq, decide_eq_false_iff_not] at *; grind]; rfl) | (rw [show rubE B x = 1 from by (try dsimp only at *); simp only [rubE, inB, cellB, plC, plcC, decide_eq_true_eq, decide_eq_false_iff_not] at *; grind]; rfl) | (rw [show rubE B (s : Int) = 1 from by (try dsimp only at *); simp only [rubE, inB, cellB, plC, plcC, decide_eq_true_eq, decide_eq_false_iff_not] at *; grind]; rfl) | (rw [show rubE B x = 2 from by (try dsimp only at *); simp only [rubE, inB, cellB, plC, plcC, decide_eq_true_eq, decide_eq_false_iff_not] at *; grind]; rfl) | (rw [show rubE B (s : Int) = 2 from by (try dsimp only at *); simp only [rubE, inB, cellB, plC, plcC, decide_eq_true_eq, decide_eq_false_iff_not] at *; grind]; rfl)) (by first | (rw [show rubE B x = 0 from by (try dsimp only at *); simp only [rubE, inB, cellB, plC, plcC, decide_eq_true_eq, decide_eq_false_iff_not] at *; grind]; rfl) | (rw [show rubE B (s : Int) = 0 from by (try dsimp only at *); simp only [rubE, inB, cellB, plC, plcC, decide_eq_true_eq, decide_eq_false_iff_not] at *; grind]; rfl) | (rw [show rubE B x = 1 from by (try dsimp only at *); simp only [rubE, inB, cellB, plC, plcC, decide_eq_true_eq, decide_eq_false_iff_not] at *; grind]; rfl) | (rw [show rubE B (s : Int) = 1 from by (try dsimp only at *); simp only [rubE, inB, cellB, plC, plcC, decide_eq_true_eq, decide_eq_false_iff_not] at *; grind]; rfl) | (rw [show rubE B x = 2 from by (try dsimp only at *); simp only [rubE, inB, cellB, plC, plcC, decide_eq_true_eq, decide_eq_false_iff_not] at *; grind]; rfl) | (rw [show rubE B (s : Int) = 2 from by (try dsimp only at *); simp only [rubE, inB, cellB, plC, plcC, decide_eq_true_eq, decide_eq_false_iff_not] at *; grind]; rfl)))
    · skip
      refine g_aload_n 0 dX4_rub_21 rfl rfl ?_
      refine g_getfr2 (r := 51) cf_5 30 rfl (by decide) (by decide) rfl (by decide) wf_X4_89 dX4_rub_22 (hM 20 rfl) rfl ?_
      refine g_iload_n 1 dX4_rub_25 rfl rfl ?_
      refine g_iald (s) (by first | omega | (simp only [inB, cellB, decide_eq_true_eq, decide_eq_false_iff_not] at *; omega)) (by first | omega | (simp only [inB, cellB, decide_eq_true_eq, decide_eq_false_iff_not] at *; omega)) rfl (by decide) dX4_rub_26 (n2 (hM 51 rfl)) (fun h26_5 => ?_)
      refine g_iconst dX4_rub_27 ?_
      refine g_icmp_ne (tgt := 40) (by first | omega | (simp only [inB, cellB, decide_eq_true_eq, decide_eq_false_iff_not] at *; omega)) (by first | omega | (simp only [inB, cellB, decide_eq_true_eq, decide_eq_false_iff_not] at *; omega)) dX4_rub_28 (by decide) (fun h28_6 => ?_) (fun h28_6 => ?_)
      · skip
        refine g_iconst dX4_rub_40 ?_
        refine g_goto (tgt := 45) dX4_rub_41 (by decide) ?_
        refine g_putfi cf_5 0 rfl (by decide) (by decide) rfl (by decide) wf_X4_104 (Or.inl rfl) rfl dX4_rub_45 (n2 (hM 20 rfl)) (by first | omega | (simp only [inB, cellB, decide_eq_true_eq, decide_eq_false_iff_not] at *; omega)) ?_
        refine g_aload_n 0 dX4_rub_48 rfl rfl ?_
        refine g_getfi cf_5 0 rfl (by decide) (by decide) rfl (by decide) wf_X4_104 dX4_rub_49 (n2 (hM 20 rfl)) (fun h49_7 => ?_)
        refine g_top (y := 2) (gup_at _ _ _ _) ?_
        refine g_if_le (tgt := 57) (by first | omega | (simp only [inB, cellB, decide_eq_true_eq, decide_eq_false_iff_not] at *; omega)) dX4_rub_52 (by decide) (fun h52_8 => absurd h52_8 (by omega)) (fun h52_8 => ?_)
        refine g_iconst dX4_rub_55 ?_
        exact g_iret dX4_rub_56 rfl (Nat.le_of_ble_eq_true rfl) (Nat.le_of_ble_eq_true rfl) (pr_i (by first | (rw [show rubE B x = 0 from by (try dsimp only at *); simp only [rubE, inB, cellB, plC, plcC, decide_eq_true_eq, decide_eq_false_iff_not] at *; grind]; rfl) | (rw [show rubE B (s : Int) = 0 from by (try dsimp only at *); simp only [rubE, inB, cellB, plC, plcC, decide_eq_true_eq, decide_eq_false_iff_not] at *; grind]; rfl) | (rw [show rubE B x = 1 from by (try dsimp only at *); simp only [rubE, inB, cellB, plC, plcC, decide_eq_true_eq, decide_eq_false_iff_not] at *; grind]; rfl) | (rw [show rubE B (s : Int) = 1 from by (try dsimp only at *); simp only [rubE, inB, cellB, plC, plcC, decide_eq_true_eq, decide_eq_false_iff_not] at *; grind]; rfl) | (rw [show rubE B x = 2 from by (try dsimp only at *); simp only [rubE, inB, cellB, plC, plcC, decide_eq_true_eq, decide_eq_false_iff_not] at *; grind]; rfl) | (rw [show rubE B (s : Int) = 2 from by (try dsimp only at *); simp only [rubE, inB, cellB, plC, plcC, decide_eq_true_eq, decide_eq_false_iff_not] at *; grind]; rfl)) (by first | (rw [show rubE B x = 0 from by (try dsimp only at *); simp only [rubE, inB, cellB, plC, plcC, decide_eq_true_eq, decide_eq_false_iff_not] at *; grind]; rfl) | (rw [show rubE B (s : Int) = 0 from by (try dsimp only at *); simp only [rubE, inB, cellB, plC, plcC, decide_eq_true_eq, decide_eq_false_iff_not] at *; grind]; rfl) | (rw [show rubE B x = 1 from by (try dsimp only at *); simp only [rubE, inB, cellB, plC, plcC, decide_eq_true_eq, decide_eq_false_iff_not] at *; grind]; rfl) | (rw [show rubE B (s : Int) = 1 from by (try dsimp only at *); simp only [rubE, inB, cellB, plC, plcC, decide_eq_true_eq, decide_eq_false_iff_not] at *; grind]; rfl) | (rw [show rubE B x = 2 from by (try dsimp only at *); simp only [rubE, inB, cellB, plC, plcC, decide_eq_true_eq, decide_eq_false_iff_not] at *; grind]; rfl) | (rw [show rubE B (s : Int) = 2 from by (try dsimp only at *); simp only [rubE, inB, cellB, plC, plcC, decide_eq_true_eq, decide_eq_false_iff_not] at *; grind]; rfl)))
      · skip
        refine g_aload_n 0 dX4_rub_31 rfl rfl ?_
        refine g_iload_n 1 dX4_rub_32 rfl rfl ?_
        refine g_cV_i (My := mX4_looks) (gs := [_]) (c_X4_looks hM hV hR hs) mfX4_looks cf_5 wi_X4_looks wsl_X4_looks wm_X4_217 dX4_rub_33 (Nat.le_of_ble_eq_true rfl) rfl (by decide) (n2 (hM 20 rfl)) rfl (fun _ => Nat.le_of_ble_eq_true rfl) (Nat.le_of_ble_eq_true rfl) (Nat.le_of_ble_eq_true rfl) rfl rfl ?_
        have hlr : 0 ≤ lusC (B (200 + 3 * s) 5) (B (200 + 3 * s) 1) ∧ lusC (B (200 + 3 * s) 5) (B (200 + 3 * s) 1) ≤ 2 := by unfold lusC; split <;> (try split) <;> omega
        refine g_iconst dX4_rub_36 ?_
        refine g_icmp_ne (tgt := 44) (by first | omega | (simp only [inB, cellB, decide_eq_true_eq, decide_eq_false_iff_not] at *; omega)) (by first | omega | (simp only [inB, cellB, decide_eq_true_eq, decide_eq_false_iff_not] at *; omega)) dX4_rub_37 (by decide) (fun h37_9 => ?_) (fun h37_9 => ?_)
        · skip
          refine g_iconst dX4_rub_44 ?_
          refine g_putfi cf_5 0 rfl (by decide) (by decide) rfl (by decide) wf_X4_104 (Or.inl rfl) rfl dX4_rub_45 (n2 (hM 20 rfl)) (by first | omega | (simp only [inB, cellB, decide_eq_true_eq, decide_eq_false_iff_not] at *; omega)) ?_
          refine g_aload_n 0 dX4_rub_48 rfl rfl ?_
          refine g_getfi cf_5 0 rfl (by decide) (by decide) rfl (by decide) wf_X4_104 dX4_rub_49 (n2 (hM 20 rfl)) (fun h49_10 => ?_)
          refine g_top (y := 0) (gup_at _ _ _ _) ?_
          refine g_if_le (tgt := 57) (by first | omega | (simp only [inB, cellB, decide_eq_true_eq, decide_eq_false_iff_not] at *; omega)) dX4_rub_52 (by decide) (fun h52_11 => ?_) (fun h52_11 => absurd h52_11 (by omega))
          refine g_aload_n 0 dX4_rub_57 rfl rfl ?_
          refine g_getfr2 (r := 45) cf_5 24 rfl (by decide) (by decide) rfl (by decide) wf_X4_71 dX4_rub_58 (hM 20 rfl) rfl ?_
          refine g_iload_n 1 dX4_rub_61 rfl rfl ?_
          refine g_iald (s) (by first | omega | (simp only [inB, cellB, decide_eq_true_eq, decide_eq_false_iff_not] at *; omega)) (by first | omega | (simp only [inB, cellB, decide_eq_true_eq, decide_eq_false_iff_not] at *; omega)) rfl (by decide) dX4_rub_62 (n2 (hM 45 rfl)) (fun h62_12 => ?_)
          refine g_top (y := A 45 s) (by simp [gup_ap]) ?_
          refine g_bipush dX4_rub_63 (by decide) ?_
          refine g_idiv (by first | omega | (simp only [inB, cellB, decide_eq_true_eq, decide_eq_false_iff_not] at *; omega)) (by first | omega | (simp only [inB, cellB, decide_eq_true_eq, decide_eq_false_iff_not] at *; omega)) dX4_rub_65 ?_
          refine g_st (ls2 := [(2, _), (0, _), (1, _)]) dX4_rub_66 rfl (by decide) (c1_cr (c1_ci c1_0)) rfl ?_
          refine g_aload_n 1 dX4_rub_67 rfl rfl ?_
          refine g_getfr2 (r := 45) cf_5 24 rfl (by decide) (by decide) rfl (by decide) wf_X4_71 dX4_rub_68 (hM 20 rfl) rfl ?_
          refine g_iload_n 2 dX4_rub_71 rfl rfl ?_
          refine g_dup2 dX4_rub_72 (c1_i _) (c1_r _) ?_
          refine g_iald (s) (by first | omega | (simp only [inB, cellB, decide_eq_true_eq, decide_eq_false_iff_not] at *; omega)) (by first | omega | (simp only [inB, cellB, decide_eq_true_eq, decide_eq_false_iff_not] at *; omega)) rfl (by decide) dX4_rub_73 (n2 (hM 45 rfl)) (fun h73_13 => ?_)
          refine g_top (y := A 45 s) (by simp [gup_ap]) ?_
          refine g_iload_n 0 dX4_rub_74 rfl rfl ?_
          refine g_isub dX4_rub_75 ?_
          refine g_iast (s) (by first | omega | (simp only [inB, cellB, decide_eq_true_eq, decide_eq_false_iff_not] at *; omega)) (by first | omega | (simp only [inB, cellB, decide_eq_true_eq, decide_eq_false_iff_not] at *; omega)) (by first | omega | (simp only [inB, cellB, decide_eq_true_eq, decide_eq_false_iff_not] at *; omega)) rfl (by decide) dX4_rub_76 (n2 (hM 45 rfl)) ?_
          refine g_aload_n 1 dX4_rub_77 rfl rfl ?_
          refine g_dup dX4_rub_78 (c1_r _) ?_
          refine g_getfi cf_5 36 rfl (by decide) (by decide) rfl (by decide) wf_X4_220 dX4_rub_79 (n2 (hM 20 rfl)) (fun h79_14 => ?_)
          refine g_top (y := A 20 36) (by simp [gup_ap]) ?_
          refine g_iload_n 0 dX4_rub_82 rfl rfl ?_
          refine g_iadd dX4_rub_83 ?_
          refine g_putfi cf_5 36 rfl (by decide) (by decide) rfl (by decide) wf_X4_220 (Or.inl rfl) rfl dX4_rub_84 (n2 (hM 20 rfl)) (by first | omega | (simp only [inB, cellB, decide_eq_true_eq, decide_eq_false_iff_not] at *; omega)) ?_
          refine g_aload_n 1 dX4_rub_87 rfl rfl ?_
          refine g_getfr2 (r := 47) cf_5 26 rfl (by decide) (by decide) rfl (by decide) wf_X4_77 dX4_rub_88 (hM 20 rfl) rfl ?_
          refine g_iload_n 2 dX4_rub_91 rfl rfl ?_
          refine g_dup2 dX4_rub_92 (c1_i _) (c1_r _) ?_
          refine g_iald (s) (by first | omega | (simp only [inB, cellB, decide_eq_true_eq, decide_eq_false_iff_not] at *; omega)) (by first | omega | (simp only [inB, cellB, decide_eq_true_eq, decide_eq_false_iff_not] at *; omega)) rfl (by decide) dX4_rub_93 (n2 (hM 47 rfl)) (fun h93_15 => ?_)
          refine g_top (y := A 47 s) (by simp [gup_ap]) ?_
          refine g_iconst dX4_rub_94 ?_
          refine g_iadd dX4_rub_95 ?_
          refine g_iast (s) (by first | omega | (simp only [inB, cellB, decide_eq_true_eq, decide_eq_false_iff_not] at *; omega)) (by first | omega | (simp only [inB, cellB, decide_eq_true_eq, decide_eq_false_iff_not] at *; omega)) (by first | omega | (simp only [inB, cellB, decide_eq_true_eq, decide_eq_false_iff_not] at *; omega)) rfl (by decide) dX4_rub_96 (n2 (hM 47 rfl)) ?_
          refine g_aload_n 1 dX4_rub_97 rfl rfl ?_
          refine g_getfr2 (r := 45) cf_5 24 rfl (by decide) (by decide) rfl (by decide) wf_X4_71 dX4_rub_98 (hM 20 rfl) rfl ?_
          refine g_iload_n 2 dX4_rub_101 rfl rfl ?_
          refine g_iald (s) (by first | omega | (simp only [inB, cellB, decide_eq_true_eq, decide_eq_false_iff_not] at *; omega)) (by first | omega | (simp only [inB, cellB, decide_eq_true_eq, decide_eq_false_iff_not] at *; omega)) rfl (by decide) dX4_rub_102 (n2 (hM 45 rfl)) (fun h102_16 => ?_)
          refine g_top (y := A 45 s - A 45 s / 10) (by simp [gup_ap]) ?_
          exact g_iret dX4_rub_103 rfl (Nat.le_of_ble_eq_true rfl) (Nat.le_of_ble_eq_true rfl) (pr_i (by first | (rw [show rubE B x = 0 from by (try dsimp only at *); simp only [rubE, inB, cellB, plC, plcC, decide_eq_true_eq, decide_eq_false_iff_not] at *; grind]; rfl) | (rw [show rubE B (s : Int) = 0 from by (try dsimp only at *); simp only [rubE, inB, cellB, plC, plcC, decide_eq_true_eq, decide_eq_false_iff_not] at *; grind]; rfl) | (rw [show rubE B x = 1 from by (try dsimp only at *); simp only [rubE, inB, cellB, plC, plcC, decide_eq_true_eq, decide_eq_false_iff_not] at *; grind]; rfl) | (rw [show rubE B (s : Int) = 1 from by (try dsimp only at *); simp only [rubE, inB, cellB, plC, plcC, decide_eq_true_eq, decide_eq_false_iff_not] at *; grind]; rfl) | (rw [show rubE B x = 2 from by (try dsimp only at *); simp only [rubE, inB, cellB, plC, plcC, decide_eq_true_eq, decide_eq_false_iff_not] at *; grind]; rfl) | (rw [show rubE B (s : Int) = 2 from by (try dsimp only at *); simp only [rubE, inB, cellB, plC, plcC, decide_eq_true_eq, decide_eq_false_iff_not] at *; grind]; rfl)) (by first | (rw [show rubE B x = 0 from by (try dsimp only at *); simp only [rubE, inB, cellB, plC, plcC, decide_eq_true_eq, decide_eq_false_iff_not] at *; grind]; rfl) | (rw [show rubE B (s : Int) = 0 from by (try dsimp only at *); simp only [rubE, inB, cellB, plC, plcC, decide_eq_true_eq, decide_eq_false_iff_not] at *; grind]; rfl) | (rw [show rubE B x = 1 from by (try dsimp only at *); simp only [rubE, inB, cellB, plC, plcC, decide_eq_true_eq, decide_eq_false_iff_not] at *; grind]; rfl) | (rw [show rubE B (s : Int) = 1 from by (try dsimp only at *); simp only [rubE, inB, cellB, plC, plcC, decide_eq_true_eq, decide_eq_false_iff_not] at *; grind]; rfl) | (rw [show rubE B x = 2 from by (try dsimp only at *); simp only [rubE, inB, cellB, plC, plcC, decide_eq_true_eq, decide_eq_false_iff_not] at *; grind]; rfl) | (rw [show rubE B (s : Int) = 2 from by (try dsimp only at *); simp only [rubE, inB, cellB, plC, plcC, decide_eq_true_eq, decide_eq_false_iff_not] at *; grind]; rfl)))
        · skip
          refine g_iconst dX4_rub_40 ?_
          refine g_goto (tgt := 45) dX4_rub_41 (by decide) ?_
          refine g_putfi cf_5 0 rfl (by decide) (by decide) rfl (by decide) wf_X4_104 (Or.inl rfl) rfl dX4_rub_45 (n2 (hM 20 rfl)) (by first | omega | (simp only [inB, cellB, decide_eq_true_eq, decide_eq_false_iff_not] at *; omega)) ?_
          refine g_aload_n 0 dX4_rub_48 rfl rfl ?_
          refine g_getfi cf_5 0 rfl (by decide) (by decide) rfl (by decide) wf_X4_104 dX4_rub_49 (n2 (hM 20 rfl)) (fun h49_17 => ?_)
          refine g_top (y := 2) (gup_at _ _ _ _) ?_
          refine g_if_le (tgt := 57) (by first | omega | (simp only [inB, cellB, decide_eq_true_eq, decide_eq_false_iff_not] at *; omega)) dX4_rub_52 (by decide) (fun h52_18 => absurd h52_18 (by omega)) (fun h52_18 => ?_)
          refine g_iconst dX4_rub_55 ?_
          exact g_iret dX4_rub_56 rfl (Nat.le_of_ble_eq_true rfl) (Nat.le_of_ble_eq_true rfl) (pr_i (by first | (rw [show rubE B x = 0 from by (try dsimp only at *); simp only [rubE, inB, cellB, plC, plcC, decide_eq_true_eq, decide_eq_false_iff_not] at *; grind]; rfl) | (rw [show rubE B (s : Int) = 0 from by (try dsimp only at *); simp only [rubE, inB, cellB, plC, plcC, decide_eq_true_eq, decide_eq_false_iff_not] at *; grind]; rfl) | (rw [show rubE B x = 1 from by (try dsimp only at *); simp only [rubE, inB, cellB, plC, plcC, decide_eq_true_eq, decide_eq_false_iff_not] at *; grind]; rfl) | (rw [show rubE B (s : Int) = 1 from by (try dsimp only at *); simp only [rubE, inB, cellB, plC, plcC, decide_eq_true_eq, decide_eq_false_iff_not] at *; grind]; rfl) | (rw [show rubE B x = 2 from by (try dsimp only at *); simp only [rubE, inB, cellB, plC, plcC, decide_eq_true_eq, decide_eq_false_iff_not] at *; grind]; rfl) | (rw [show rubE B (s : Int) = 2 from by (try dsimp only at *); simp only [rubE, inB, cellB, plC, plcC, decide_eq_true_eq, decide_eq_false_iff_not] at *; grind]; rfl)) (by first | (rw [show rubE B x = 0 from by (try dsimp only at *); simp only [rubE, inB, cellB, plC, plcC, decide_eq_true_eq, decide_eq_false_iff_not] at *; grind]; rfl) | (rw [show rubE B (s : Int) = 0 from by (try dsimp only at *); simp only [rubE, inB, cellB, plC, plcC, decide_eq_true_eq, decide_eq_false_iff_not] at *; grind]; rfl) | (rw [show rubE B x = 1 from by (try dsimp only at *); simp only [rubE, inB, cellB, plC, plcC, decide_eq_true_eq, decide_eq_false_iff_not] at *; grind]; rfl) | (rw [show rubE B (s : Int) = 1 from by (try dsimp only at *); simp only [rubE, inB, cellB, plC, plcC, decide_eq_true_eq, decide_eq_false_iff_not] at *; grind]; rfl) | (rw [show rubE B x = 2 from by (try dsimp only at *); simp only [rubE, inB, cellB, plC, plcC, decide_eq_true_eq, decide_eq_false_iff_not] at *; grind]; rfl) | (rw [show rubE B (s : Int) = 2 from by (try dsimp only at *); simp only [rubE, inB, cellB, plC, plcC, decide_eq_true_eq, decide_eq_false_iff_not] at *; grind]; rfl)))
  · skip
    refine g_cV_i (My := mX4_isStone) (gs := [_]) (c_X4_isStone hM hV hR (by omega)) mfX4_isStone cf_5 wi_X4_isStone wsl_X4_isStone wm_X4_211 dX4_rub_3 (Nat.le_of_ble_eq_true rfl) rfl (by decide) (n2 (hM 20 rfl)) rfl (fun _ => Nat.le_of_ble_eq_true rfl) (Nat.le_of_ble_eq_true rfl) (Nat.le_of_ble_eq_true rfl) rfl rfl ?_
    refine g_top (y := 0) (by rw [decide_eq_false hs3]; rfl) ?_
    refine g_if_ne (tgt := 13) (by first | omega | (simp only [inB, cellB, decide_eq_true_eq, decide_eq_false_iff_not] at *; omega)) dX4_rub_6 (by decide) (fun h6_19 => absurd h6_19 (by omega)) (fun h6_19 => ?_)
    refine g_iconst dX4_rub_9 ?_
    refine g_goto (tgt := 45) dX4_rub_10 (by decide) ?_
    refine g_putfi cf_5 0 rfl (by decide) (by decide) rfl (by decide) wf_X4_104 (Or.inl rfl) rfl dX4_rub_45 (n2 (hM 20 rfl)) (by first | omega | (simp only [inB, cellB, decide_eq_true_eq, decide_eq_false_iff_not] at *; omega)) ?_
    refine g_aload_n 0 dX4_rub_48 rfl rfl ?_
    refine g_getfi cf_5 0 rfl (by decide) (by decide) rfl (by decide) wf_X4_104 dX4_rub_49 (n2 (hM 20 rfl)) (fun h49_20 => ?_)
    refine g_top (y := 1) (gup_at _ _ _ _) ?_
    refine g_if_le (tgt := 57) (by first | omega | (simp only [inB, cellB, decide_eq_true_eq, decide_eq_false_iff_not] at *; omega)) dX4_rub_52 (by decide) (fun h52_21 => absurd h52_21 (by omega)) (fun h52_21 => ?_)
    refine g_iconst dX4_rub_55 ?_
    exact g_iret dX4_rub_56 rfl (Nat.le_of_ble_eq_true rfl) (Nat.le_of_ble_eq_true rfl) (pr_i (by first | (rw [show rubE B x = 0 from by (try dsimp only at *); simp only [rubE, inB, cellB, plC, plcC, decide_eq_true_eq, decide_eq_false_iff_not] at *; grind]; rfl) | (rw [show rubE B (s : Int) = 0 from by (try dsimp only at *); simp only [rubE, inB, cellB, plC, plcC, decide_eq_true_eq, decide_eq_false_iff_not] at *; grind]; rfl) | (rw [show rubE B x = 1 from by (try dsimp only at *); simp only [rubE, inB, cellB, plC, plcC, decide_eq_true_eq, decide_eq_false_iff_not] at *; grind]; rfl) | (rw [show rubE B (s : Int) = 1 from by (try dsimp only at *); simp only [rubE, inB, cellB, plC, plcC, decide_eq_true_eq, decide_eq_false_iff_not] at *; grind]; rfl) | (rw [show rubE B x = 2 from by (try dsimp only at *); simp only [rubE, inB, cellB, plC, plcC, decide_eq_true_eq, decide_eq_false_iff_not] at *; grind]; rfl) | (rw [show rubE B (s : Int) = 2 from by (try dsimp only at *); simp only [rubE, inB, cellB, plC, plcC, decide_eq_true_eq, decide_eq_false_iff_not] at *; grind]; rfl)) (by first | (rw [show rubE B x = 0 from by (try dsimp only at *); simp only [rubE, inB, cellB, plC, plcC, decide_eq_true_eq, decide_eq_false_iff_not] at *; grind]; rfl) | (rw [show rubE B (s : Int) = 0 from by (try dsimp only at *); simp only [rubE, inB, cellB, plC, plcC, decide_eq_true_eq, decide_eq_false_iff_not] at *; grind]; rfl) | (rw [show rubE B x = 1 from by (try dsimp only at *); simp only [rubE, inB, cellB, plC, plcC, decide_eq_true_eq, decide_eq_false_iff_not] at *; grind]; rfl) | (rw [show rubE B (s : Int) = 1 from by (try dsimp only at *); simp only [rubE, inB, cellB, plC, plcC, decide_eq_true_eq, decide_eq_false_iff_not] at *; grind]; rfl) | (rw [show rubE B x = 2 from by (try dsimp only at *); simp only [rubE, inB, cellB, plC, plcC, decide_eq_true_eq, decide_eq_false_iff_not] at *; grind]; rfl) | (rw [show rubE B (s : Int) = 2 from by (try dsimp only at *); simp only [rubE, inB, cellB, plC, plcC, decide_eq_true_eq, decide_eq_false_iff_not] at *; grind]; rfl)))

set_option maxRecDepth 20000 in
theorem c_X4_hour {L : Nat → Nat} {A B : Mem} (hM : LM L) (hV : VC L B) (hR : Rel B A) : Ct mX4_hour [gr 20] L A (pr (some (gi (B 0 9))) L (gup A 20 0 0)) := by
  have hnc := vc_nc hV; have hns := vc_ns hV; have hp0 := (vc_p hV).1
  have rnow := rl_now hR; have rnc := rl_nc hR; have rns := rl_ns hR
  refine Ct_of (ls := [(0, _)]) rfl (by decide) (fun _ => rfl) (fun _ => Nat.le_of_ble_eq_true rfl) ?_
  refine g_aload_n 0 dX4_hour_0 rfl rfl ?_
  refine g_iconst dX4_hour_1 ?_
  refine g_putfi cf_5 0 rfl (by decide) (by decide) rfl (by decide) wf_X4_104 (Or.inl rfl) rfl dX4_hour_2 (n2 (hM 20 rfl)) (by omega) ?_
  refine g_aload_n 0 dX4_hour_5 rfl rfl ?_
  refine g_getfi cf_5 1 rfl (by decide) (by decide) rfl (by decide) wf_X4_118 dX4_hour_6 (n2 (hM 20 rfl)) (fun h6_1 => ?_)
  refine g_top (y := A 20 1) (by simp [gup_ap]) ?_
  exact g_iret dX4_hour_9 rfl (Nat.le_of_ble_eq_true rfl) (Nat.le_of_ble_eq_true rfl) (pr_i (rnow) (rfl))

set_option maxRecDepth 20000 in
theorem c_X4_thrown {L : Nat → Nat} {A : Mem} (hM : LM L) : Ct mX4_thrown [gr 20] L A (pr (some (gi (A 20 0))) L A) := by
  refine Ct_of (ls := [(0, _)]) rfl (by decide) (fun _ => rfl) (fun _ => Nat.le_of_ble_eq_true rfl) ?_
  refine g_aload_n 0 dX4_thrown_0 rfl rfl ?_
  refine g_getfi cf_5 0 rfl (by decide) (by decide) rfl (by decide) wf_X4_104 dX4_thrown_1 (n2 (hM 20 rfl)) (fun h1_1 => ?_)
  exact g_iret dX4_thrown_4 rfl (Nat.le_of_ble_eq_true rfl) (Nat.le_of_ble_eq_true rfl) (pr_i (rfl) (rfl))

